abbrev cX11_go : ByteArray := prog_13_method_16_code
def yX11_go : MethodName := ⟨RX11, "go", "()V"⟩
theorem t1603 : Cond.code yX11_go cX11_go 5 none ∈ GW := gw_mem 1717 (by decide +kernel) (by decide +kernel)
abbrev O_m_go900 (cy : Nat → ClassId) (am : Nat → Nat) (u : Unit) : va_W := [(am 0, .inr (12, [.int 0, .ref (am 1), .int 0, .int 0, .int 900, .int 0, .int 0, .int 0, .int 0, .int 0, .int 0, .int 0, .long 0, .int 0, .ref (am 2), .ref (am 3), .ref (am 4), .ref (am 5), .ref (am 6), .ref (am 7), .ref (am 8), .ref (am 9), .ref (am 10), .ref (am 11), .int 0, .int (-1), .ref (am 12), .ref (am 13), .ref (am 14), .int 0, .ref (am 15), .ref (am 16), .int 0, .int 0, .int 0, .ref (am 17), .int 0, .int 0, .ref (am 18), .ref (am 19), .int 0, .int 0, .ref (am 20), .int 0, .int 0, .int 0, .int 0]))]
theorem dX11_go_0 : decode cX11_go 0 = .ok (.aload_n 0, 1) := by decide +kernel
theorem dX11_go_1 : decode cX11_go 1 = .ok (.getfield 21, 3) := by decide +kernel
theorem t1451 : Cond.fieldLink RX11 21 "LikenessPoundModel" "to" "I" ∈ GW := gw_mem 1565 (by decide +kernel) (by decide +kernel)
theorem gf_X11_21 {p : Program} {l : Launch} {e : Env} {R : Room} {s : State} {m : MethodId} {args : Array Value} {below : List Frame} {meth : Method} {c : Code} {H : Heap} {locs : List Loc} {cells slots : Nat} {Q : State → Prop} {cc : ByteArray} {pc : Nat} {ls : Array Slot} {rest : List Value} {D : va_G} {a : Nat} {tys : List (ClassId × FieldType)} {ws : va_W} (hx : p.tables.exec = Jvm.exec) (hb : c.code = cc) (hts : ∀ w ∈ GW, w.before args s = true) (hown : s.vm.findClass RX11 = some m.cls) (hK : va_K D vwCl tys s) (hP : va_P D vwCl ws H) (q0 : Nat) {fs : List Value} (he : ws[q0]? = some (a, .inr (12, fs))) {v : Value} (hv : fs[5]? = some v) (hdg : decode cc pc = .ok (.getfield 21, 3)) (kk : W p l e R s m args below meth c H locs cells slots Q (F0 m (pc + 3) ls (v :: rest))) : W p l e R s m args below meth c H locs cells slots Q (F0 m pc ls (.ref a :: rest)) := va_get (C := RX11) (T := TX11) (N := 47) (ci := 12) hx hb hts inX11 hown hK hP q0 he rfl 5 (by decide) (hts _ t1451) (fun _ h => h) hv hdg kk
theorem dX11_go_4 : decode cX11_go 4 = .ok (.aload_n 0, 1) := by decide +kernel
theorem dX11_go_5 : decode cX11_go 5 = .ok (.getfield 18, 3) := by decide +kernel
theorem t1449 : Cond.fieldLink RX11 18 "LikenessPoundModel" "size" "I" ∈ GW := gw_mem 1563 (by decide +kernel) (by decide +kernel)
theorem gf_X11_18 {p : Program} {l : Launch} {e : Env} {R : Room} {s : State} {m : MethodId} {args : Array Value} {below : List Frame} {meth : Method} {c : Code} {H : Heap} {locs : List Loc} {cells slots : Nat} {Q : State → Prop} {cc : ByteArray} {pc : Nat} {ls : Array Slot} {rest : List Value} {D : va_G} {a : Nat} {tys : List (ClassId × FieldType)} {ws : va_W} (hx : p.tables.exec = Jvm.exec) (hb : c.code = cc) (hts : ∀ w ∈ GW, w.before args s = true) (hown : s.vm.findClass RX11 = some m.cls) (hK : va_K D vwCl tys s) (hP : va_P D vwCl ws H) (q0 : Nat) {fs : List Value} (he : ws[q0]? = some (a, .inr (12, fs))) {v : Value} (hv : fs[3]? = some v) (hdg : decode cc pc = .ok (.getfield 18, 3)) (kk : W p l e R s m args below meth c H locs cells slots Q (F0 m (pc + 3) ls (v :: rest))) : W p l e R s m args below meth c H locs cells slots Q (F0 m pc ls (.ref a :: rest)) := va_get (C := RX11) (T := TX11) (N := 47) (ci := 12) hx hb hts inX11 hown hK hP q0 he rfl 3 (by decide) (hts _ t1449) (fun _ h => h) hv hdg kk
theorem dX11_go_8 : decode cX11_go 8 = .ok (.if_icmp .ge 44, 3) := by decide +kernel
theorem dX11_go_52 : decode cX11_go 52 = .ok (.aload_n 0, 1) := by decide +kernel
theorem dX11_go_53 : decode cX11_go 53 = .ok (.aload_n 0, 1) := by decide +kernel
theorem dX11_go_54 : decode cX11_go 54 = .ok (.getfield 21, 3) := by decide +kernel
theorem dX11_go_57 : decode cX11_go 57 = .ok (.putfield 24, 3) := by decide +kernel
theorem t1452 : Cond.fieldLink RX11 24 "LikenessPoundModel" "from" "I" ∈ GW := gw_mem 1566 (by decide +kernel) (by decide +kernel)
theorem pf_X11_24 {p : Program} {l : Launch} {e : Env} {R : Room} {s : State} {m : MethodId} {args : Array Value} {below : List Frame} {meth : Method} {c : Code} {H : Heap} {locs : List Loc} {cells slots : Nat} {Q : State → Prop} {cc : ByteArray} {pc : Nat} {ls : Array Slot} {rest : List Value} {D : va_G} {A : Nat → Prop} {a : Nat} {tys : List (ClassId × FieldType)} {ws : va_W} {H0 : Heap} (hx : p.tables.exec = Jvm.exec) (hb : c.code = cc) (hts : ∀ w ∈ GW, w.before args s = true) (hown : s.vm.findClass RX11 = some m.cls) (hK : va_K D vwCl tys s) (hP : va_P D vwCl ws H) (hD : va_D A ws) (hS0 : va_S A H0 H locs) (q0 : Nat) {fs : List Value} (he : ws[q0]? = some (a, .inr (12, fs))) {v : Value} (hn : narrow (tyX11 6) v = v) (hfit : fits (tyX11 6) v = true) (hl : 6 < fs.length) (hdg : decode cc pc = .ok (.putfield 24, 3)) (kk : ∀ (H1 : Heap) (locs1 : List Loc), va_P D vwCl (ws.set q0 (a, .inr (12, fs.set 6 v))) H1 → va_D A (ws.set q0 (a, .inr (12, fs.set 6 v))) → va_S A H0 H1 locs1 → W p l e R s m args below meth c H1 locs1 cells slots Q (F0 m (pc + 3) ls rest)) : W p l e R s m args below meth c H locs cells slots Q (F0 m pc ls (v :: .ref a :: rest)) := va_put (C := RX11) (T := TX11) (N := 47) (ci := 12) hx hb hts inX11 tyX11 tkX11 nmX11 hown hK hP hD hS0 q0 he rfl 6 (by decide) (hts _ t1452) (fun _ h => h) rfl (tkX11 6 (by decide)) hn hfit hl hdg kk
theorem dX11_go_60 : decode cX11_go 60 = .ok (.aload_n 0, 1) := by decide +kernel
theorem dX11_go_61 : decode cX11_go 61 = .ok (.getfield 18, 3) := by decide +kernel
theorem dX11_go_64 : decode cX11_go 64 = .ok (.aload_n 0, 1) := by decide +kernel
theorem dX11_go_65 : decode cX11_go 65 = .ok (.getfield 27, 3) := by decide +kernel
theorem t1450 : Cond.fieldLink RX11 27 "LikenessPoundModel" "limit" "I" ∈ GW := gw_mem 1564 (by decide +kernel) (by decide +kernel)
theorem gf_X11_27 {p : Program} {l : Launch} {e : Env} {R : Room} {s : State} {m : MethodId} {args : Array Value} {below : List Frame} {meth : Method} {c : Code} {H : Heap} {locs : List Loc} {cells slots : Nat} {Q : State → Prop} {cc : ByteArray} {pc : Nat} {ls : Array Slot} {rest : List Value} {D : va_G} {a : Nat} {tys : List (ClassId × FieldType)} {ws : va_W} (hx : p.tables.exec = Jvm.exec) (hb : c.code = cc) (hts : ∀ w ∈ GW, w.before args s = true) (hown : s.vm.findClass RX11 = some m.cls) (hK : va_K D vwCl tys s) (hP : va_P D vwCl ws H) (q0 : Nat) {fs : List Value} (he : ws[q0]? = some (a, .inr (12, fs))) {v : Value} (hv : fs[4]? = some v) (hdg : decode cc pc = .ok (.getfield 27, 3)) (kk : W p l e R s m args below meth c H locs cells slots Q (F0 m (pc + 3) ls (v :: rest))) : W p l e R s m args below meth c H locs cells slots Q (F0 m pc ls (.ref a :: rest)) := va_get (C := RX11) (T := TX11) (N := 47) (ci := 12) hx hb hts inX11 hown hK hP q0 he rfl 4 (by decide) (hts _ t1450) (fun _ h => h) hv hdg kk
theorem dX11_go_68 : decode cX11_go 68 = .ok (.if_icmp .le 28, 3) := by decide +kernel
theorem dX11_go_96 : decode cX11_go 96 = .ok (.aload_n 0, 1) := by decide +kernel
theorem dX11_go_97 : decode cX11_go 97 = .ok (.getfield 21, 3) := by decide +kernel
theorem dX11_go_100 : decode cX11_go 100 = .ok (.aload_n 0, 1) := by decide +kernel
theorem dX11_go_101 : decode cX11_go 101 = .ok (.getfield 18, 3) := by decide +kernel
theorem dX11_go_104 : decode cX11_go 104 = .ok (.if_icmp .lt 9, 3) := by decide +kernel
theorem dX11_go_107 : decode cX11_go 107 = .ok (.aload_n 0, 1) := by decide +kernel
theorem dX11_go_108 : decode cX11_go 108 = .ok (.iconst 0, 1) := by decide +kernel
theorem dX11_go_109 : decode cX11_go 109 = .ok (.putfield 30, 3) := by decide +kernel
theorem t1453 : Cond.fieldLink RX11 30 "LikenessPoundModel" "kind" "I" ∈ GW := gw_mem 1567 (by decide +kernel) (by decide +kernel)
theorem pf_X11_30 {p : Program} {l : Launch} {e : Env} {R : Room} {s : State} {m : MethodId} {args : Array Value} {below : List Frame} {meth : Method} {c : Code} {H : Heap} {locs : List Loc} {cells slots : Nat} {Q : State → Prop} {cc : ByteArray} {pc : Nat} {ls : Array Slot} {rest : List Value} {D : va_G} {A : Nat → Prop} {a : Nat} {tys : List (ClassId × FieldType)} {ws : va_W} {H0 : Heap} (hx : p.tables.exec = Jvm.exec) (hb : c.code = cc) (hts : ∀ w ∈ GW, w.before args s = true) (hown : s.vm.findClass RX11 = some m.cls) (hK : va_K D vwCl tys s) (hP : va_P D vwCl ws H) (hD : va_D A ws) (hS0 : va_S A H0 H locs) (q0 : Nat) {fs : List Value} (he : ws[q0]? = some (a, .inr (12, fs))) {v : Value} (hn : narrow (tyX11 7) v = v) (hfit : fits (tyX11 7) v = true) (hl : 7 < fs.length) (hdg : decode cc pc = .ok (.putfield 30, 3)) (kk : ∀ (H1 : Heap) (locs1 : List Loc), va_P D vwCl (ws.set q0 (a, .inr (12, fs.set 7 v))) H1 → va_D A (ws.set q0 (a, .inr (12, fs.set 7 v))) → va_S A H0 H1 locs1 → W p l e R s m args below meth c H1 locs1 cells slots Q (F0 m (pc + 3) ls rest)) : W p l e R s m args below meth c H locs cells slots Q (F0 m pc ls (v :: .ref a :: rest)) := va_put (C := RX11) (T := TX11) (N := 47) (ci := 12) hx hb hts inX11 tyX11 tkX11 nmX11 hown hK hP hD hS0 q0 he rfl 7 (by decide) (hts _ t1453) (fun _ h => h) rfl (tkX11 7 (by decide)) hn hfit hl hdg kk
theorem dX11_go_112 : decode cX11_go 112 = .ok (.return_, 1) := by decide +kernel
set_option maxHeartbeats 4000000 in
set_option maxRecDepth 100000 in
theorem m_go900 (l : Launch) (dC : Nat → ClassId) (dI : Nat → Nat → Nat) (cy : Nat → ClassId) (sz : Nat) (am : Nat → Nat)  : Met l yX11_go (wl yX11_go cX11_go 5 none) ({ frames := 0, cells := 0, slots := 0, locals := 0 }) (Pw (dC, dI) vwCl cy [(am 0, .inr (12, [.int 0, .ref (am 1), .int 0, .int 0, .int 900, .int 0, .int 0, .int 0, .int 0, .int 0, .int 0, .int 0, .long 0, .int 0, .ref (am 2), .ref (am 3), .ref (am 4), .ref (am 5), .ref (am 6), .ref (am 7), .ref (am 8), .ref (am 9), .ref (am 10), .ref (am 11), .int 0, .int (-1), .ref (am 12), .ref (am 13), .ref (am 14), .int 0, .ref (am 15), .ref (am 16), .int 0, .int 0, .int 0, .ref (am 17), .int 0, .int 0, .ref (am 18), .ref (am 19), .int 0, .int 0, .ref (am 20), .int 0, .int 0, .int 0, .int 0]))] sz [.ref (am 0)] nE) (Qv (dC, dI) vwCl (fun (u : Unit) => True) (O_m_go900 cy am) (va_A [(am 0, .inr (12, [.int 0, .ref (am 1), .int 0, .int 0, .int 900, .int 0, .int 0, .int 0, .int 0, .int 0, .int 0, .int 0, .long 0, .int 0, .ref (am 2), .ref (am 3), .ref (am 4), .ref (am 5), .ref (am 6), .ref (am 7), .ref (am 8), .ref (am 9), .ref (am 10), .ref (am 11), .int 0, .int (-1), .ref (am 12), .ref (am 13), .ref (am 14), .int 0, .ref (am 15), .ref (am 16), .int 0, .int 0, .int 0, .ref (am 17), .int 0, .int 0, .ref (am 18), .ref (am 19), .int 0, .int 0, .ref (am 20), .int 0, .int 0, .int 0, .int 0]))] sz)) 0 0 (va_A [(am 0, .inr (12, [.int 0, .ref (am 1), .int 0, .int 0, .int 900, .int 0, .int 0, .int 0, .int 0, .int 0, .int 0, .int 0, .long 0, .int 0, .ref (am 2), .ref (am 3), .ref (am 4), .ref (am 5), .ref (am 6), .ref (am 7), .ref (am 8), .ref (am 9), .ref (am 10), .ref (am 11), .int 0, .int (-1), .ref (am 12), .ref (am 13), .ref (am 14), .int 0, .ref (am 15), .ref (am 16), .int 0, .int 0, .int 0, .ref (am 17), .int 0, .int 0, .ref (am 18), .ref (am 19), .int 0, .int 0, .ref (am 20), .int 0, .int 0, .int 0, .int 0]))] sz) := by
  refine mw (Qc := Qv (dC, dI) vwCl (fun (u : Unit) => True) (O_m_go900 cy am)) RX11 rfl (by decide +kernel) (Nat.le_of_ble_eq_true rfl) ?_
  intro p e s m below meth c A hx hb hr hlocks av9 hav hts hown hnm hml hK hP hD hA hS hE hAe Q9 hQ9 ls hl
  have hl : lv_has ls 5 [(0, .ref (am 0))] := hl
  refine lv_aload_n hx hb dX11_go_0 rfl (lv_at hl 0 rfl) ?_
  refine gf_X11_21 hx hb hts hown hK hP 0 rfl rfl dX11_go_1 ?_
  refine lv_aload_n hx hb dX11_go_4 rfl (lv_at hl 0 rfl) ?_
  refine gf_X11_18 hx hb hts hown hK hP 0 rfl rfl dX11_go_5 ?_
  refine lv_icmp_ge (tgt := 52) hx hb dX11_go_8 (by decide) (fun _ => ?_) (fun c9 => absurd (by decide) c9)
  refine lv_aload_n hx hb dX11_go_52 rfl (lv_at hl 0 rfl) ?_
  refine lv_aload_n hx hb dX11_go_53 rfl (lv_at hl 0 rfl) ?_
  refine gf_X11_21 hx hb hts hown hK hP 0 rfl rfl dX11_go_54 ?_
  refine pf_X11_24 hx hb hts hown hK hP hD hS 0 rfl rfl rfl (Nat.le_of_ble_eq_true rfl) dX11_go_57 (fun H locs hP hD hS => ?_)
  have hP : va_P (dC, dI) vwCl [(am 0, .inr (12, [.int 0, .ref (am 1), .int 0, .int 0, .int 900, .int 0, .int 0, .int 0, .int 0, .int 0, .int 0, .int 0, .long 0, .int 0, .ref (am 2), .ref (am 3), .ref (am 4), .ref (am 5), .ref (am 6), .ref (am 7), .ref (am 8), .ref (am 9), .ref (am 10), .ref (am 11), .int 0, .int (-1), .ref (am 12), .ref (am 13), .ref (am 14), .int 0, .ref (am 15), .ref (am 16), .int 0, .int 0, .int 0, .ref (am 17), .int 0, .int 0, .ref (am 18), .ref (am 19), .int 0, .int 0, .ref (am 20), .int 0, .int 0, .int 0, .int 0]))] H := hP
  have hD : va_D A [(am 0, .inr (12, [.int 0, .ref (am 1), .int 0, .int 0, .int 900, .int 0, .int 0, .int 0, .int 0, .int 0, .int 0, .int 0, .long 0, .int 0, .ref (am 2), .ref (am 3), .ref (am 4), .ref (am 5), .ref (am 6), .ref (am 7), .ref (am 8), .ref (am 9), .ref (am 10), .ref (am 11), .int 0, .int (-1), .ref (am 12), .ref (am 13), .ref (am 14), .int 0, .ref (am 15), .ref (am 16), .int 0, .int 0, .int 0, .ref (am 17), .int 0, .int 0, .ref (am 18), .ref (am 19), .int 0, .int 0, .ref (am 20), .int 0, .int 0, .int 0, .int 0]))] := hD
  refine lv_aload_n hx hb dX11_go_60 rfl (lv_at hl 0 rfl) ?_
  refine gf_X11_18 hx hb hts hown hK hP 0 rfl rfl dX11_go_61 ?_
  refine lv_aload_n hx hb dX11_go_64 rfl (lv_at hl 0 rfl) ?_
  refine gf_X11_27 hx hb hts hown hK hP 0 rfl rfl dX11_go_65 ?_
  refine lv_icmp_le (tgt := 96) hx hb dX11_go_68 (by decide) (fun _ => ?_) (fun c9 => absurd (by decide) c9)
  refine lv_aload_n hx hb dX11_go_96 rfl (lv_at hl 0 rfl) ?_
  refine gf_X11_21 hx hb hts hown hK hP 0 rfl rfl dX11_go_97 ?_
  refine lv_aload_n hx hb dX11_go_100 rfl (lv_at hl 0 rfl) ?_
  refine gf_X11_18 hx hb hts hown hK hP 0 rfl rfl dX11_go_101 ?_
  refine lv_icmp_lt (tgt := 113) hx hb dX11_go_104 (by decide) (fun c9 => absurd c9 (by decide)) (fun _ => ?_)
  refine lv_aload_n hx hb dX11_go_107 rfl (lv_at hl 0 rfl) ?_
  refine lv_iconst (v := 0) hx hb dX11_go_108 (by decide) ?_
  refine pf_X11_30 hx hb hts hown hK hP hD hS 0 rfl rfl rfl (Nat.le_of_ble_eq_true rfl) dX11_go_109 (fun H locs hP hD hS => ?_)
  have hP : va_P (dC, dI) vwCl [(am 0, .inr (12, [.int 0, .ref (am 1), .int 0, .int 0, .int 900, .int 0, .int 0, .int 0, .int 0, .int 0, .int 0, .int 0, .long 0, .int 0, .ref (am 2), .ref (am 3), .ref (am 4), .ref (am 5), .ref (am 6), .ref (am 7), .ref (am 8), .ref (am 9), .ref (am 10), .ref (am 11), .int 0, .int (-1), .ref (am 12), .ref (am 13), .ref (am 14), .int 0, .ref (am 15), .ref (am 16), .int 0, .int 0, .int 0, .ref (am 17), .int 0, .int 0, .ref (am 18), .ref (am 19), .int 0, .int 0, .ref (am 20), .int 0, .int 0, .int 0, .int 0]))] H := hP
  have hD : va_D A [(am 0, .inr (12, [.int 0, .ref (am 1), .int 0, .int 0, .int 900, .int 0, .int 0, .int 0, .int 0, .int 0, .int 0, .int 0, .long 0, .int 0, .ref (am 2), .ref (am 3), .ref (am 4), .ref (am 5), .ref (am 6), .ref (am 7), .ref (am 8), .ref (am 9), .ref (am 10), .ref (am 11), .int 0, .int (-1), .ref (am 12), .ref (am 13), .ref (am 14), .int 0, .ref (am 15), .ref (am 16), .int 0, .int 0, .int 0, .ref (am 17), .int 0, .int 0, .ref (am 18), .ref (am 19), .int 0, .int 0, .ref (am 20), .int 0, .int 0, .int 0, .int 0]))] := hD
  rw [hQ9]
  exact re_v () hx hb hr hlocks trivial (hP.sub [0] rfl) (hD.sub [0] rfl rfl) hS dX11_go_112
abbrev O_m_go400 (cy : Nat → ClassId) (am : Nat → Nat) (u : Unit) : va_W := [(am 0, .inr (12, [.int 0, .ref (am 1), .int 0, .int 0, .int 400, .int 0, .int 0, .int 0, .int 0, .int 0, .int 0, .int 0, .long 0, .int 0, .ref (am 2), .ref (am 3), .ref (am 4), .ref (am 5), .ref (am 6), .ref (am 7), .ref (am 8), .ref (am 9), .ref (am 10), .ref (am 11), .int 0, .int (-1), .ref (am 12), .ref (am 13), .ref (am 14), .int 0, .ref (am 15), .ref (am 16), .int 0, .int 0, .int 0, .ref (am 17), .int 0, .int 0, .ref (am 18), .ref (am 19), .int 0, .int 0, .ref (am 20), .int 0, .int 0, .int 0, .int 0]))]
set_option maxHeartbeats 4000000 in
set_option maxRecDepth 100000 in
theorem m_go400 (l : Launch) (dC : Nat → ClassId) (dI : Nat → Nat → Nat) (cy : Nat → ClassId) (sz : Nat) (am : Nat → Nat)  : Met l yX11_go (wl yX11_go cX11_go 5 none) ({ frames := 0, cells := 0, slots := 0, locals := 0 }) (Pw (dC, dI) vwCl cy [(am 0, .inr (12, [.int 0, .ref (am 1), .int 0, .int 0, .int 400, .int 0, .int 0, .int 0, .int 0, .int 0, .int 0, .int 0, .long 0, .int 0, .ref (am 2), .ref (am 3), .ref (am 4), .ref (am 5), .ref (am 6), .ref (am 7), .ref (am 8), .ref (am 9), .ref (am 10), .ref (am 11), .int 0, .int (-1), .ref (am 12), .ref (am 13), .ref (am 14), .int 0, .ref (am 15), .ref (am 16), .int 0, .int 0, .int 0, .ref (am 17), .int 0, .int 0, .ref (am 18), .ref (am 19), .int 0, .int 0, .ref (am 20), .int 0, .int 0, .int 0, .int 0]))] sz [.ref (am 0)] nE) (Qv (dC, dI) vwCl (fun (u : Unit) => True) (O_m_go400 cy am) (va_A [(am 0, .inr (12, [.int 0, .ref (am 1), .int 0, .int 0, .int 400, .int 0, .int 0, .int 0, .int 0, .int 0, .int 0, .int 0, .long 0, .int 0, .ref (am 2), .ref (am 3), .ref (am 4), .ref (am 5), .ref (am 6), .ref (am 7), .ref (am 8), .ref (am 9), .ref (am 10), .ref (am 11), .int 0, .int (-1), .ref (am 12), .ref (am 13), .ref (am 14), .int 0, .ref (am 15), .ref (am 16), .int 0, .int 0, .int 0, .ref (am 17), .int 0, .int 0, .ref (am 18), .ref (am 19), .int 0, .int 0, .ref (am 20), .int 0, .int 0, .int 0, .int 0]))] sz)) 0 0 (va_A [(am 0, .inr (12, [.int 0, .ref (am 1), .int 0, .int 0, .int 400, .int 0, .int 0, .int 0, .int 0, .int 0, .int 0, .int 0, .long 0, .int 0, .ref (am 2), .ref (am 3), .ref (am 4), .ref (am 5), .ref (am 6), .ref (am 7), .ref (am 8), .ref (am 9), .ref (am 10), .ref (am 11), .int 0, .int (-1), .ref (am 12), .ref (am 13), .ref (am 14), .int 0, .ref (am 15), .ref (am 16), .int 0, .int 0, .int 0, .ref (am 17), .int 0, .int 0, .ref (am 18), .ref (am 19), .int 0, .int 0, .ref (am 20), .int 0, .int 0, .int 0, .int 0]))] sz) := by
  refine mw (Qc := Qv (dC, dI) vwCl (fun (u : Unit) => True) (O_m_go400 cy am)) RX11 rfl (by decide +kernel) (Nat.le_of_ble_eq_true rfl) ?_
  intro p e s m below meth c A hx hb hr hlocks av9 hav hts hown hnm hml hK hP hD hA hS hE hAe Q9 hQ9 ls hl
  have hl : lv_has ls 5 [(0, .ref (am 0))] := hl
  refine lv_aload_n hx hb dX11_go_0 rfl (lv_at hl 0 rfl) ?_
  refine gf_X11_21 hx hb hts hown hK hP 0 rfl rfl dX11_go_1 ?_
  refine lv_aload_n hx hb dX11_go_4 rfl (lv_at hl 0 rfl) ?_
  refine gf_X11_18 hx hb hts hown hK hP 0 rfl rfl dX11_go_5 ?_
  refine lv_icmp_ge (tgt := 52) hx hb dX11_go_8 (by decide) (fun _ => ?_) (fun c9 => absurd (by decide) c9)
  refine lv_aload_n hx hb dX11_go_52 rfl (lv_at hl 0 rfl) ?_
  refine lv_aload_n hx hb dX11_go_53 rfl (lv_at hl 0 rfl) ?_
  refine gf_X11_21 hx hb hts hown hK hP 0 rfl rfl dX11_go_54 ?_
  refine pf_X11_24 hx hb hts hown hK hP hD hS 0 rfl rfl rfl (Nat.le_of_ble_eq_true rfl) dX11_go_57 (fun H locs hP hD hS => ?_)
  have hP : va_P (dC, dI) vwCl [(am 0, .inr (12, [.int 0, .ref (am 1), .int 0, .int 0, .int 400, .int 0, .int 0, .int 0, .int 0, .int 0, .int 0, .int 0, .long 0, .int 0, .ref (am 2), .ref (am 3), .ref (am 4), .ref (am 5), .ref (am 6), .ref (am 7), .ref (am 8), .ref (am 9), .ref (am 10), .ref (am 11), .int 0, .int (-1), .ref (am 12), .ref (am 13), .ref (am 14), .int 0, .ref (am 15), .ref (am 16), .int 0, .int 0, .int 0, .ref (am 17), .int 0, .int 0, .ref (am 18), .ref (am 19), .int 0, .int 0, .ref (am 20), .int 0, .int 0, .int 0, .int 0]))] H := hP
  have hD : va_D A [(am 0, .inr (12, [.int 0, .ref (am 1), .int 0, .int 0, .int 400, .int 0, .int 0, .int 0, .int 0, .int 0, .int 0, .int 0, .long 0, .int 0, .ref (am 2), .ref (am 3), .ref (am 4), .ref (am 5), .ref (am 6), .ref (am 7), .ref (am 8), .ref (am 9), .ref (am 10), .ref (am 11), .int 0, .int (-1), .ref (am 12), .ref (am 13), .ref (am 14), .int 0, .ref (am 15), .ref (am 16), .int 0, .int 0, .int 0, .ref (am 17), .int 0, .int 0, .ref (am 18), .ref (am 19), .int 0, .int 0, .ref (am 20), .int 0, .int 0, .int 0, .int 0]))] := hD
  refine lv_aload_n hx hb dX11_go_60 rfl (lv_at hl 0 rfl) ?_
  refine gf_X11_18 hx hb hts hown hK hP 0 rfl rfl dX11_go_61 ?_
  refine lv_aload_n hx hb dX11_go_64 rfl (lv_at hl 0 rfl) ?_
  refine gf_X11_27 hx hb hts hown hK hP 0 rfl rfl dX11_go_65 ?_
  refine lv_icmp_le (tgt := 96) hx hb dX11_go_68 (by decide) (fun _ => ?_) (fun c9 => absurd (by decide) c9)
  refine lv_aload_n hx hb dX11_go_96 rfl (lv_at hl 0 rfl) ?_
  refine gf_X11_21 hx hb hts hown hK hP 0 rfl rfl dX11_go_97 ?_
  refine lv_aload_n hx hb dX11_go_100 rfl (lv_at hl 0 rfl) ?_
  refine gf_X11_18 hx hb hts hown hK hP 0 rfl rfl dX11_go_101 ?_
  refine lv_icmp_lt (tgt := 113) hx hb dX11_go_104 (by decide) (fun c9 => absurd c9 (by decide)) (fun _ => ?_)
  refine lv_aload_n hx hb dX11_go_107 rfl (lv_at hl 0 rfl) ?_
  refine lv_iconst (v := 0) hx hb dX11_go_108 (by decide) ?_
  refine pf_X11_30 hx hb hts hown hK hP hD hS 0 rfl rfl rfl (Nat.le_of_ble_eq_true rfl) dX11_go_109 (fun H locs hP hD hS => ?_)
  have hP : va_P (dC, dI) vwCl [(am 0, .inr (12, [.int 0, .ref (am 1), .int 0, .int 0, .int 400, .int 0, .int 0, .int 0, .int 0, .int 0, .int 0, .int 0, .long 0, .int 0, .ref (am 2), .ref (am 3), .ref (am 4), .ref (am 5), .ref (am 6), .ref (am 7), .ref (am 8), .ref (am 9), .ref (am 10), .ref (am 11), .int 0, .int (-1), .ref (am 12), .ref (am 13), .ref (am 14), .int 0, .ref (am 15), .ref (am 16), .int 0, .int 0, .int 0, .ref (am 17), .int 0, .int 0, .ref (am 18), .ref (am 19), .int 0, .int 0, .ref (am 20), .int 0, .int 0, .int 0, .int 0]))] H := hP
  have hD : va_D A [(am 0, .inr (12, [.int 0, .ref (am 1), .int 0, .int 0, .int 400, .int 0, .int 0, .int 0, .int 0, .int 0, .int 0, .int 0, .long 0, .int 0, .ref (am 2), .ref (am 3), .ref (am 4), .ref (am 5), .ref (am 6), .ref (am 7), .ref (am 8), .ref (am 9), .ref (am 10), .ref (am 11), .int 0, .int (-1), .ref (am 12), .ref (am 13), .ref (am 14), .int 0, .ref (am 15), .ref (am 16), .int 0, .int 0, .int 0, .ref (am 17), .int 0, .int 0, .ref (am 18), .ref (am 19), .int 0, .int 0, .ref (am 20), .int 0, .int 0, .int 0, .int 0]))] := hD
  rw [hQ9]
  exact re_v () hx hb hr hlocks trivial (hP.sub [0] rfl) (hD.sub [0] rfl rfl) hS dX11_go_112
abbrev O_m_go200 (cy : Nat → ClassId) (am : Nat → Nat) (u : Unit) : va_W := [(am 0, .inr (12, [.int 0, .ref (am 1), .int 0, .int 0, .int 200, .int 0, .int 0, .int 0, .int 0, .int 0, .int 0, .int 0, .long 0, .int 0, .ref (am 2), .ref (am 3), .ref (am 4), .ref (am 5), .ref (am 6), .ref (am 7), .ref (am 8), .ref (am 9), .ref (am 10), .ref (am 11), .int 0, .int (-1), .ref (am 12), .ref (am 13), .ref (am 14), .int 0, .ref (am 15), .ref (am 16), .int 0, .int 0, .int 0, .ref (am 17), .int 0, .int 0, .ref (am 18), .ref (am 19), .int 0, .int 0, .ref (am 20), .int 0, .int 0, .int 0, .int 0]))]
set_option maxHeartbeats 4000000 in
set_option maxRecDepth 100000 in
theorem m_go200 (l : Launch) (dC : Nat → ClassId) (dI : Nat → Nat → Nat) (cy : Nat → ClassId) (sz : Nat) (am : Nat → Nat)  : Met l yX11_go (wl yX11_go cX11_go 5 none) ({ frames := 0, cells := 0, slots := 0, locals := 0 }) (Pw (dC, dI) vwCl cy [(am 0, .inr (12, [.int 0, .ref (am 1), .int 0, .int 0, .int 200, .int 0, .int 0, .int 0, .int 0, .int 0, .int 0, .int 0, .long 0, .int 0, .ref (am 2), .ref (am 3), .ref (am 4), .ref (am 5), .ref (am 6), .ref (am 7), .ref (am 8), .ref (am 9), .ref (am 10), .ref (am 11), .int 0, .int (-1), .ref (am 12), .ref (am 13), .ref (am 14), .int 0, .ref (am 15), .ref (am 16), .int 0, .int 0, .int 0, .ref (am 17), .int 0, .int 0, .ref (am 18), .ref (am 19), .int 0, .int 0, .ref (am 20), .int 0, .int 0, .int 0, .int 0]))] sz [.ref (am 0)] nE) (Qv (dC, dI) vwCl (fun (u : Unit) => True) (O_m_go200 cy am) (va_A [(am 0, .inr (12, [.int 0, .ref (am 1), .int 0, .int 0, .int 200, .int 0, .int 0, .int 0, .int 0, .int 0, .int 0, .int 0, .long 0, .int 0, .ref (am 2), .ref (am 3), .ref (am 4), .ref (am 5), .ref (am 6), .ref (am 7), .ref (am 8), .ref (am 9), .ref (am 10), .ref (am 11), .int 0, .int (-1), .ref (am 12), .ref (am 13), .ref (am 14), .int 0, .ref (am 15), .ref (am 16), .int 0, .int 0, .int 0, .ref (am 17), .int 0, .int 0, .ref (am 18), .ref (am 19), .int 0, .int 0, .ref (am 20), .int 0, .int 0, .int 0, .int 0]))] sz)) 0 0 (va_A [(am 0, .inr (12, [.int 0, .ref (am 1), .int 0, .int 0, .int 200, .int 0, .int 0, .int 0, .int 0, .int 0, .int 0, .int 0, .long 0, .int 0, .ref (am 2), .ref (am 3), .ref (am 4), .ref (am 5), .ref (am 6), .ref (am 7), .ref (am 8), .ref (am 9), .ref (am 10), .ref (am 11), .int 0, .int (-1), .ref (am 12), .ref (am 13), .ref (am 14), .int 0, .ref (am 15), .ref (am 16), .int 0, .int 0, .int 0, .ref (am 17), .int 0, .int 0, .ref (am 18), .ref (am 19), .int 0, .int 0, .ref (am 20), .int 0, .int 0, .int 0, .int 0]))] sz) := by
  refine mw (Qc := Qv (dC, dI) vwCl (fun (u : Unit) => True) (O_m_go200 cy am)) RX11 rfl (by decide +kernel) (Nat.le_of_ble_eq_true rfl) ?_
  intro p e s m below meth c A hx hb hr hlocks av9 hav hts hown hnm hml hK hP hD hA hS hE hAe Q9 hQ9 ls hl
  have hl : lv_has ls 5 [(0, .ref (am 0))] := hl
  refine lv_aload_n hx hb dX11_go_0 rfl (lv_at hl 0 rfl) ?_
  refine gf_X11_21 hx hb hts hown hK hP 0 rfl rfl dX11_go_1 ?_
  refine lv_aload_n hx hb dX11_go_4 rfl (lv_at hl 0 rfl) ?_
  refine gf_X11_18 hx hb hts hown hK hP 0 rfl rfl dX11_go_5 ?_
  refine lv_icmp_ge (tgt := 52) hx hb dX11_go_8 (by decide) (fun _ => ?_) (fun c9 => absurd (by decide) c9)
  refine lv_aload_n hx hb dX11_go_52 rfl (lv_at hl 0 rfl) ?_
  refine lv_aload_n hx hb dX11_go_53 rfl (lv_at hl 0 rfl) ?_
  refine gf_X11_21 hx hb hts hown hK hP 0 rfl rfl dX11_go_54 ?_
  refine pf_X11_24 hx hb hts hown hK hP hD hS 0 rfl rfl rfl (Nat.le_of_ble_eq_true rfl) dX11_go_57 (fun H locs hP hD hS => ?_)
  have hP : va_P (dC, dI) vwCl [(am 0, .inr (12, [.int 0, .ref (am 1), .int 0, .int 0, .int 200, .int 0, .int 0, .int 0, .int 0, .int 0, .int 0, .int 0, .long 0, .int 0, .ref (am 2), .ref (am 3), .ref (am 4), .ref (am 5), .ref (am 6), .ref (am 7), .ref (am 8), .ref (am 9), .ref (am 10), .ref (am 11), .int 0, .int (-1), .ref (am 12), .ref (am 13), .ref (am 14), .int 0, .ref (am 15), .ref (am 16), .int 0, .int 0, .int 0, .ref (am 17), .int 0, .int 0, .ref (am 18), .ref (am 19), .int 0, .int 0, .ref (am 20), .int 0, .int 0, .int 0, .int 0]))] H := hP
  have hD : va_D A [(am 0, .inr (12, [.int 0, .ref (am 1), .int 0, .int 0, .int 200, .int 0, .int 0, .int 0, .int 0, .int 0, .int 0, .int 0, .long 0, .int 0, .ref (am 2), .ref (am 3), .ref (am 4), .ref (am 5), .ref (am 6), .ref (am 7), .ref (am 8), .ref (am 9), .ref (am 10), .ref (am 11), .int 0, .int (-1), .ref (am 12), .ref (am 13), .ref (am 14), .int 0, .ref (am 15), .ref (am 16), .int 0, .int 0, .int 0, .ref (am 17), .int 0, .int 0, .ref (am 18), .ref (am 19), .int 0, .int 0, .ref (am 20), .int 0, .int 0, .int 0, .int 0]))] := hD
  refine lv_aload_n hx hb dX11_go_60 rfl (lv_at hl 0 rfl) ?_
  refine gf_X11_18 hx hb hts hown hK hP 0 rfl rfl dX11_go_61 ?_
  refine lv_aload_n hx hb dX11_go_64 rfl (lv_at hl 0 rfl) ?_
  refine gf_X11_27 hx hb hts hown hK hP 0 rfl rfl dX11_go_65 ?_
  refine lv_icmp_le (tgt := 96) hx hb dX11_go_68 (by decide) (fun _ => ?_) (fun c9 => absurd (by decide) c9)
  refine lv_aload_n hx hb dX11_go_96 rfl (lv_at hl 0 rfl) ?_
  refine gf_X11_21 hx hb hts hown hK hP 0 rfl rfl dX11_go_97 ?_
  refine lv_aload_n hx hb dX11_go_100 rfl (lv_at hl 0 rfl) ?_
  refine gf_X11_18 hx hb hts hown hK hP 0 rfl rfl dX11_go_101 ?_
  refine lv_icmp_lt (tgt := 113) hx hb dX11_go_104 (by decide) (fun c9 => absurd c9 (by decide)) (fun _ => ?_)
  refine lv_aload_n hx hb dX11_go_107 rfl (lv_at hl 0 rfl) ?_
  refine lv_iconst (v := 0) hx hb dX11_go_108 (by decide) ?_
  refine pf_X11_30 hx hb hts hown hK hP hD hS 0 rfl rfl rfl (Nat.le_of_ble_eq_true rfl) dX11_go_109 (fun H locs hP hD hS => ?_)
  have hP : va_P (dC, dI) vwCl [(am 0, .inr (12, [.int 0, .ref (am 1), .int 0, .int 0, .int 200, .int 0, .int 0, .int 0, .int 0, .int 0, .int 0, .int 0, .long 0, .int 0, .ref (am 2), .ref (am 3), .ref (am 4), .ref (am 5), .ref (am 6), .ref (am 7), .ref (am 8), .ref (am 9), .ref (am 10), .ref (am 11), .int 0, .int (-1), .ref (am 12), .ref (am 13), .ref (am 14), .int 0, .ref (am 15), .ref (am 16), .int 0, .int 0, .int 0, .ref (am 17), .int 0, .int 0, .ref (am 18), .ref (am 19), .int 0, .int 0, .ref (am 20), .int 0, .int 0, .int 0, .int 0]))] H := hP
  have hD : va_D A [(am 0, .inr (12, [.int 0, .ref (am 1), .int 0, .int 0, .int 200, .int 0, .int 0, .int 0, .int 0, .int 0, .int 0, .int 0, .long 0, .int 0, .ref (am 2), .ref (am 3), .ref (am 4), .ref (am 5), .ref (am 6), .ref (am 7), .ref (am 8), .ref (am 9), .ref (am 10), .ref (am 11), .int 0, .int (-1), .ref (am 12), .ref (am 13), .ref (am 14), .int 0, .ref (am 15), .ref (am 16), .int 0, .int 0, .int 0, .ref (am 17), .int 0, .int 0, .ref (am 18), .ref (am 19), .int 0, .int 0, .ref (am 20), .int 0, .int 0, .int 0, .int 0]))] := hD
  rw [hQ9]
  exact re_v () hx hb hr hlocks trivial (hP.sub [0] rfl) (hD.sub [0] rfl rfl) hS dX11_go_112
abbrev cX11_take : ByteArray := prog_13_method_6_code
def yX11_take : MethodName := ⟨RX11, "take", "()I"⟩
theorem t1599 : Cond.code yX11_take cX11_take 2 (some .int) ∈ GW := gw_mem 1713 (by decide +kernel) (by decide +kernel)
abbrev O_m_take (cy : Nat → ClassId) (am : Nat → Nat) (u : Unit) : va_W := [(am 0, .inr (12, [.int 0, .ref (am 1), .int 0, .int 0, .int 0, .int 0, .int 0, .int 0, .int 0, .int 0, .int 0, .int 0, .long 0, .int 0, .ref (am 2), .ref (am 3), .ref (am 4), .ref (am 5), .ref (am 6), .ref (am 7), .ref (am 8), .ref (am 9), .ref (am 10), .ref (am 11), .int 0, .int (-1), .ref (am 12), .ref (am 13), .ref (am 14), .int 0, .ref (am 15), .ref (am 16), .int 0, .int 0, .int 0, .ref (am 17), .int 0, .int 0, .ref (am 18), .ref (am 19), .int 0, .int 0, .ref (am 20), .int 0, .int 0, .int 0, .int 0]))]
theorem dX11_take_0 : decode cX11_take 0 = .ok (.aload_n 0, 1) := by decide +kernel
theorem dX11_take_1 : decode cX11_take 1 = .ok (.getfield 11, 3) := by decide +kernel
theorem dX11_take_4 : decode cX11_take 4 = .ok (.istore_n 1, 1) := by decide +kernel
theorem dX11_take_5 : decode cX11_take 5 = .ok (.aload_n 0, 1) := by decide +kernel
theorem dX11_take_6 : decode cX11_take 6 = .ok (.iconst 0, 1) := by decide +kernel
theorem dX11_take_7 : decode cX11_take 7 = .ok (.putfield 11, 3) := by decide +kernel
theorem dX11_take_10 : decode cX11_take 10 = .ok (.iload_n 1, 1) := by decide +kernel
theorem dX11_take_11 : decode cX11_take 11 = .ok (.ireturn, 1) := by decide +kernel
set_option maxHeartbeats 4000000 in
set_option maxRecDepth 100000 in
theorem m_take (l : Launch) (dC : Nat → ClassId) (dI : Nat → Nat → Nat) (cy : Nat → ClassId) (sz : Nat) (am : Nat → Nat)  : Met l yX11_take (wl yX11_take cX11_take 2 (some .int)) ({ frames := 0, cells := 0, slots := 0, locals := 0 }) (Pw (dC, dI) vwCl cy [(am 0, .inr (12, [.int 0, .ref (am 1), .int 0, .int 0, .int 0, .int 0, .int 0, .int 0, .int 0, .int 0, .int 0, .int 0, .long 0, .int 0, .ref (am 2), .ref (am 3), .ref (am 4), .ref (am 5), .ref (am 6), .ref (am 7), .ref (am 8), .ref (am 9), .ref (am 10), .ref (am 11), .int 0, .int (-1), .ref (am 12), .ref (am 13), .ref (am 14), .int 0, .ref (am 15), .ref (am 16), .int 0, .int 0, .int 0, .ref (am 17), .int 0, .int 0, .ref (am 18), .ref (am 19), .int 0, .int 0, .ref (am 20), .int 0, .int 0, .int 0, .int 0]))] sz [.ref (am 0)] nE) (Qi (dC, dI) vwCl (fun (r : Int32) (u : Unit) => r = 0) (O_m_take cy am) (va_A [(am 0, .inr (12, [.int 0, .ref (am 1), .int 0, .int 0, .int 0, .int 0, .int 0, .int 0, .int 0, .int 0, .int 0, .int 0, .long 0, .int 0, .ref (am 2), .ref (am 3), .ref (am 4), .ref (am 5), .ref (am 6), .ref (am 7), .ref (am 8), .ref (am 9), .ref (am 10), .ref (am 11), .int 0, .int (-1), .ref (am 12), .ref (am 13), .ref (am 14), .int 0, .ref (am 15), .ref (am 16), .int 0, .int 0, .int 0, .ref (am 17), .int 0, .int 0, .ref (am 18), .ref (am 19), .int 0, .int 0, .ref (am 20), .int 0, .int 0, .int 0, .int 0]))] sz)) 0 0 (va_A [(am 0, .inr (12, [.int 0, .ref (am 1), .int 0, .int 0, .int 0, .int 0, .int 0, .int 0, .int 0, .int 0, .int 0, .int 0, .long 0, .int 0, .ref (am 2), .ref (am 3), .ref (am 4), .ref (am 5), .ref (am 6), .ref (am 7), .ref (am 8), .ref (am 9), .ref (am 10), .ref (am 11), .int 0, .int (-1), .ref (am 12), .ref (am 13), .ref (am 14), .int 0, .ref (am 15), .ref (am 16), .int 0, .int 0, .int 0, .ref (am 17), .int 0, .int 0, .ref (am 18), .ref (am 19), .int 0, .int 0, .ref (am 20), .int 0, .int 0, .int 0, .int 0]))] sz) := by
  refine mw (Qc := Qi (dC, dI) vwCl (fun (r : Int32) (u : Unit) => r = 0) (O_m_take cy am)) RX11 rfl (by decide +kernel) (Nat.le_of_ble_eq_true rfl) ?_
  intro p e s m below meth c A hx hb hr hlocks av9 hav hts hown hnm hml hK hP hD hA hS hE hAe Q9 hQ9 ls hl
  have hl : lv_has ls 2 [(0, .ref (am 0))] := hl
  refine lv_aload_n hx hb dX11_take_0 rfl (lv_at hl 0 rfl) ?_
  refine gf_X11_11 hx hb hts hown hK hP 0 rfl rfl dX11_take_1 ?_
  refine lv_istore_n (lv' := [(1, .int 0), (0, .ref (am 0))]) hx hb dX11_take_4 rfl hl (by decide) rfl (fun ls hl => ?_)
  refine lv_aload_n hx hb dX11_take_5 rfl (lv_at hl 1 rfl) ?_
  refine lv_iconst (v := 0) hx hb dX11_take_6 (by decide) ?_
  refine pf_X11_11 hx hb hts hown hK hP hD hS 0 rfl rfl rfl (Nat.le_of_ble_eq_true rfl) dX11_take_7 (fun H locs hP hD hS => ?_)
  have hP : va_P (dC, dI) vwCl [(am 0, .inr (12, [.int 0, .ref (am 1), .int 0, .int 0, .int 0, .int 0, .int 0, .int 0, .int 0, .int 0, .int 0, .int 0, .long 0, .int 0, .ref (am 2), .ref (am 3), .ref (am 4), .ref (am 5), .ref (am 6), .ref (am 7), .ref (am 8), .ref (am 9), .ref (am 10), .ref (am 11), .int 0, .int (-1), .ref (am 12), .ref (am 13), .ref (am 14), .int 0, .ref (am 15), .ref (am 16), .int 0, .int 0, .int 0, .ref (am 17), .int 0, .int 0, .ref (am 18), .ref (am 19), .int 0, .int 0, .ref (am 20), .int 0, .int 0, .int 0, .int 0]))] H := hP
  have hD : va_D A [(am 0, .inr (12, [.int 0, .ref (am 1), .int 0, .int 0, .int 0, .int 0, .int 0, .int 0, .int 0, .int 0, .int 0, .int 0, .long 0, .int 0, .ref (am 2), .ref (am 3), .ref (am 4), .ref (am 5), .ref (am 6), .ref (am 7), .ref (am 8), .ref (am 9), .ref (am 10), .ref (am 11), .int 0, .int (-1), .ref (am 12), .ref (am 13), .ref (am 14), .int 0, .ref (am 15), .ref (am 16), .int 0, .int 0, .int 0, .ref (am 17), .int 0, .int 0, .ref (am 18), .ref (am 19), .int 0, .int 0, .ref (am 20), .int 0, .int 0, .int 0, .int 0]))] := hD
  refine lv_iload_n hx hb dX11_take_10 rfl (lv_at hl 0 rfl) ?_
  rw [hQ9]
  exact re_i () hx hb hr hlocks rfl (hP.sub [0] rfl) (hD.sub [0] rfl rfl) hS dX11_take_11
abbrev cX11_begin : ByteArray := prog_13_method_25_code
def yX11_begin : MethodName := ⟨RX11, "begin", "(I)V"⟩
theorem t1595 : Cond.code yX11_begin cX11_begin 2 none ∈ GW := gw_mem 1709 (by decide +kernel) (by decide +kernel)
abbrev O_m_begin900 (cy : Nat → ClassId) (am : Nat → Nat) (u : Unit) : va_W := [(am 0, .inr (12, [.int 0, .ref (am 1), .int 0, .int 0, .int 900, .int 0, .int 0, .int 0, .int 0, .int 0, .int 0, .int 0, .long 0, .int 0, .ref (am 2), .ref (am 3), .ref (am 4), .ref (am 5), .ref (am 6), .ref (am 7), .ref (am 8), .ref (am 9), .ref (am 10), .ref (am 11), .int 0, .int (-1), .ref (am 12), .ref (am 13), .ref (am 14), .int 0, .ref (am 15), .ref (am 16), .int 0, .int 0, .int 0, .ref (am 17), .int 0, .int 0, .ref (am 18), .ref (am 19), .int 0, .int 0, .ref (am 20), .int 0, .int 0, .int 0, .int 0]))]
theorem dX11_begin_0 : decode cX11_begin 0 = .ok (.aload_n 0, 1) := by decide +kernel
theorem dX11_begin_1 : decode cX11_begin 1 = .ok (.iconst 0, 1) := by decide +kernel
theorem dX11_begin_2 : decode cX11_begin 2 = .ok (.putfield 1, 3) := by decide +kernel
theorem dX11_begin_5 : decode cX11_begin 5 = .ok (.aload_n 0, 1) := by decide +kernel
theorem dX11_begin_6 : decode cX11_begin 6 = .ok (.aload_n 0, 1) := by decide +kernel
theorem dX11_begin_7 : decode cX11_begin 7 = .ok (.invokevirtual 89, 3) := by decide +kernel
theorem t1596 : Cond.methodLink RX11 89 yX11_take ∈ GW := gw_mem 1710 (by decide +kernel) (by decide +kernel)
theorem t1598 : Cond.instanceMethod yX11_take ∈ GW := gw_mem 1712 (by decide +kernel) (by decide +kernel)
theorem s41 : Cond.selects RX11 yX11_take yX11_take ∈ GW := gw_mem 41 (by decide +kernel) (by decide +kernel)
theorem cw_X11_89 {R : Room} {s : State} {args : Array Value} {rm : Room} {mc ms : Nat} (hts : ∀ w ∈ GW, w.before args s = true) (hrc : rm.cells = mc) (hrs : rm.slots = ms) (hR : rm.frames + 1 ≤ R.frames ∧ 8 + (2 + 11) + rm.locals ≤ R.locals) : CallW R s args RX11 RX11 89 yX11_take cX11_take 2 (some .int) (wl yX11_take cX11_take 2 (some .int)) rm mc ms 0 := cwV 0 hts (gi_V t1596 t1598 s41 t18 t1599) rfl hrc hrs (by decide +kernel) hR
theorem dX11_begin_10 : decode cX11_begin 10 = .ok (.putfield 18, 3) := by decide +kernel
theorem pf_X11_18 {p : Program} {l : Launch} {e : Env} {R : Room} {s : State} {m : MethodId} {args : Array Value} {below : List Frame} {meth : Method} {c : Code} {H : Heap} {locs : List Loc} {cells slots : Nat} {Q : State → Prop} {cc : ByteArray} {pc : Nat} {ls : Array Slot} {rest : List Value} {D : va_G} {A : Nat → Prop} {a : Nat} {tys : List (ClassId × FieldType)} {ws : va_W} {H0 : Heap} (hx : p.tables.exec = Jvm.exec) (hb : c.code = cc) (hts : ∀ w ∈ GW, w.before args s = true) (hown : s.vm.findClass RX11 = some m.cls) (hK : va_K D vwCl tys s) (hP : va_P D vwCl ws H) (hD : va_D A ws) (hS0 : va_S A H0 H locs) (q0 : Nat) {fs : List Value} (he : ws[q0]? = some (a, .inr (12, fs))) {v : Value} (hn : narrow (tyX11 3) v = v) (hfit : fits (tyX11 3) v = true) (hl : 3 < fs.length) (hdg : decode cc pc = .ok (.putfield 18, 3)) (kk : ∀ (H1 : Heap) (locs1 : List Loc), va_P D vwCl (ws.set q0 (a, .inr (12, fs.set 3 v))) H1 → va_D A (ws.set q0 (a, .inr (12, fs.set 3 v))) → va_S A H0 H1 locs1 → W p l e R s m args below meth c H1 locs1 cells slots Q (F0 m (pc + 3) ls rest)) : W p l e R s m args below meth c H locs cells slots Q (F0 m pc ls (v :: .ref a :: rest)) := va_put (C := RX11) (T := TX11) (N := 47) (ci := 12) hx hb hts inX11 tyX11 tkX11 nmX11 hown hK hP hD hS0 q0 he rfl 3 (by decide) (hts _ t1449) (fun _ h => h) rfl (tkX11 3 (by decide)) hn hfit hl hdg kk
theorem dX11_begin_13 : decode cX11_begin 13 = .ok (.aload_n 0, 1) := by decide +kernel
theorem dX11_begin_14 : decode cX11_begin 14 = .ok (.iload_n 1, 1) := by decide +kernel
theorem dX11_begin_15 : decode cX11_begin 15 = .ok (.putfield 27, 3) := by decide +kernel
theorem pf_X11_27 {p : Program} {l : Launch} {e : Env} {R : Room} {s : State} {m : MethodId} {args : Array Value} {below : List Frame} {meth : Method} {c : Code} {H : Heap} {locs : List Loc} {cells slots : Nat} {Q : State → Prop} {cc : ByteArray} {pc : Nat} {ls : Array Slot} {rest : List Value} {D : va_G} {A : Nat → Prop} {a : Nat} {tys : List (ClassId × FieldType)} {ws : va_W} {H0 : Heap} (hx : p.tables.exec = Jvm.exec) (hb : c.code = cc) (hts : ∀ w ∈ GW, w.before args s = true) (hown : s.vm.findClass RX11 = some m.cls) (hK : va_K D vwCl tys s) (hP : va_P D vwCl ws H) (hD : va_D A ws) (hS0 : va_S A H0 H locs) (q0 : Nat) {fs : List Value} (he : ws[q0]? = some (a, .inr (12, fs))) {v : Value} (hn : narrow (tyX11 4) v = v) (hfit : fits (tyX11 4) v = true) (hl : 4 < fs.length) (hdg : decode cc pc = .ok (.putfield 27, 3)) (kk : ∀ (H1 : Heap) (locs1 : List Loc), va_P D vwCl (ws.set q0 (a, .inr (12, fs.set 4 v))) H1 → va_D A (ws.set q0 (a, .inr (12, fs.set 4 v))) → va_S A H0 H1 locs1 → W p l e R s m args below meth c H1 locs1 cells slots Q (F0 m (pc + 3) ls rest)) : W p l e R s m args below meth c H locs cells slots Q (F0 m pc ls (v :: .ref a :: rest)) := va_put (C := RX11) (T := TX11) (N := 47) (ci := 12) hx hb hts inX11 tyX11 tkX11 nmX11 hown hK hP hD hS0 q0 he rfl 4 (by decide) (hts _ t1450) (fun _ h => h) rfl (tkX11 4 (by decide)) hn hfit hl hdg kk
theorem dX11_begin_18 : decode cX11_begin 18 = .ok (.aload_n 0, 1) := by decide +kernel
theorem dX11_begin_19 : decode cX11_begin 19 = .ok (.iconst 0, 1) := by decide +kernel
theorem dX11_begin_20 : decode cX11_begin 20 = .ok (.putfield 66, 3) := by decide +kernel
theorem pf_X11_66 {p : Program} {l : Launch} {e : Env} {R : Room} {s : State} {m : MethodId} {args : Array Value} {below : List Frame} {meth : Method} {c : Code} {H : Heap} {locs : List Loc} {cells slots : Nat} {Q : State → Prop} {cc : ByteArray} {pc : Nat} {ls : Array Slot} {rest : List Value} {D : va_G} {A : Nat → Prop} {a : Nat} {tys : List (ClassId × FieldType)} {ws : va_W} {H0 : Heap} (hx : p.tables.exec = Jvm.exec) (hb : c.code = cc) (hts : ∀ w ∈ GW, w.before args s = true) (hown : s.vm.findClass RX11 = some m.cls) (hK : va_K D vwCl tys s) (hP : va_P D vwCl ws H) (hD : va_D A ws) (hS0 : va_S A H0 H locs) (q0 : Nat) {fs : List Value} (he : ws[q0]? = some (a, .inr (12, fs))) {v : Value} (hn : narrow (tyX11 10) v = v) (hfit : fits (tyX11 10) v = true) (hl : 10 < fs.length) (hdg : decode cc pc = .ok (.putfield 66, 3)) (kk : ∀ (H1 : Heap) (locs1 : List Loc), va_P D vwCl (ws.set q0 (a, .inr (12, fs.set 10 v))) H1 → va_D A (ws.set q0 (a, .inr (12, fs.set 10 v))) → va_S A H0 H1 locs1 → W p l e R s m args below meth c H1 locs1 cells slots Q (F0 m (pc + 3) ls rest)) : W p l e R s m args below meth c H locs cells slots Q (F0 m pc ls (v :: .ref a :: rest)) := va_put (C := RX11) (T := TX11) (N := 47) (ci := 12) hx hb hts inX11 tyX11 tkX11 nmX11 hown hK hP hD hS0 q0 he rfl 10 (by decide) (hts _ t1456) (fun _ h => h) rfl (tkX11 10 (by decide)) hn hfit hl hdg kk
theorem dX11_begin_23 : decode cX11_begin 23 = .ok (.aload_n 0, 1) := by decide +kernel
theorem dX11_begin_24 : decode cX11_begin 24 = .ok (.iconst 0, 1) := by decide +kernel
theorem dX11_begin_25 : decode cX11_begin 25 = .ok (.putfield 21, 3) := by decide +kernel
theorem pf_X11_21 {p : Program} {l : Launch} {e : Env} {R : Room} {s : State} {m : MethodId} {args : Array Value} {below : List Frame} {meth : Method} {c : Code} {H : Heap} {locs : List Loc} {cells slots : Nat} {Q : State → Prop} {cc : ByteArray} {pc : Nat} {ls : Array Slot} {rest : List Value} {D : va_G} {A : Nat → Prop} {a : Nat} {tys : List (ClassId × FieldType)} {ws : va_W} {H0 : Heap} (hx : p.tables.exec = Jvm.exec) (hb : c.code = cc) (hts : ∀ w ∈ GW, w.before args s = true) (hown : s.vm.findClass RX11 = some m.cls) (hK : va_K D vwCl tys s) (hP : va_P D vwCl ws H) (hD : va_D A ws) (hS0 : va_S A H0 H locs) (q0 : Nat) {fs : List Value} (he : ws[q0]? = some (a, .inr (12, fs))) {v : Value} (hn : narrow (tyX11 5) v = v) (hfit : fits (tyX11 5) v = true) (hl : 5 < fs.length) (hdg : decode cc pc = .ok (.putfield 21, 3)) (kk : ∀ (H1 : Heap) (locs1 : List Loc), va_P D vwCl (ws.set q0 (a, .inr (12, fs.set 5 v))) H1 → va_D A (ws.set q0 (a, .inr (12, fs.set 5 v))) → va_S A H0 H1 locs1 → W p l e R s m args below meth c H1 locs1 cells slots Q (F0 m (pc + 3) ls rest)) : W p l e R s m args below meth c H locs cells slots Q (F0 m pc ls (v :: .ref a :: rest)) := va_put (C := RX11) (T := TX11) (N := 47) (ci := 12) hx hb hts inX11 tyX11 tkX11 nmX11 hown hK hP hD hS0 q0 he rfl 5 (by decide) (hts _ t1451) (fun _ h => h) rfl (tkX11 5 (by decide)) hn hfit hl hdg kk
theorem dX11_begin_28 : decode cX11_begin 28 = .ok (.aload_n 0, 1) := by decide +kernel
theorem dX11_begin_29 : decode cX11_begin 29 = .ok (.invokevirtual 82, 3) := by decide +kernel
theorem t1600 : Cond.methodLink RX11 82 yX11_go ∈ GW := gw_mem 1714 (by decide +kernel) (by decide +kernel)
theorem t1602 : Cond.instanceMethod yX11_go ∈ GW := gw_mem 1716 (by decide +kernel) (by decide +kernel)
theorem s42 : Cond.selects RX11 yX11_go yX11_go ∈ GW := gw_mem 42 (by decide +kernel) (by decide +kernel)
theorem cw_X11_82 {R : Room} {s : State} {args : Array Value} {rm : Room} {mc ms : Nat} (hts : ∀ w ∈ GW, w.before args s = true) (hrc : rm.cells = mc) (hrs : rm.slots = ms) (hR : rm.frames + 1 ≤ R.frames ∧ 8 + (5 + 11) + rm.locals ≤ R.locals) : CallW R s args RX11 RX11 82 yX11_go cX11_go 5 none (wl yX11_go cX11_go 5 none) rm mc ms 0 := cwV 0 hts (gi_V t1600 t1602 s42 t18 t1603) rfl hrc hrs (by decide +kernel) hR
theorem dX11_begin_32 : decode cX11_begin 32 = .ok (.return_, 1) := by decide +kernel
set_option maxHeartbeats 4000000 in
set_option maxRecDepth 100000 in
theorem m_begin900 (l : Launch) (dC : Nat → ClassId) (dI : Nat → Nat → Nat) (cy : Nat → ClassId) (sz : Nat) (am : Nat → Nat)  : Met l yX11_begin (wl yX11_begin cX11_begin 2 none) ({ frames := 1, cells := 0, slots := 0, locals := 64 }) (Pw (dC, dI) vwCl cy [(am 0, .inr (12, [.int 0, .ref (am 1), .int 0, .int 0, .int 0, .int 0, .int 0, .int 0, .int 0, .int 0, .int 0, .int 0, .long 0, .int 0, .ref (am 2), .ref (am 3), .ref (am 4), .ref (am 5), .ref (am 6), .ref (am 7), .ref (am 8), .ref (am 9), .ref (am 10), .ref (am 11), .int 0, .int (-1), .ref (am 12), .ref (am 13), .ref (am 14), .int 0, .ref (am 15), .ref (am 16), .int 0, .int 0, .int 0, .ref (am 17), .int 0, .int 0, .ref (am 18), .ref (am 19), .int 0, .int 0, .ref (am 20), .int 0, .int 0, .int 0, .int 0]))] sz [.ref (am 0), .int 900] nE) (Qv (dC, dI) vwCl (fun (u : Unit) => True) (O_m_begin900 cy am) (va_A [(am 0, .inr (12, [.int 0, .ref (am 1), .int 0, .int 0, .int 0, .int 0, .int 0, .int 0, .int 0, .int 0, .int 0, .int 0, .long 0, .int 0, .ref (am 2), .ref (am 3), .ref (am 4), .ref (am 5), .ref (am 6), .ref (am 7), .ref (am 8), .ref (am 9), .ref (am 10), .ref (am 11), .int 0, .int (-1), .ref (am 12), .ref (am 13), .ref (am 14), .int 0, .ref (am 15), .ref (am 16), .int 0, .int 0, .int 0, .ref (am 17), .int 0, .int 0, .ref (am 18), .ref (am 19), .int 0, .int 0, .ref (am 20), .int 0, .int 0, .int 0, .int 0]))] sz)) 0 0 (va_A [(am 0, .inr (12, [.int 0, .ref (am 1), .int 0, .int 0, .int 0, .int 0, .int 0, .int 0, .int 0, .int 0, .int 0, .int 0, .long 0, .int 0, .ref (am 2), .ref (am 3), .ref (am 4), .ref (am 5), .ref (am 6), .ref (am 7), .ref (am 8), .ref (am 9), .ref (am 10), .ref (am 11), .int 0, .int (-1), .ref (am 12), .ref (am 13), .ref (am 14), .int 0, .ref (am 15), .ref (am 16), .int 0, .int 0, .int 0, .ref (am 17), .int 0, .int 0, .ref (am 18), .ref (am 19), .int 0, .int 0, .ref (am 20), .int 0, .int 0, .int 0, .int 0]))] sz) := by
  refine mw (Qc := Qv (dC, dI) vwCl (fun (u : Unit) => True) (O_m_begin900 cy am)) RX11 rfl (by decide +kernel) (Nat.le_of_ble_eq_true rfl) ?_
  intro p e s m below meth c A hx hb hr hlocks av9 hav hts hown hnm hml hK hP hD hA hS hE hAe Q9 hQ9 ls hl
  have hl : lv_has ls 2 [(0, .ref (am 0)), (1, .int 900)] := hl
  refine lv_aload_n hx hb dX11_begin_0 rfl (lv_at hl 0 rfl) ?_
  refine lv_iconst (v := 0) hx hb dX11_begin_1 (by decide) ?_
  refine pf_X11_1 hx hb hts hown hK hP hD hS 0 rfl rfl rfl (Nat.le_of_ble_eq_true rfl) dX11_begin_2 (fun H locs hP hD hS => ?_)
  have hP : va_P (dC, dI) vwCl [(am 0, .inr (12, [.int 0, .ref (am 1), .int 0, .int 0, .int 0, .int 0, .int 0, .int 0, .int 0, .int 0, .int 0, .int 0, .long 0, .int 0, .ref (am 2), .ref (am 3), .ref (am 4), .ref (am 5), .ref (am 6), .ref (am 7), .ref (am 8), .ref (am 9), .ref (am 10), .ref (am 11), .int 0, .int (-1), .ref (am 12), .ref (am 13), .ref (am 14), .int 0, .ref (am 15), .ref (am 16), .int 0, .int 0, .int 0, .ref (am 17), .int 0, .int 0, .ref (am 18), .ref (am 19), .int 0, .int 0, .ref (am 20), .int 0, .int 0, .int 0, .int 0]))] H := hP
  have hD : va_D A [(am 0, .inr (12, [.int 0, .ref (am 1), .int 0, .int 0, .int 0, .int 0, .int 0, .int 0, .int 0, .int 0, .int 0, .int 0, .long 0, .int 0, .ref (am 2), .ref (am 3), .ref (am 4), .ref (am 5), .ref (am 6), .ref (am 7), .ref (am 8), .ref (am 9), .ref (am 10), .ref (am 11), .int 0, .int (-1), .ref (am 12), .ref (am 13), .ref (am 14), .int 0, .ref (am 15), .ref (am 16), .int 0, .int 0, .int 0, .ref (am 17), .int 0, .int 0, .ref (am 18), .ref (am 19), .int 0, .int 0, .ref (am 20), .int 0, .int 0, .int 0, .int 0]))] := hD
  refine lv_aload_n hx hb dX11_begin_5 rfl (lv_at hl 0 rfl) ?_
  refine lv_aload_n hx hb dX11_begin_6 rfl (lv_at hl 0 rfl) ?_
  refine jn_i (wr := []) (rV (As := []) (rest := [.ref (am 0)]) (ci := 12) ⟨hx, hb, hml, hown, hts⟩ (m_take l dC dI cy _ am ) (cw_X11_89 hts rfl rfl ⟨Nat.le_of_ble_eq_true rfl, Nat.le_of_ble_eq_true rfl⟩) hP hD hK [0] rfl rfl rfl rfl bl0 e0 rfl hl.1 rfl (Nat.le_of_ble_eq_true rfl) dX11_begin_7 ⟨Nat.le_of_ble_eq_true rfl, Nat.le_of_ble_eq_true rfl⟩) hP hD hS hA [0] [] rfl rfl rfl (by decide) (fun r_1 u_3 H locs hp_2 hP hD hS => ?_)
  have hp_2 : r_1 = 0 := hp_2
  have hP : va_P (dC, dI) vwCl [(am 0, .inr (12, [.int 0, .ref (am 1), .int 0, .int 0, .int 0, .int 0, .int 0, .int 0, .int 0, .int 0, .int 0, .int 0, .long 0, .int 0, .ref (am 2), .ref (am 3), .ref (am 4), .ref (am 5), .ref (am 6), .ref (am 7), .ref (am 8), .ref (am 9), .ref (am 10), .ref (am 11), .int 0, .int (-1), .ref (am 12), .ref (am 13), .ref (am 14), .int 0, .ref (am 15), .ref (am 16), .int 0, .int 0, .int 0, .ref (am 17), .int 0, .int 0, .ref (am 18), .ref (am 19), .int 0, .int 0, .ref (am 20), .int 0, .int 0, .int 0, .int 0]))] H := hP
  have hD : va_D A [(am 0, .inr (12, [.int 0, .ref (am 1), .int 0, .int 0, .int 0, .int 0, .int 0, .int 0, .int 0, .int 0, .int 0, .int 0, .long 0, .int 0, .ref (am 2), .ref (am 3), .ref (am 4), .ref (am 5), .ref (am 6), .ref (am 7), .ref (am 8), .ref (am 9), .ref (am 10), .ref (am 11), .int 0, .int (-1), .ref (am 12), .ref (am 13), .ref (am 14), .int 0, .ref (am 15), .ref (am 16), .int 0, .int 0, .int 0, .ref (am 17), .int 0, .int 0, .ref (am 18), .ref (am 19), .int 0, .int 0, .ref (am 20), .int 0, .int 0, .int 0, .int 0]))] := hD
  refine as_i 0 hp_2 ?_
  refine pf_X11_18 hx hb hts hown hK hP hD hS 0 rfl rfl rfl (Nat.le_of_ble_eq_true rfl) dX11_begin_10 (fun H locs hP hD hS => ?_)
  have hP : va_P (dC, dI) vwCl [(am 0, .inr (12, [.int 0, .ref (am 1), .int 0, .int 0, .int 0, .int 0, .int 0, .int 0, .int 0, .int 0, .int 0, .int 0, .long 0, .int 0, .ref (am 2), .ref (am 3), .ref (am 4), .ref (am 5), .ref (am 6), .ref (am 7), .ref (am 8), .ref (am 9), .ref (am 10), .ref (am 11), .int 0, .int (-1), .ref (am 12), .ref (am 13), .ref (am 14), .int 0, .ref (am 15), .ref (am 16), .int 0, .int 0, .int 0, .ref (am 17), .int 0, .int 0, .ref (am 18), .ref (am 19), .int 0, .int 0, .ref (am 20), .int 0, .int 0, .int 0, .int 0]))] H := hP
  have hD : va_D A [(am 0, .inr (12, [.int 0, .ref (am 1), .int 0, .int 0, .int 0, .int 0, .int 0, .int 0, .int 0, .int 0, .int 0, .int 0, .long 0, .int 0, .ref (am 2), .ref (am 3), .ref (am 4), .ref (am 5), .ref (am 6), .ref (am 7), .ref (am 8), .ref (am 9), .ref (am 10), .ref (am 11), .int 0, .int (-1), .ref (am 12), .ref (am 13), .ref (am 14), .int 0, .ref (am 15), .ref (am 16), .int 0, .int 0, .int 0, .ref (am 17), .int 0, .int 0, .ref (am 18), .ref (am 19), .int 0, .int 0, .ref (am 20), .int 0, .int 0, .int 0, .int 0]))] := hD
  refine lv_aload_n hx hb dX11_begin_13 rfl (lv_at hl 0 rfl) ?_
  refine lv_iload_n hx hb dX11_begin_14 rfl (lv_at hl 1 rfl) ?_
  refine pf_X11_27 hx hb hts hown hK hP hD hS 0 rfl rfl rfl (Nat.le_of_ble_eq_true rfl) dX11_begin_15 (fun H locs hP hD hS => ?_)
  have hP : va_P (dC, dI) vwCl [(am 0, .inr (12, [.int 0, .ref (am 1), .int 0, .int 0, .int 900, .int 0, .int 0, .int 0, .int 0, .int 0, .int 0, .int 0, .long 0, .int 0, .ref (am 2), .ref (am 3), .ref (am 4), .ref (am 5), .ref (am 6), .ref (am 7), .ref (am 8), .ref (am 9), .ref (am 10), .ref (am 11), .int 0, .int (-1), .ref (am 12), .ref (am 13), .ref (am 14), .int 0, .ref (am 15), .ref (am 16), .int 0, .int 0, .int 0, .ref (am 17), .int 0, .int 0, .ref (am 18), .ref (am 19), .int 0, .int 0, .ref (am 20), .int 0, .int 0, .int 0, .int 0]))] H := hP
  have hD : va_D A [(am 0, .inr (12, [.int 0, .ref (am 1), .int 0, .int 0, .int 900, .int 0, .int 0, .int 0, .int 0, .int 0, .int 0, .int 0, .long 0, .int 0, .ref (am 2), .ref (am 3), .ref (am 4), .ref (am 5), .ref (am 6), .ref (am 7), .ref (am 8), .ref (am 9), .ref (am 10), .ref (am 11), .int 0, .int (-1), .ref (am 12), .ref (am 13), .ref (am 14), .int 0, .ref (am 15), .ref (am 16), .int 0, .int 0, .int 0, .ref (am 17), .int 0, .int 0, .ref (am 18), .ref (am 19), .int 0, .int 0, .ref (am 20), .int 0, .int 0, .int 0, .int 0]))] := hD
  refine lv_aload_n hx hb dX11_begin_18 rfl (lv_at hl 0 rfl) ?_
  refine lv_iconst (v := 0) hx hb dX11_begin_19 (by decide) ?_
  refine pf_X11_66 hx hb hts hown hK hP hD hS 0 rfl rfl rfl (Nat.le_of_ble_eq_true rfl) dX11_begin_20 (fun H locs hP hD hS => ?_)
  have hP : va_P (dC, dI) vwCl [(am 0, .inr (12, [.int 0, .ref (am 1), .int 0, .int 0, .int 900, .int 0, .int 0, .int 0, .int 0, .int 0, .int 0, .int 0, .long 0, .int 0, .ref (am 2), .ref (am 3), .ref (am 4), .ref (am 5), .ref (am 6), .ref (am 7), .ref (am 8), .ref (am 9), .ref (am 10), .ref (am 11), .int 0, .int (-1), .ref (am 12), .ref (am 13), .ref (am 14), .int 0, .ref (am 15), .ref (am 16), .int 0, .int 0, .int 0, .ref (am 17), .int 0, .int 0, .ref (am 18), .ref (am 19), .int 0, .int 0, .ref (am 20), .int 0, .int 0, .int 0, .int 0]))] H := hP
  have hD : va_D A [(am 0, .inr (12, [.int 0, .ref (am 1), .int 0, .int 0, .int 900, .int 0, .int 0, .int 0, .int 0, .int 0, .int 0, .int 0, .long 0, .int 0, .ref (am 2), .ref (am 3), .ref (am 4), .ref (am 5), .ref (am 6), .ref (am 7), .ref (am 8), .ref (am 9), .ref (am 10), .ref (am 11), .int 0, .int (-1), .ref (am 12), .ref (am 13), .ref (am 14), .int 0, .ref (am 15), .ref (am 16), .int 0, .int 0, .int 0, .ref (am 17), .int 0, .int 0, .ref (am 18), .ref (am 19), .int 0, .int 0, .ref (am 20), .int 0, .int 0, .int 0, .int 0]))] := hD
  refine lv_aload_n hx hb dX11_begin_23 rfl (lv_at hl 0 rfl) ?_
  refine lv_iconst (v := 0) hx hb dX11_begin_24 (by decide) ?_
  refine pf_X11_21 hx hb hts hown hK hP hD hS 0 rfl rfl rfl (Nat.le_of_ble_eq_true rfl) dX11_begin_25 (fun H locs hP hD hS => ?_)
  have hP : va_P (dC, dI) vwCl [(am 0, .inr (12, [.int 0, .ref (am 1), .int 0, .int 0, .int 900, .int 0, .int 0, .int 0, .int 0, .int 0, .int 0, .int 0, .long 0, .int 0, .ref (am 2), .ref (am 3), .ref (am 4), .ref (am 5), .ref (am 6), .ref (am 7), .ref (am 8), .ref (am 9), .ref (am 10), .ref (am 11), .int 0, .int (-1), .ref (am 12), .ref (am 13), .ref (am 14), .int 0, .ref (am 15), .ref (am 16), .int 0, .int 0, .int 0, .ref (am 17), .int 0, .int 0, .ref (am 18), .ref (am 19), .int 0, .int 0, .ref (am 20), .int 0, .int 0, .int 0, .int 0]))] H := hP
  have hD : va_D A [(am 0, .inr (12, [.int 0, .ref (am 1), .int 0, .int 0, .int 900, .int 0, .int 0, .int 0, .int 0, .int 0, .int 0, .int 0, .long 0, .int 0, .ref (am 2), .ref (am 3), .ref (am 4), .ref (am 5), .ref (am 6), .ref (am 7), .ref (am 8), .ref (am 9), .ref (am 10), .ref (am 11), .int 0, .int (-1), .ref (am 12), .ref (am 13), .ref (am 14), .int 0, .ref (am 15), .ref (am 16), .int 0, .int 0, .int 0, .ref (am 17), .int 0, .int 0, .ref (am 18), .ref (am 19), .int 0, .int 0, .ref (am 20), .int 0, .int 0, .int 0, .int 0]))] := hD
  refine lv_aload_n hx hb dX11_begin_28 rfl (lv_at hl 0 rfl) ?_
  refine jn_v (wr := []) (rV (As := []) (rest := []) (ci := 12) ⟨hx, hb, hml, hown, hts⟩ (m_go900 l dC dI cy _ am ) (cw_X11_82 hts rfl rfl ⟨Nat.le_of_ble_eq_true rfl, Nat.le_of_ble_eq_true rfl⟩) hP hD hK [0] rfl rfl rfl rfl bl0 e0 rfl hl.1 rfl (Nat.le_of_ble_eq_true rfl) dX11_begin_29 ⟨Nat.le_of_ble_eq_true rfl, Nat.le_of_ble_eq_true rfl⟩) hP hD hS hA [0] [] rfl rfl rfl (by decide) (fun u_6 H locs hp_5 hP hD hS => ?_)
  have hp_5 : True := hp_5
  have hP : va_P (dC, dI) vwCl [(am 0, .inr (12, [.int 0, .ref (am 1), .int 0, .int 0, .int 900, .int 0, .int 0, .int 0, .int 0, .int 0, .int 0, .int 0, .long 0, .int 0, .ref (am 2), .ref (am 3), .ref (am 4), .ref (am 5), .ref (am 6), .ref (am 7), .ref (am 8), .ref (am 9), .ref (am 10), .ref (am 11), .int 0, .int (-1), .ref (am 12), .ref (am 13), .ref (am 14), .int 0, .ref (am 15), .ref (am 16), .int 0, .int 0, .int 0, .ref (am 17), .int 0, .int 0, .ref (am 18), .ref (am 19), .int 0, .int 0, .ref (am 20), .int 0, .int 0, .int 0, .int 0]))] H := hP
  have hD : va_D A [(am 0, .inr (12, [.int 0, .ref (am 1), .int 0, .int 0, .int 900, .int 0, .int 0, .int 0, .int 0, .int 0, .int 0, .int 0, .long 0, .int 0, .ref (am 2), .ref (am 3), .ref (am 4), .ref (am 5), .ref (am 6), .ref (am 7), .ref (am 8), .ref (am 9), .ref (am 10), .ref (am 11), .int 0, .int (-1), .ref (am 12), .ref (am 13), .ref (am 14), .int 0, .ref (am 15), .ref (am 16), .int 0, .int 0, .int 0, .ref (am 17), .int 0, .int 0, .ref (am 18), .ref (am 19), .int 0, .int 0, .ref (am 20), .int 0, .int 0, .int 0, .int 0]))] := hD
  rw [hQ9]
  exact re_v () hx hb hr hlocks trivial (hP.sub [0] rfl) (hD.sub [0] rfl rfl) hS dX11_begin_32
abbrev O_m_begin400 (cy : Nat → ClassId) (am : Nat → Nat) (u : Unit) : va_W := [(am 0, .inr (12, [.int 0, .ref (am 1), .int 0, .int 0, .int 400, .int 0, .int 0, .int 0, .int 0, .int 0, .int 0, .int 0, .long 0, .int 0, .ref (am 2), .ref (am 3), .ref (am 4), .ref (am 5), .ref (am 6), .ref (am 7), .ref (am 8), .ref (am 9), .ref (am 10), .ref (am 11), .int 0, .int (-1), .ref (am 12), .ref (am 13), .ref (am 14), .int 0, .ref (am 15), .ref (am 16), .int 0, .int 0, .int 0, .ref (am 17), .int 0, .int 0, .ref (am 18), .ref (am 19), .int 0, .int 0, .ref (am 20), .int 0, .int 0, .int 0, .int 0]))]
set_option maxHeartbeats 4000000 in
set_option maxRecDepth 100000 in
theorem m_begin400 (l : Launch) (dC : Nat → ClassId) (dI : Nat → Nat → Nat) (cy : Nat → ClassId) (sz : Nat) (am : Nat → Nat)  : Met l yX11_begin (wl yX11_begin cX11_begin 2 none) ({ frames := 1, cells := 0, slots := 0, locals := 64 }) (Pw (dC, dI) vwCl cy [(am 0, .inr (12, [.int 0, .ref (am 1), .int 0, .int 0, .int 0, .int 0, .int 0, .int 0, .int 0, .int 0, .int 0, .int 0, .long 0, .int 0, .ref (am 2), .ref (am 3), .ref (am 4), .ref (am 5), .ref (am 6), .ref (am 7), .ref (am 8), .ref (am 9), .ref (am 10), .ref (am 11), .int 0, .int (-1), .ref (am 12), .ref (am 13), .ref (am 14), .int 0, .ref (am 15), .ref (am 16), .int 0, .int 0, .int 0, .ref (am 17), .int 0, .int 0, .ref (am 18), .ref (am 19), .int 0, .int 0, .ref (am 20), .int 0, .int 0, .int 0, .int 0]))] sz [.ref (am 0), .int 400] nE) (Qv (dC, dI) vwCl (fun (u : Unit) => True) (O_m_begin400 cy am) (va_A [(am 0, .inr (12, [.int 0, .ref (am 1), .int 0, .int 0, .int 0, .int 0, .int 0, .int 0, .int 0, .int 0, .int 0, .int 0, .long 0, .int 0, .ref (am 2), .ref (am 3), .ref (am 4), .ref (am 5), .ref (am 6), .ref (am 7), .ref (am 8), .ref (am 9), .ref (am 10), .ref (am 11), .int 0, .int (-1), .ref (am 12), .ref (am 13), .ref (am 14), .int 0, .ref (am 15), .ref (am 16), .int 0, .int 0, .int 0, .ref (am 17), .int 0, .int 0, .ref (am 18), .ref (am 19), .int 0, .int 0, .ref (am 20), .int 0, .int 0, .int 0, .int 0]))] sz)) 0 0 (va_A [(am 0, .inr (12, [.int 0, .ref (am 1), .int 0, .int 0, .int 0, .int 0, .int 0, .int 0, .int 0, .int 0, .int 0, .int 0, .long 0, .int 0, .ref (am 2), .ref (am 3), .ref (am 4), .ref (am 5), .ref (am 6), .ref (am 7), .ref (am 8), .ref (am 9), .ref (am 10), .ref (am 11), .int 0, .int (-1), .ref (am 12), .ref (am 13), .ref (am 14), .int 0, .ref (am 15), .ref (am 16), .int 0, .int 0, .int 0, .ref (am 17), .int 0, .int 0, .ref (am 18), .ref (am 19), .int 0, .int 0, .ref (am 20), .int 0, .int 0, .int 0, .int 0]))] sz) := by
  refine mw (Qc := Qv (dC, dI) vwCl (fun (u : Unit) => True) (O_m_begin400 cy am)) RX11 rfl (by decide +kernel) (Nat.le_of_ble_eq_true rfl) ?_
  intro p e s m below meth c A hx hb hr hlocks av9 hav hts hown hnm hml hK hP hD hA hS hE hAe Q9 hQ9 ls hl
  have hl : lv_has ls 2 [(0, .ref (am 0)), (1, .int 400)] := hl
  refine lv_aload_n hx hb dX11_begin_0 rfl (lv_at hl 0 rfl) ?_
  refine lv_iconst (v := 0) hx hb dX11_begin_1 (by decide) ?_
  refine pf_X11_1 hx hb hts hown hK hP hD hS 0 rfl rfl rfl (Nat.le_of_ble_eq_true rfl) dX11_begin_2 (fun H locs hP hD hS => ?_)
  have hP : va_P (dC, dI) vwCl [(am 0, .inr (12, [.int 0, .ref (am 1), .int 0, .int 0, .int 0, .int 0, .int 0, .int 0, .int 0, .int 0, .int 0, .int 0, .long 0, .int 0, .ref (am 2), .ref (am 3), .ref (am 4), .ref (am 5), .ref (am 6), .ref (am 7), .ref (am 8), .ref (am 9), .ref (am 10), .ref (am 11), .int 0, .int (-1), .ref (am 12), .ref (am 13), .ref (am 14), .int 0, .ref (am 15), .ref (am 16), .int 0, .int 0, .int 0, .ref (am 17), .int 0, .int 0, .ref (am 18), .ref (am 19), .int 0, .int 0, .ref (am 20), .int 0, .int 0, .int 0, .int 0]))] H := hP
  have hD : va_D A [(am 0, .inr (12, [.int 0, .ref (am 1), .int 0, .int 0, .int 0, .int 0, .int 0, .int 0, .int 0, .int 0, .int 0, .int 0, .long 0, .int 0, .ref (am 2), .ref (am 3), .ref (am 4), .ref (am 5), .ref (am 6), .ref (am 7), .ref (am 8), .ref (am 9), .ref (am 10), .ref (am 11), .int 0, .int (-1), .ref (am 12), .ref (am 13), .ref (am 14), .int 0, .ref (am 15), .ref (am 16), .int 0, .int 0, .int 0, .ref (am 17), .int 0, .int 0, .ref (am 18), .ref (am 19), .int 0, .int 0, .ref (am 20), .int 0, .int 0, .int 0, .int 0]))] := hD
  refine lv_aload_n hx hb dX11_begin_5 rfl (lv_at hl 0 rfl) ?_
  refine lv_aload_n hx hb dX11_begin_6 rfl (lv_at hl 0 rfl) ?_
  refine jn_i (wr := []) (rV (As := []) (rest := [.ref (am 0)]) (ci := 12) ⟨hx, hb, hml, hown, hts⟩ (m_take l dC dI cy _ am ) (cw_X11_89 hts rfl rfl ⟨Nat.le_of_ble_eq_true rfl, Nat.le_of_ble_eq_true rfl⟩) hP hD hK [0] rfl rfl rfl rfl bl0 e0 rfl hl.1 rfl (Nat.le_of_ble_eq_true rfl) dX11_begin_7 ⟨Nat.le_of_ble_eq_true rfl, Nat.le_of_ble_eq_true rfl⟩) hP hD hS hA [0] [] rfl rfl rfl (by decide) (fun r_1 u_3 H locs hp_2 hP hD hS => ?_)
  have hp_2 : r_1 = 0 := hp_2
  have hP : va_P (dC, dI) vwCl [(am 0, .inr (12, [.int 0, .ref (am 1), .int 0, .int 0, .int 0, .int 0, .int 0, .int 0, .int 0, .int 0, .int 0, .int 0, .long 0, .int 0, .ref (am 2), .ref (am 3), .ref (am 4), .ref (am 5), .ref (am 6), .ref (am 7), .ref (am 8), .ref (am 9), .ref (am 10), .ref (am 11), .int 0, .int (-1), .ref (am 12), .ref (am 13), .ref (am 14), .int 0, .ref (am 15), .ref (am 16), .int 0, .int 0, .int 0, .ref (am 17), .int 0, .int 0, .ref (am 18), .ref (am 19), .int 0, .int 0, .ref (am 20), .int 0, .int 0, .int 0, .int 0]))] H := hP
  have hD : va_D A [(am 0, .inr (12, [.int 0, .ref (am 1), .int 0, .int 0, .int 0, .int 0, .int 0, .int 0, .int 0, .int 0, .int 0, .int 0, .long 0, .int 0, .ref (am 2), .ref (am 3), .ref (am 4), .ref (am 5), .ref (am 6), .ref (am 7), .ref (am 8), .ref (am 9), .ref (am 10), .ref (am 11), .int 0, .int (-1), .ref (am 12), .ref (am 13), .ref (am 14), .int 0, .ref (am 15), .ref (am 16), .int 0, .int 0, .int 0, .ref (am 17), .int 0, .int 0, .ref (am 18), .ref (am 19), .int 0, .int 0, .ref (am 20), .int 0, .int 0, .int 0, .int 0]))] := hD
  refine as_i 0 hp_2 ?_
  refine pf_X11_18 hx hb hts hown hK hP hD hS 0 rfl rfl rfl (Nat.le_of_ble_eq_true rfl) dX11_begin_10 (fun H locs hP hD hS => ?_)
  have hP : va_P (dC, dI) vwCl [(am 0, .inr (12, [.int 0, .ref (am 1), .int 0, .int 0, .int 0, .int 0, .int 0, .int 0, .int 0, .int 0, .int 0, .int 0, .long 0, .int 0, .ref (am 2), .ref (am 3), .ref (am 4), .ref (am 5), .ref (am 6), .ref (am 7), .ref (am 8), .ref (am 9), .ref (am 10), .ref (am 11), .int 0, .int (-1), .ref (am 12), .ref (am 13), .ref (am 14), .int 0, .ref (am 15), .ref (am 16), .int 0, .int 0, .int 0, .ref (am 17), .int 0, .int 0, .ref (am 18), .ref (am 19), .int 0, .int 0, .ref (am 20), .int 0, .int 0, .int 0, .int 0]))] H := hP
  have hD : va_D A [(am 0, .inr (12, [.int 0, .ref (am 1), .int 0, .int 0, .int 0, .int 0, .int 0, .int 0, .int 0, .int 0, .int 0, .int 0, .long 0, .int 0, .ref (am 2), .ref (am 3), .ref (am 4), .ref (am 5), .ref (am 6), .ref (am 7), .ref (am 8), .ref (am 9), .ref (am 10), .ref (am 11), .int 0, .int (-1), .ref (am 12), .ref (am 13), .ref (am 14), .int 0, .ref (am 15), .ref (am 16), .int 0, .int 0, .int 0, .ref (am 17), .int 0, .int 0, .ref (am 18), .ref (am 19), .int 0, .int 0, .ref (am 20), .int 0, .int 0, .int 0, .int 0]))] := hD
  refine lv_aload_n hx hb dX11_begin_13 rfl (lv_at hl 0 rfl) ?_
  refine lv_iload_n hx hb dX11_begin_14 rfl (lv_at hl 1 rfl) ?_
  refine pf_X11_27 hx hb hts hown hK hP hD hS 0 rfl rfl rfl (Nat.le_of_ble_eq_true rfl) dX11_begin_15 (fun H locs hP hD hS => ?_)
  have hP : va_P (dC, dI) vwCl [(am 0, .inr (12, [.int 0, .ref (am 1), .int 0, .int 0, .int 400, .int 0, .int 0, .int 0, .int 0, .int 0, .int 0, .int 0, .long 0, .int 0, .ref (am 2), .ref (am 3), .ref (am 4), .ref (am 5), .ref (am 6), .ref (am 7), .ref (am 8), .ref (am 9), .ref (am 10), .ref (am 11), .int 0, .int (-1), .ref (am 12), .ref (am 13), .ref (am 14), .int 0, .ref (am 15), .ref (am 16), .int 0, .int 0, .int 0, .ref (am 17), .int 0, .int 0, .ref (am 18), .ref (am 19), .int 0, .int 0, .ref (am 20), .int 0, .int 0, .int 0, .int 0]))] H := hP
  have hD : va_D A [(am 0, .inr (12, [.int 0, .ref (am 1), .int 0, .int 0, .int 400, .int 0, .int 0, .int 0, .int 0, .int 0, .int 0, .int 0, .long 0, .int 0, .ref (am 2), .ref (am 3), .ref (am 4), .ref (am 5), .ref (am 6), .ref (am 7), .ref (am 8), .ref (am 9), .ref (am 10), .ref (am 11), .int 0, .int (-1), .ref (am 12), .ref (am 13), .ref (am 14), .int 0, .ref (am 15), .ref (am 16), .int 0, .int 0, .int 0, .ref (am 17), .int 0, .int 0, .ref (am 18), .ref (am 19), .int 0, .int 0, .ref (am 20), .int 0, .int 0, .int 0, .int 0]))] := hD
  refine lv_aload_n hx hb dX11_begin_18 rfl (lv_at hl 0 rfl) ?_
  refine lv_iconst (v := 0) hx hb dX11_begin_19 (by decide) ?_
  refine pf_X11_66 hx hb hts hown hK hP hD hS 0 rfl rfl rfl (Nat.le_of_ble_eq_true rfl) dX11_begin_20 (fun H locs hP hD hS => ?_)
  have hP : va_P (dC, dI) vwCl [(am 0, .inr (12, [.int 0, .ref (am 1), .int 0, .int 0, .int 400, .int 0, .int 0, .int 0, .int 0, .int 0, .int 0, .int 0, .long 0, .int 0, .ref (am 2), .ref (am 3), .ref (am 4), .ref (am 5), .ref (am 6), .ref (am 7), .ref (am 8), .ref (am 9), .ref (am 10), .ref (am 11), .int 0, .int (-1), .ref (am 12), .ref (am 13), .ref (am 14), .int 0, .ref (am 15), .ref (am 16), .int 0, .int 0, .int 0, .ref (am 17), .int 0, .int 0, .ref (am 18), .ref (am 19), .int 0, .int 0, .ref (am 20), .int 0, .int 0, .int 0, .int 0]))] H := hP
  have hD : va_D A [(am 0, .inr (12, [.int 0, .ref (am 1), .int 0, .int 0, .int 400, .int 0, .int 0, .int 0, .int 0, .int 0, .int 0, .int 0, .long 0, .int 0, .ref (am 2), .ref (am 3), .ref (am 4), .ref (am 5), .ref (am 6), .ref (am 7), .ref (am 8), .ref (am 9), .ref (am 10), .ref (am 11), .int 0, .int (-1), .ref (am 12), .ref (am 13), .ref (am 14), .int 0, .ref (am 15), .ref (am 16), .int 0, .int 0, .int 0, .ref (am 17), .int 0, .int 0, .ref (am 18), .ref (am 19), .int 0, .int 0, .ref (am 20), .int 0, .int 0, .int 0, .int 0]))] := hD
  refine lv_aload_n hx hb dX11_begin_23 rfl (lv_at hl 0 rfl) ?_
  refine lv_iconst (v := 0) hx hb dX11_begin_24 (by decide) ?_
  refine pf_X11_21 hx hb hts hown hK hP hD hS 0 rfl rfl rfl (Nat.le_of_ble_eq_true rfl) dX11_begin_25 (fun H locs hP hD hS => ?_)
  have hP : va_P (dC, dI) vwCl [(am 0, .inr (12, [.int 0, .ref (am 1), .int 0, .int 0, .int 400, .int 0, .int 0, .int 0, .int 0, .int 0, .int 0, .int 0, .long 0, .int 0, .ref (am 2), .ref (am 3), .ref (am 4), .ref (am 5), .ref (am 6), .ref (am 7), .ref (am 8), .ref (am 9), .ref (am 10), .ref (am 11), .int 0, .int (-1), .ref (am 12), .ref (am 13), .ref (am 14), .int 0, .ref (am 15), .ref (am 16), .int 0, .int 0, .int 0, .ref (am 17), .int 0, .int 0, .ref (am 18), .ref (am 19), .int 0, .int 0, .ref (am 20), .int 0, .int 0, .int 0, .int 0]))] H := hP
  have hD : va_D A [(am 0, .inr (12, [.int 0, .ref (am 1), .int 0, .int 0, .int 400, .int 0, .int 0, .int 0, .int 0, .int 0, .int 0, .int 0, .long 0, .int 0, .ref (am 2), .ref (am 3), .ref (am 4), .ref (am 5), .ref (am 6), .ref (am 7), .ref (am 8), .ref (am 9), .ref (am 10), .ref (am 11), .int 0, .int (-1), .ref (am 12), .ref (am 13), .ref (am 14), .int 0, .ref (am 15), .ref (am 16), .int 0, .int 0, .int 0, .ref (am 17), .int 0, .int 0, .ref (am 18), .ref (am 19), .int 0, .int 0, .ref (am 20), .int 0, .int 0, .int 0, .int 0]))] := hD
  refine lv_aload_n hx hb dX11_begin_28 rfl (lv_at hl 0 rfl) ?_
  refine jn_v (wr := []) (rV (As := []) (rest := []) (ci := 12) ⟨hx, hb, hml, hown, hts⟩ (m_go400 l dC dI cy _ am ) (cw_X11_82 hts rfl rfl ⟨Nat.le_of_ble_eq_true rfl, Nat.le_of_ble_eq_true rfl⟩) hP hD hK [0] rfl rfl rfl rfl bl0 e0 rfl hl.1 rfl (Nat.le_of_ble_eq_true rfl) dX11_begin_29 ⟨Nat.le_of_ble_eq_true rfl, Nat.le_of_ble_eq_true rfl⟩) hP hD hS hA [0] [] rfl rfl rfl (by decide) (fun u_6 H locs hp_5 hP hD hS => ?_)
  have hp_5 : True := hp_5
  have hP : va_P (dC, dI) vwCl [(am 0, .inr (12, [.int 0, .ref (am 1), .int 0, .int 0, .int 400, .int 0, .int 0, .int 0, .int 0, .int 0, .int 0, .int 0, .long 0, .int 0, .ref (am 2), .ref (am 3), .ref (am 4), .ref (am 5), .ref (am 6), .ref (am 7), .ref (am 8), .ref (am 9), .ref (am 10), .ref (am 11), .int 0, .int (-1), .ref (am 12), .ref (am 13), .ref (am 14), .int 0, .ref (am 15), .ref (am 16), .int 0, .int 0, .int 0, .ref (am 17), .int 0, .int 0, .ref (am 18), .ref (am 19), .int 0, .int 0, .ref (am 20), .int 0, .int 0, .int 0, .int 0]))] H := hP
  have hD : va_D A [(am 0, .inr (12, [.int 0, .ref (am 1), .int 0, .int 0, .int 400, .int 0, .int 0, .int 0, .int 0, .int 0, .int 0, .int 0, .long 0, .int 0, .ref (am 2), .ref (am 3), .ref (am 4), .ref (am 5), .ref (am 6), .ref (am 7), .ref (am 8), .ref (am 9), .ref (am 10), .ref (am 11), .int 0, .int (-1), .ref (am 12), .ref (am 13), .ref (am 14), .int 0, .ref (am 15), .ref (am 16), .int 0, .int 0, .int 0, .ref (am 17), .int 0, .int 0, .ref (am 18), .ref (am 19), .int 0, .int 0, .ref (am 20), .int 0, .int 0, .int 0, .int 0]))] := hD
  rw [hQ9]
  exact re_v () hx hb hr hlocks trivial (hP.sub [0] rfl) (hD.sub [0] rfl rfl) hS dX11_begin_32
abbrev O_m_begin200 (cy : Nat → ClassId) (am : Nat → Nat) (u : Unit) : va_W := [(am 0, .inr (12, [.int 0, .ref (am 1), .int 0, .int 0, .int 200, .int 0, .int 0, .int 0, .int 0, .int 0, .int 0, .int 0, .long 0, .int 0, .ref (am 2), .ref (am 3), .ref (am 4), .ref (am 5), .ref (am 6), .ref (am 7), .ref (am 8), .ref (am 9), .ref (am 10), .ref (am 11), .int 0, .int (-1), .ref (am 12), .ref (am 13), .ref (am 14), .int 0, .ref (am 15), .ref (am 16), .int 0, .int 0, .int 0, .ref (am 17), .int 0, .int 0, .ref (am 18), .ref (am 19), .int 0, .int 0, .ref (am 20), .int 0, .int 0, .int 0, .int 0]))]
set_option maxHeartbeats 4000000 in
set_option maxRecDepth 100000 in
theorem m_begin200 (l : Launch) (dC : Nat → ClassId) (dI : Nat → Nat → Nat) (cy : Nat → ClassId) (sz : Nat) (am : Nat → Nat)  : Met l yX11_begin (wl yX11_begin cX11_begin 2 none) ({ frames := 1, cells := 0, slots := 0, locals := 64 }) (Pw (dC, dI) vwCl cy [(am 0, .inr (12, [.int 0, .ref (am 1), .int 0, .int 0, .int 0, .int 0, .int 0, .int 0, .int 0, .int 0, .int 0, .int 0, .long 0, .int 0, .ref (am 2), .ref (am 3), .ref (am 4), .ref (am 5), .ref (am 6), .ref (am 7), .ref (am 8), .ref (am 9), .ref (am 10), .ref (am 11), .int 0, .int (-1), .ref (am 12), .ref (am 13), .ref (am 14), .int 0, .ref (am 15), .ref (am 16), .int 0, .int 0, .int 0, .ref (am 17), .int 0, .int 0, .ref (am 18), .ref (am 19), .int 0, .int 0, .ref (am 20), .int 0, .int 0, .int 0, .int 0]))] sz [.ref (am 0), .int 200] nE) (Qv (dC, dI) vwCl (fun (u : Unit) => True) (O_m_begin200 cy am) (va_A [(am 0, .inr (12, [.int 0, .ref (am 1), .int 0, .int 0, .int 0, .int 0, .int 0, .int 0, .int 0, .int 0, .int 0, .int 0, .long 0, .int 0, .ref (am 2), .ref (am 3), .ref (am 4), .ref (am 5), .ref (am 6), .ref (am 7), .ref (am 8), .ref (am 9), .ref (am 10), .ref (am 11), .int 0, .int (-1), .ref (am 12), .ref (am 13), .ref (am 14), .int 0, .ref (am 15), .ref (am 16), .int 0, .int 0, .int 0, .ref (am 17), .int 0, .int 0, .ref (am 18), .ref (am 19), .int 0, .int 0, .ref (am 20), .int 0, .int 0, .int 0, .int 0]))] sz)) 0 0 (va_A [(am 0, .inr (12, [.int 0, .ref (am 1), .int 0, .int 0, .int 0, .int 0, .int 0, .int 0, .int 0, .int 0, .int 0, .int 0, .long 0, .int 0, .ref (am 2), .ref (am 3), .ref (am 4), .ref (am 5), .ref (am 6), .ref (am 7), .ref (am 8), .ref (am 9), .ref (am 10), .ref (am 11), .int 0, .int (-1), .ref (am 12), .ref (am 13), .ref (am 14), .int 0, .ref (am 15), .ref (am 16), .int 0, .int 0, .int 0, .ref (am 17), .int 0, .int 0, .ref (am 18), .ref (am 19), .int 0, .int 0, .ref (am 20), .int 0, .int 0, .int 0, .int 0]))] sz) := by
  refine mw (Qc := Qv (dC, dI) vwCl (fun (u : Unit) => True) (O_m_begin200 cy am)) RX11 rfl (by decide +kernel) (Nat.le_of_ble_eq_true rfl) ?_
  intro p e s m below meth c A hx hb hr hlocks av9 hav hts hown hnm hml hK hP hD hA hS hE hAe Q9 hQ9 ls hl
  have hl : lv_has ls 2 [(0, .ref (am 0)), (1, .int 200)] := hl
  refine lv_aload_n hx hb dX11_begin_0 rfl (lv_at hl 0 rfl) ?_
  refine lv_iconst (v := 0) hx hb dX11_begin_1 (by decide) ?_
  refine pf_X11_1 hx hb hts hown hK hP hD hS 0 rfl rfl rfl (Nat.le_of_ble_eq_true rfl) dX11_begin_2 (fun H locs hP hD hS => ?_)
  have hP : va_P (dC, dI) vwCl [(am 0, .inr (12, [.int 0, .ref (am 1), .int 0, .int 0, .int 0, .int 0, .int 0, .int 0, .int 0, .int 0, .int 0, .int 0, .long 0, .int 0, .ref (am 2), .ref (am 3), .ref (am 4), .ref (am 5), .ref (am 6), .ref (am 7), .ref (am 8), .ref (am 9), .ref (am 10), .ref (am 11), .int 0, .int (-1), .ref (am 12), .ref (am 13), .ref (am 14), .int 0, .ref (am 15), .ref (am 16), .int 0, .int 0, .int 0, .ref (am 17), .int 0, .int 0, .ref (am 18), .ref (am 19), .int 0, .int 0, .ref (am 20), .int 0, .int 0, .int 0, .int 0]))] H := hP
  have hD : va_D A [(am 0, .inr (12, [.int 0, .ref (am 1), .int 0, .int 0, .int 0, .int 0, .int 0, .int 0, .int 0, .int 0, .int 0, .int 0, .long 0, .int 0, .ref (am 2), .ref (am 3), .ref (am 4), .ref (am 5), .ref (am 6), .ref (am 7), .ref (am 8), .ref (am 9), .ref (am 10), .ref (am 11), .int 0, .int (-1), .ref (am 12), .ref (am 13), .ref (am 14), .int 0, .ref (am 15), .ref (am 16), .int 0, .int 0, .int 0, .ref (am 17), .int 0, .int 0, .ref (am 18), .ref (am 19), .int 0, .int 0, .ref (am 20), .int 0, .int 0, .int 0, .int 0]))] := hD
  refine lv_aload_n hx hb dX11_begin_5 rfl (lv_at hl 0 rfl) ?_
  refine lv_aload_n hx hb dX11_begin_6 rfl (lv_at hl 0 rfl) ?_
  refine jn_i (wr := []) (rV (As := []) (rest := [.ref (am 0)]) (ci := 12) ⟨hx, hb, hml, hown, hts⟩ (m_take l dC dI cy _ am ) (cw_X11_89 hts rfl rfl ⟨Nat.le_of_ble_eq_true rfl, Nat.le_of_ble_eq_true rfl⟩) hP hD hK [0] rfl rfl rfl rfl bl0 e0 rfl hl.1 rfl (Nat.le_of_ble_eq_true rfl) dX11_begin_7 ⟨Nat.le_of_ble_eq_true rfl, Nat.le_of_ble_eq_true rfl⟩) hP hD hS hA [0] [] rfl rfl rfl (by decide) (fun r_1 u_3 H locs hp_2 hP hD hS => ?_)
  have hp_2 : r_1 = 0 := hp_2
  have hP : va_P (dC, dI) vwCl [(am 0, .inr (12, [.int 0, .ref (am 1), .int 0, .int 0, .int 0, .int 0, .int 0, .int 0, .int 0, .int 0, .int 0, .int 0, .long 0, .int 0, .ref (am 2), .ref (am 3), .ref (am 4), .ref (am 5), .ref (am 6), .ref (am 7), .ref (am 8), .ref (am 9), .ref (am 10), .ref (am 11), .int 0, .int (-1), .ref (am 12), .ref (am 13), .ref (am 14), .int 0, .ref (am 15), .ref (am 16), .int 0, .int 0, .int 0, .ref (am 17), .int 0, .int 0, .ref (am 18), .ref (am 19), .int 0, .int 0, .ref (am 20), .int 0, .int 0, .int 0, .int 0]))] H := hP
  have hD : va_D A [(am 0, .inr (12, [.int 0, .ref (am 1), .int 0, .int 0, .int 0, .int 0, .int 0, .int 0, .int 0, .int 0, .int 0, .int 0, .long 0, .int 0, .ref (am 2), .ref (am 3), .ref (am 4), .ref (am 5), .ref (am 6), .ref (am 7), .ref (am 8), .ref (am 9), .ref (am 10), .ref (am 11), .int 0, .int (-1), .ref (am 12), .ref (am 13), .ref (am 14), .int 0, .ref (am 15), .ref (am 16), .int 0, .int 0, .int 0, .ref (am 17), .int 0, .int 0, .ref (am 18), .ref (am 19), .int 0, .int 0, .ref (am 20), .int 0, .int 0, .int 0, .int 0]))] := hD
  refine as_i 0 hp_2 ?_
  refine pf_X11_18 hx hb hts hown hK hP hD hS 0 rfl rfl rfl (Nat.le_of_ble_eq_true rfl) dX11_begin_10 (fun H locs hP hD hS => ?_)
  have hP : va_P (dC, dI) vwCl [(am 0, .inr (12, [.int 0, .ref (am 1), .int 0, .int 0, .int 0, .int 0, .int 0, .int 0, .int 0, .int 0, .int 0, .int 0, .long 0, .int 0, .ref (am 2), .ref (am 3), .ref (am 4), .ref (am 5), .ref (am 6), .ref (am 7), .ref (am 8), .ref (am 9), .ref (am 10), .ref (am 11), .int 0, .int (-1), .ref (am 12), .ref (am 13), .ref (am 14), .int 0, .ref (am 15), .ref (am 16), .int 0, .int 0, .int 0, .ref (am 17), .int 0, .int 0, .ref (am 18), .ref (am 19), .int 0, .int 0, .ref (am 20), .int 0, .int 0, .int 0, .int 0]))] H := hP
  have hD : va_D A [(am 0, .inr (12, [.int 0, .ref (am 1), .int 0, .int 0, .int 0, .int 0, .int 0, .int 0, .int 0, .int 0, .int 0, .int 0, .long 0, .int 0, .ref (am 2), .ref (am 3), .ref (am 4), .ref (am 5), .ref (am 6), .ref (am 7), .ref (am 8), .ref (am 9), .ref (am 10), .ref (am 11), .int 0, .int (-1), .ref (am 12), .ref (am 13), .ref (am 14), .int 0, .ref (am 15), .ref (am 16), .int 0, .int 0, .int 0, .ref (am 17), .int 0, .int 0, .ref (am 18), .ref (am 19), .int 0, .int 0, .ref (am 20), .int 0, .int 0, .int 0, .int 0]))] := hD
  refine lv_aload_n hx hb dX11_begin_13 rfl (lv_at hl 0 rfl) ?_
  refine lv_iload_n hx hb dX11_begin_14 rfl (lv_at hl 1 rfl) ?_
  refine pf_X11_27 hx hb hts hown hK hP hD hS 0 rfl rfl rfl (Nat.le_of_ble_eq_true rfl) dX11_begin_15 (fun H locs hP hD hS => ?_)
  have hP : va_P (dC, dI) vwCl [(am 0, .inr (12, [.int 0, .ref (am 1), .int 0, .int 0, .int 200, .int 0, .int 0, .int 0, .int 0, .int 0, .int 0, .int 0, .long 0, .int 0, .ref (am 2), .ref (am 3), .ref (am 4), .ref (am 5), .ref (am 6), .ref (am 7), .ref (am 8), .ref (am 9), .ref (am 10), .ref (am 11), .int 0, .int (-1), .ref (am 12), .ref (am 13), .ref (am 14), .int 0, .ref (am 15), .ref (am 16), .int 0, .int 0, .int 0, .ref (am 17), .int 0, .int 0, .ref (am 18), .ref (am 19), .int 0, .int 0, .ref (am 20), .int 0, .int 0, .int 0, .int 0]))] H := hP
  have hD : va_D A [(am 0, .inr (12, [.int 0, .ref (am 1), .int 0, .int 0, .int 200, .int 0, .int 0, .int 0, .int 0, .int 0, .int 0, .int 0, .long 0, .int 0, .ref (am 2), .ref (am 3), .ref (am 4), .ref (am 5), .ref (am 6), .ref (am 7), .ref (am 8), .ref (am 9), .ref (am 10), .ref (am 11), .int 0, .int (-1), .ref (am 12), .ref (am 13), .ref (am 14), .int 0, .ref (am 15), .ref (am 16), .int 0, .int 0, .int 0, .ref (am 17), .int 0, .int 0, .ref (am 18), .ref (am 19), .int 0, .int 0, .ref (am 20), .int 0, .int 0, .int 0, .int 0]))] := hD
  refine lv_aload_n hx hb dX11_begin_18 rfl (lv_at hl 0 rfl) ?_
  refine lv_iconst (v := 0) hx hb dX11_begin_19 (by decide) ?_
  refine pf_X11_66 hx hb hts hown hK hP hD hS 0 rfl rfl rfl (Nat.le_of_ble_eq_true rfl) dX11_begin_20 (fun H locs hP hD hS => ?_)
  have hP : va_P (dC, dI) vwCl [(am 0, .inr (12, [.int 0, .ref (am 1), .int 0, .int 0, .int 200, .int 0, .int 0, .int 0, .int 0, .int 0, .int 0, .int 0, .long 0, .int 0, .ref (am 2), .ref (am 3), .ref (am 4), .ref (am 5), .ref (am 6), .ref (am 7), .ref (am 8), .ref (am 9), .ref (am 10), .ref (am 11), .int 0, .int (-1), .ref (am 12), .ref (am 13), .ref (am 14), .int 0, .ref (am 15), .ref (am 16), .int 0, .int 0, .int 0, .ref (am 17), .int 0, .int 0, .ref (am 18), .ref (am 19), .int 0, .int 0, .ref (am 20), .int 0, .int 0, .int 0, .int 0]))] H := hP
  have hD : va_D A [(am 0, .inr (12, [.int 0, .ref (am 1), .int 0, .int 0, .int 200, .int 0, .int 0, .int 0, .int 0, .int 0, .int 0, .int 0, .long 0, .int 0, .ref (am 2), .ref (am 3), .ref (am 4), .ref (am 5), .ref (am 6), .ref (am 7), .ref (am 8), .ref (am 9), .ref (am 10), .ref (am 11), .int 0, .int (-1), .ref (am 12), .ref (am 13), .ref (am 14), .int 0, .ref (am 15), .ref (am 16), .int 0, .int 0, .int 0, .ref (am 17), .int 0, .int 0, .ref (am 18), .ref (am 19), .int 0, .int 0, .ref (am 20), .int 0, .int 0, .int 0, .int 0]))] := hD
  refine lv_aload_n hx hb dX11_begin_23 rfl (lv_at hl 0 rfl) ?_
  refine lv_iconst (v := 0) hx hb dX11_begin_24 (by decide) ?_
  refine pf_X11_21 hx hb hts hown hK hP hD hS 0 rfl rfl rfl (Nat.le_of_ble_eq_true rfl) dX11_begin_25 (fun H locs hP hD hS => ?_)
  have hP : va_P (dC, dI) vwCl [(am 0, .inr (12, [.int 0, .ref (am 1), .int 0, .int 0, .int 200, .int 0, .int 0, .int 0, .int 0, .int 0, .int 0, .int 0, .long 0, .int 0, .ref (am 2), .ref (am 3), .ref (am 4), .ref (am 5), .ref (am 6), .ref (am 7), .ref (am 8), .ref (am 9), .ref (am 10), .ref (am 11), .int 0, .int (-1), .ref (am 12), .ref (am 13), .ref (am 14), .int 0, .ref (am 15), .ref (am 16), .int 0, .int 0, .int 0, .ref (am 17), .int 0, .int 0, .ref (am 18), .ref (am 19), .int 0, .int 0, .ref (am 20), .int 0, .int 0, .int 0, .int 0]))] H := hP
  have hD : va_D A [(am 0, .inr (12, [.int 0, .ref (am 1), .int 0, .int 0, .int 200, .int 0, .int 0, .int 0, .int 0, .int 0, .int 0, .int 0, .long 0, .int 0, .ref (am 2), .ref (am 3), .ref (am 4), .ref (am 5), .ref (am 6), .ref (am 7), .ref (am 8), .ref (am 9), .ref (am 10), .ref (am 11), .int 0, .int (-1), .ref (am 12), .ref (am 13), .ref (am 14), .int 0, .ref (am 15), .ref (am 16), .int 0, .int 0, .int 0, .ref (am 17), .int 0, .int 0, .ref (am 18), .ref (am 19), .int 0, .int 0, .ref (am 20), .int 0, .int 0, .int 0, .int 0]))] := hD
  refine lv_aload_n hx hb dX11_begin_28 rfl (lv_at hl 0 rfl) ?_
  refine jn_v (wr := []) (rV (As := []) (rest := []) (ci := 12) ⟨hx, hb, hml, hown, hts⟩ (m_go200 l dC dI cy _ am ) (cw_X11_82 hts rfl rfl ⟨Nat.le_of_ble_eq_true rfl, Nat.le_of_ble_eq_true rfl⟩) hP hD hK [0] rfl rfl rfl rfl bl0 e0 rfl hl.1 rfl (Nat.le_of_ble_eq_true rfl) dX11_begin_29 ⟨Nat.le_of_ble_eq_true rfl, Nat.le_of_ble_eq_true rfl⟩) hP hD hS hA [0] [] rfl rfl rfl (by decide) (fun u_6 H locs hp_5 hP hD hS => ?_)
  have hp_5 : True := hp_5
  have hP : va_P (dC, dI) vwCl [(am 0, .inr (12, [.int 0, .ref (am 1), .int 0, .int 0, .int 200, .int 0, .int 0, .int 0, .int 0, .int 0, .int 0, .int 0, .long 0, .int 0, .ref (am 2), .ref (am 3), .ref (am 4), .ref (am 5), .ref (am 6), .ref (am 7), .ref (am 8), .ref (am 9), .ref (am 10), .ref (am 11), .int 0, .int (-1), .ref (am 12), .ref (am 13), .ref (am 14), .int 0, .ref (am 15), .ref (am 16), .int 0, .int 0, .int 0, .ref (am 17), .int 0, .int 0, .ref (am 18), .ref (am 19), .int 0, .int 0, .ref (am 20), .int 0, .int 0, .int 0, .int 0]))] H := hP
  have hD : va_D A [(am 0, .inr (12, [.int 0, .ref (am 1), .int 0, .int 0, .int 200, .int 0, .int 0, .int 0, .int 0, .int 0, .int 0, .int 0, .long 0, .int 0, .ref (am 2), .ref (am 3), .ref (am 4), .ref (am 5), .ref (am 6), .ref (am 7), .ref (am 8), .ref (am 9), .ref (am 10), .ref (am 11), .int 0, .int (-1), .ref (am 12), .ref (am 13), .ref (am 14), .int 0, .ref (am 15), .ref (am 16), .int 0, .int 0, .int 0, .ref (am 17), .int 0, .int 0, .ref (am 18), .ref (am 19), .int 0, .int 0, .ref (am 20), .int 0, .int 0, .int 0, .int 0]))] := hD
  rw [hQ9]
  exact re_v () hx hb hr hlocks trivial (hP.sub [0] rfl) (hD.sub [0] rfl rfl) hS dX11_begin_32
abbrev cX11_may : ByteArray := prog_13_method_88_code
def yX11_may : MethodName := ⟨RX11, "may", "()J"⟩
theorem t1888 : Cond.code yX11_may cX11_may 7 (some .long) ∈ GW := gw_mem 2002 (by decide +kernel) (by decide +kernel)
theorem dX11_may_0 : decode cX11_may 0 = .ok (.aload_n 0, 1) := by decide +kernel
theorem dX11_may_1 : decode cX11_may 1 = .ok (.iconst 0, 1) := by decide +kernel
theorem dX11_may_2 : decode cX11_may 2 = .ok (.putfield 1, 3) := by decide +kernel
theorem dX11_may_5 : decode cX11_may 5 = .ok (.aload_n 0, 1) := by decide +kernel
theorem dX11_may_6 : decode cX11_may 6 = .ok (.invokevirtual 89, 3) := by decide +kernel
theorem dX11_may_9 : decode cX11_may 9 = .ok (.iconst 2, 1) := by decide +kernel
theorem dX11_may_10 : decode cX11_may 10 = .ok (.if_icmp .eq 7, 3) := by decide +kernel
theorem dX11_may_13 : decode cX11_may 13 = .ok (.ldc2_w 314, 3) := by decide +kernel
theorem t1889 : Cond.constantLong RX11 314 (-1) ∈ GW := gw_mem 2003 (by decide +kernel) (by decide +kernel)
theorem dX11_may_16 : decode cX11_may 16 = .ok (.lreturn, 1) := by decide +kernel
set_option maxHeartbeats 4000000 in
set_option maxRecDepth 100000 in
theorem m_may (l : Launch) (dC : Nat → ClassId) (dI : Nat → Nat → Nat) (cy : Nat → ClassId) (sz : Nat) (am : Nat → Nat)  : Met l yX11_may (wl yX11_may cX11_may 7 (some .long)) ({ frames := 1, cells := 0, slots := 0, locals := 64 }) (Pw (dC, dI) vwCl cy [(am 0, .inr (12, [.int 0, .ref (am 1), .int 0, .int 0, .int 0, .int 0, .int 0, .int 0, .int 0, .int 0, .int 0, .int 0, .long 0, .int 0, .ref (am 2), .ref (am 3), .ref (am 4), .ref (am 5), .ref (am 6), .ref (am 7), .ref (am 8), .ref (am 9), .ref (am 10), .ref (am 11), .int 0, .int (-1), .ref (am 12), .ref (am 13), .ref (am 14), .int 0, .ref (am 15), .ref (am 16), .int 0, .int 0, .int 0, .ref (am 17), .int 0, .int 0, .ref (am 18), .ref (am 19), .int 0, .int 0, .ref (am 20), .int 0, .int 0, .int 0, .int 0]))] sz [.ref (am 0)] nE) (Ql (dC, dI) vwCl (fun (r : Int64) (u : Unit) => r = (-1)) (fun (u : Unit) => []) (va_A [(am 0, .inr (12, [.int 0, .ref (am 1), .int 0, .int 0, .int 0, .int 0, .int 0, .int 0, .int 0, .int 0, .int 0, .int 0, .long 0, .int 0, .ref (am 2), .ref (am 3), .ref (am 4), .ref (am 5), .ref (am 6), .ref (am 7), .ref (am 8), .ref (am 9), .ref (am 10), .ref (am 11), .int 0, .int (-1), .ref (am 12), .ref (am 13), .ref (am 14), .int 0, .ref (am 15), .ref (am 16), .int 0, .int 0, .int 0, .ref (am 17), .int 0, .int 0, .ref (am 18), .ref (am 19), .int 0, .int 0, .ref (am 20), .int 0, .int 0, .int 0, .int 0]))] sz)) 0 0 (va_A [(am 0, .inr (12, [.int 0, .ref (am 1), .int 0, .int 0, .int 0, .int 0, .int 0, .int 0, .int 0, .int 0, .int 0, .int 0, .long 0, .int 0, .ref (am 2), .ref (am 3), .ref (am 4), .ref (am 5), .ref (am 6), .ref (am 7), .ref (am 8), .ref (am 9), .ref (am 10), .ref (am 11), .int 0, .int (-1), .ref (am 12), .ref (am 13), .ref (am 14), .int 0, .ref (am 15), .ref (am 16), .int 0, .int 0, .int 0, .ref (am 17), .int 0, .int 0, .ref (am 18), .ref (am 19), .int 0, .int 0, .ref (am 20), .int 0, .int 0, .int 0, .int 0]))] sz) := by
  refine mw (Qc := Ql (dC, dI) vwCl (fun (r : Int64) (u : Unit) => r = (-1)) (fun (u : Unit) => [])) RX11 rfl (by decide +kernel) (Nat.le_of_ble_eq_true rfl) ?_
  intro p e s m below meth c A hx hb hr hlocks av9 hav hts hown hnm hml hK hP hD hA hS hE hAe Q9 hQ9 ls hl
  have hl : lv_has ls 7 [(0, .ref (am 0))] := hl
  refine lv_aload_n hx hb dX11_may_0 rfl (lv_at hl 0 rfl) ?_
  refine lv_iconst (v := 0) hx hb dX11_may_1 (by decide) ?_
  refine pf_X11_1 hx hb hts hown hK hP hD hS 0 rfl rfl rfl (Nat.le_of_ble_eq_true rfl) dX11_may_2 (fun H locs hP hD hS => ?_)
  have hP : va_P (dC, dI) vwCl [(am 0, .inr (12, [.int 0, .ref (am 1), .int 0, .int 0, .int 0, .int 0, .int 0, .int 0, .int 0, .int 0, .int 0, .int 0, .long 0, .int 0, .ref (am 2), .ref (am 3), .ref (am 4), .ref (am 5), .ref (am 6), .ref (am 7), .ref (am 8), .ref (am 9), .ref (am 10), .ref (am 11), .int 0, .int (-1), .ref (am 12), .ref (am 13), .ref (am 14), .int 0, .ref (am 15), .ref (am 16), .int 0, .int 0, .int 0, .ref (am 17), .int 0, .int 0, .ref (am 18), .ref (am 19), .int 0, .int 0, .ref (am 20), .int 0, .int 0, .int 0, .int 0]))] H := hP
  have hD : va_D A [(am 0, .inr (12, [.int 0, .ref (am 1), .int 0, .int 0, .int 0, .int 0, .int 0, .int 0, .int 0, .int 0, .int 0, .int 0, .long 0, .int 0, .ref (am 2), .ref (am 3), .ref (am 4), .ref (am 5), .ref (am 6), .ref (am 7), .ref (am 8), .ref (am 9), .ref (am 10), .ref (am 11), .int 0, .int (-1), .ref (am 12), .ref (am 13), .ref (am 14), .int 0, .ref (am 15), .ref (am 16), .int 0, .int 0, .int 0, .ref (am 17), .int 0, .int 0, .ref (am 18), .ref (am 19), .int 0, .int 0, .ref (am 20), .int 0, .int 0, .int 0, .int 0]))] := hD
  refine lv_aload_n hx hb dX11_may_5 rfl (lv_at hl 0 rfl) ?_
  refine jn_i (wr := []) (rV (As := []) (rest := []) (ci := 12) ⟨hx, hb, hml, hown, hts⟩ (m_take l dC dI cy _ am ) (cw_X11_89 hts rfl rfl ⟨Nat.le_of_ble_eq_true rfl, Nat.le_of_ble_eq_true rfl⟩) hP hD hK [0] rfl rfl rfl rfl bl0 e0 rfl hl.1 rfl (Nat.le_of_ble_eq_true rfl) dX11_may_6 ⟨Nat.le_of_ble_eq_true rfl, Nat.le_of_ble_eq_true rfl⟩) hP hD hS hA [0] [] rfl rfl rfl (by decide) (fun r_1 u_3 H locs hp_2 hP hD hS => ?_)
  have hp_2 : r_1 = 0 := hp_2
  have hP : va_P (dC, dI) vwCl [(am 0, .inr (12, [.int 0, .ref (am 1), .int 0, .int 0, .int 0, .int 0, .int 0, .int 0, .int 0, .int 0, .int 0, .int 0, .long 0, .int 0, .ref (am 2), .ref (am 3), .ref (am 4), .ref (am 5), .ref (am 6), .ref (am 7), .ref (am 8), .ref (am 9), .ref (am 10), .ref (am 11), .int 0, .int (-1), .ref (am 12), .ref (am 13), .ref (am 14), .int 0, .ref (am 15), .ref (am 16), .int 0, .int 0, .int 0, .ref (am 17), .int 0, .int 0, .ref (am 18), .ref (am 19), .int 0, .int 0, .ref (am 20), .int 0, .int 0, .int 0, .int 0]))] H := hP
  have hD : va_D A [(am 0, .inr (12, [.int 0, .ref (am 1), .int 0, .int 0, .int 0, .int 0, .int 0, .int 0, .int 0, .int 0, .int 0, .int 0, .long 0, .int 0, .ref (am 2), .ref (am 3), .ref (am 4), .ref (am 5), .ref (am 6), .ref (am 7), .ref (am 8), .ref (am 9), .ref (am 10), .ref (am 11), .int 0, .int (-1), .ref (am 12), .ref (am 13), .ref (am 14), .int 0, .ref (am 15), .ref (am 16), .int 0, .int 0, .int 0, .ref (am 17), .int 0, .int 0, .ref (am 18), .ref (am 19), .int 0, .int 0, .ref (am 20), .int 0, .int 0, .int 0, .int 0]))] := hD
  refine as_i 0 hp_2 ?_
  refine lv_iconst (v := 2) hx hb dX11_may_9 (by decide) ?_
  refine lv_icmp_eq (tgt := 17) hx hb dX11_may_10 (by decide) (fun c9 => absurd c9 (by decide)) (fun _ => ?_)
  refine lv_ldc2 hx hb hown (hts _ t1889) dX11_may_13 ?_
  rw [hQ9]
  exact re_l () hx hb hr hlocks rfl (hP.sub [] rfl) (hD.sub [] rfl rfl) hS dX11_may_16
abbrev cX11_startSo : ByteArray := prog_13_method_27_code
def yX11_startSo : MethodName := ⟨RX11, "startSo", "()V"⟩
theorem t1445 : Cond.code yX11_startSo cX11_startSo 2 none ∈ GW := gw_mem 1559 (by decide +kernel) (by decide +kernel)
abbrev O_m_startSo (cy : Nat → ClassId) (am : Nat → Nat) (lim : Int32) (hlp : Int32) (fn : Nat → Int32) (u : (Nat → Int32)) : va_W := [(am 0, .inr (12, [.int 0, .ref (am 1), .int 0, .int 0, .int lim, .int 0, .int 0, .int 0, .int 0, .int 0, .int 0, .int 0, .long 0, .int 0, .ref (am 2), .ref (am 3), .ref (am 4), .ref (am 5), .ref (am 6), .ref (am 7), .ref (am 8), .ref (am 9), .ref (am 10), .ref (am 11), .int 0, .int hlp, .ref (am 12), .ref (am 13), .ref (am 14), .int 0, .ref (am 15), .ref (am 16), .int 0, .int 0, .int 0, .ref (am 17), .int 0, .int 0, .ref (am 18), .ref (am 19), .int 0, .int 0, .ref (am 20), .int 0, .int 0, .int 0, .int 0])), (am 2, .inl (cy 0, 575, .inl u))]
theorem dX11_startSo_0 : decode cX11_startSo 0 = .ok (.sipush 157, 3) := by decide +kernel
theorem dX11_startSo_3 : decode cX11_startSo 3 = .ok (.istore_n 1, 1) := by decide +kernel
theorem dX11_startSo_4 : decode cX11_startSo 4 = .ok (.iload_n 1, 1) := by decide +kernel
theorem dX11_startSo_5 : decode cX11_startSo 5 = .ok (.sipush 575, 3) := by decide +kernel
theorem dX11_startSo_8 : decode cX11_startSo 8 = .ok (.if_icmp .ge 16, 3) := by decide +kernel
theorem dX11_startSo_24 : decode cX11_startSo 24 = .ok (.iconst 0, 1) := by decide +kernel
theorem dX11_startSo_25 : decode cX11_startSo 25 = .ok (.istore_n 1, 1) := by decide +kernel
theorem dX11_startSo_26 : decode cX11_startSo 26 = .ok (.iload_n 1, 1) := by decide +kernel
theorem dX11_startSo_27 : decode cX11_startSo 27 = .ok (.bipush 70, 2) := by decide +kernel
theorem dX11_startSo_29 : decode cX11_startSo 29 = .ok (.if_icmp .ge 28, 3) := by decide +kernel
theorem dX11_startSo_57 : decode cX11_startSo 57 = .ok (.iconst 0, 1) := by decide +kernel
theorem dX11_startSo_58 : decode cX11_startSo 58 = .ok (.istore_n 1, 1) := by decide +kernel
theorem dX11_startSo_59 : decode cX11_startSo 59 = .ok (.iload_n 1, 1) := by decide +kernel
theorem dX11_startSo_60 : decode cX11_startSo 60 = .ok (.bipush 49, 2) := by decide +kernel
theorem dX11_startSo_62 : decode cX11_startSo 62 = .ok (.if_icmp .ge 28, 3) := by decide +kernel
theorem dX11_startSo_90 : decode cX11_startSo 90 = .ok (.iconst 0, 1) := by decide +kernel
theorem dX11_startSo_91 : decode cX11_startSo 91 = .ok (.istore_n 1, 1) := by decide +kernel
theorem dX11_startSo_92 : decode cX11_startSo 92 = .ok (.iload_n 1, 1) := by decide +kernel
theorem dX11_startSo_93 : decode cX11_startSo 93 = .ok (.bipush 7, 2) := by decide +kernel
theorem dX11_startSo_95 : decode cX11_startSo 95 = .ok (.if_icmp .ge 49, 3) := by decide +kernel
theorem dX11_startSo_144 : decode cX11_startSo 144 = .ok (.return_, 1) := by decide +kernel
theorem dX11_startSo_98 : decode cX11_startSo 98 = .ok (.aload_n 0, 1) := by decide +kernel
theorem dX11_startSo_99 : decode cX11_startSo 99 = .ok (.getfield 98, 3) := by decide +kernel
theorem dX11_startSo_102 : decode cX11_startSo 102 = .ok (.sipush 158, 3) := by decide +kernel
theorem dX11_startSo_105 : decode cX11_startSo 105 = .ok (.iload_n 1, 1) := by decide +kernel
theorem dX11_startSo_106 : decode cX11_startSo 106 = .ok (.iadd, 1) := by decide +kernel
theorem dX11_startSo_107 : decode cX11_startSo 107 = .ok (.aload_n 0, 1) := by decide +kernel
theorem dX11_startSo_108 : decode cX11_startSo 108 = .ok (.getfield 98, 3) := by decide +kernel
theorem dX11_startSo_111 : decode cX11_startSo 111 = .ok (.iconst 4, 1) := by decide +kernel
theorem dX11_startSo_112 : decode cX11_startSo 112 = .ok (.iload_n 1, 1) := by decide +kernel
theorem dX11_startSo_113 : decode cX11_startSo 113 = .ok (.iadd, 1) := by decide +kernel
theorem dX11_startSo_114 : decode cX11_startSo 114 = .ok (.iaload, 1) := by decide +kernel
theorem dX11_startSo_115 : decode cX11_startSo 115 = .ok (.iastore, 1) := by decide +kernel
theorem dX11_startSo_116 : decode cX11_startSo 116 = .ok (.aload_n 0, 1) := by decide +kernel
theorem dX11_startSo_117 : decode cX11_startSo 117 = .ok (.getfield 98, 3) := by decide +kernel
theorem dX11_startSo_120 : decode cX11_startSo 120 = .ok (.sipush 235, 3) := by decide +kernel
theorem dX11_startSo_123 : decode cX11_startSo 123 = .ok (.iload_n 1, 1) := by decide +kernel
theorem dX11_startSo_124 : decode cX11_startSo 124 = .ok (.iadd, 1) := by decide +kernel
theorem dX11_startSo_125 : decode cX11_startSo 125 = .ok (.iconst (-1), 1) := by decide +kernel
theorem dX11_startSo_126 : decode cX11_startSo 126 = .ok (.iastore, 1) := by decide +kernel
theorem dX11_startSo_127 : decode cX11_startSo 127 = .ok (.aload_n 0, 1) := by decide +kernel
theorem dX11_startSo_128 : decode cX11_startSo 128 = .ok (.getfield 98, 3) := by decide +kernel
theorem dX11_startSo_131 : decode cX11_startSo 131 = .ok (.sipush 242, 3) := by decide +kernel
theorem dX11_startSo_134 : decode cX11_startSo 134 = .ok (.iload_n 1, 1) := by decide +kernel
theorem dX11_startSo_135 : decode cX11_startSo 135 = .ok (.iadd, 1) := by decide +kernel
theorem dX11_startSo_136 : decode cX11_startSo 136 = .ok (.iconst (-1), 1) := by decide +kernel
theorem dX11_startSo_137 : decode cX11_startSo 137 = .ok (.iastore, 1) := by decide +kernel
theorem dX11_startSo_138 : decode cX11_startSo 138 = .ok (.iinc 1 1, 3) := by decide +kernel
theorem dX11_startSo_141 : decode cX11_startSo 141 = .ok (.goto (-49), 3) := by decide +kernel
theorem dX11_startSo_65 : decode cX11_startSo 65 = .ok (.aload_n 0, 1) := by decide +kernel
theorem dX11_startSo_66 : decode cX11_startSo 66 = .ok (.getfield 98, 3) := by decide +kernel
theorem dX11_startSo_69 : decode cX11_startSo 69 = .ok (.sipush 249, 3) := by decide +kernel
theorem dX11_startSo_72 : decode cX11_startSo 72 = .ok (.iload_n 1, 1) := by decide +kernel
theorem dX11_startSo_73 : decode cX11_startSo 73 = .ok (.iadd, 1) := by decide +kernel
theorem dX11_startSo_74 : decode cX11_startSo 74 = .ok (.aload_n 0, 1) := by decide +kernel
theorem dX11_startSo_75 : decode cX11_startSo 75 = .ok (.getfield 98, 3) := by decide +kernel
theorem dX11_startSo_78 : decode cX11_startSo 78 = .ok (.bipush 108, 2) := by decide +kernel
theorem dX11_startSo_80 : decode cX11_startSo 80 = .ok (.iload_n 1, 1) := by decide +kernel
theorem dX11_startSo_81 : decode cX11_startSo 81 = .ok (.iadd, 1) := by decide +kernel
theorem dX11_startSo_82 : decode cX11_startSo 82 = .ok (.iaload, 1) := by decide +kernel
theorem dX11_startSo_83 : decode cX11_startSo 83 = .ok (.iastore, 1) := by decide +kernel
theorem dX11_startSo_84 : decode cX11_startSo 84 = .ok (.iinc 1 1, 3) := by decide +kernel
theorem dX11_startSo_87 : decode cX11_startSo 87 = .ok (.goto (-28), 3) := by decide +kernel
theorem dX11_startSo_32 : decode cX11_startSo 32 = .ok (.aload_n 0, 1) := by decide +kernel
theorem dX11_startSo_33 : decode cX11_startSo 33 = .ok (.getfield 98, 3) := by decide +kernel
theorem dX11_startSo_36 : decode cX11_startSo 36 = .ok (.sipush 165, 3) := by decide +kernel
theorem dX11_startSo_39 : decode cX11_startSo 39 = .ok (.iload_n 1, 1) := by decide +kernel
theorem dX11_startSo_40 : decode cX11_startSo 40 = .ok (.iadd, 1) := by decide +kernel
theorem dX11_startSo_41 : decode cX11_startSo 41 = .ok (.aload_n 0, 1) := by decide +kernel
theorem dX11_startSo_42 : decode cX11_startSo 42 = .ok (.getfield 98, 3) := by decide +kernel
theorem dX11_startSo_45 : decode cX11_startSo 45 = .ok (.bipush 31, 2) := by decide +kernel
theorem dX11_startSo_47 : decode cX11_startSo 47 = .ok (.iload_n 1, 1) := by decide +kernel
theorem dX11_startSo_48 : decode cX11_startSo 48 = .ok (.iadd, 1) := by decide +kernel
theorem dX11_startSo_49 : decode cX11_startSo 49 = .ok (.iaload, 1) := by decide +kernel
theorem dX11_startSo_50 : decode cX11_startSo 50 = .ok (.iastore, 1) := by decide +kernel
theorem dX11_startSo_51 : decode cX11_startSo 51 = .ok (.iinc 1 1, 3) := by decide +kernel
theorem dX11_startSo_54 : decode cX11_startSo 54 = .ok (.goto (-28), 3) := by decide +kernel
theorem dX11_startSo_11 : decode cX11_startSo 11 = .ok (.aload_n 0, 1) := by decide +kernel
theorem dX11_startSo_12 : decode cX11_startSo 12 = .ok (.getfield 98, 3) := by decide +kernel
theorem dX11_startSo_15 : decode cX11_startSo 15 = .ok (.iload_n 1, 1) := by decide +kernel
theorem dX11_startSo_16 : decode cX11_startSo 16 = .ok (.iconst 0, 1) := by decide +kernel
theorem dX11_startSo_17 : decode cX11_startSo 17 = .ok (.iastore, 1) := by decide +kernel
theorem dX11_startSo_18 : decode cX11_startSo 18 = .ok (.iinc 1 1, 3) := by decide +kernel
theorem dX11_startSo_21 : decode cX11_startSo 21 = .ok (.goto (-17), 3) := by decide +kernel
set_option maxHeartbeats 4000000 in
set_option maxRecDepth 100000 in
theorem m_startSo (l : Launch) (dC : Nat → ClassId) (dI : Nat → Nat → Nat) (cy : Nat → ClassId) (sz : Nat) (am : Nat → Nat) (lim : Int32) (hlp : Int32) (fn : Nat → Int32)  : Met l yX11_startSo (wl yX11_startSo cX11_startSo 2 none) ({ frames := 0, cells := 0, slots := 0, locals := 0 }) (Pw (dC, dI) vwCl cy [(am 0, .inr (12, [.int 0, .ref (am 1), .int 0, .int 0, .int lim, .int 0, .int 0, .int 0, .int 0, .int 0, .int 0, .int 0, .long 0, .int 0, .ref (am 2), .ref (am 3), .ref (am 4), .ref (am 5), .ref (am 6), .ref (am 7), .ref (am 8), .ref (am 9), .ref (am 10), .ref (am 11), .int 0, .int hlp, .ref (am 12), .ref (am 13), .ref (am 14), .int 0, .ref (am 15), .ref (am 16), .int 0, .int 0, .int 0, .ref (am 17), .int 0, .int 0, .ref (am 18), .ref (am 19), .int 0, .int 0, .ref (am 20), .int 0, .int 0, .int 0, .int 0])), (am 2, .inl (cy 0, 575, .inl fn))] sz [.ref (am 0)] nE) (Qv (dC, dI) vwCl (fun (u : (Nat → Int32)) => SOk fn u) (O_m_startSo cy am lim hlp fn) (va_A [(am 0, .inr (12, [.int 0, .ref (am 1), .int 0, .int 0, .int lim, .int 0, .int 0, .int 0, .int 0, .int 0, .int 0, .int 0, .long 0, .int 0, .ref (am 2), .ref (am 3), .ref (am 4), .ref (am 5), .ref (am 6), .ref (am 7), .ref (am 8), .ref (am 9), .ref (am 10), .ref (am 11), .int 0, .int hlp, .ref (am 12), .ref (am 13), .ref (am 14), .int 0, .ref (am 15), .ref (am 16), .int 0, .int 0, .int 0, .ref (am 17), .int 0, .int 0, .ref (am 18), .ref (am 19), .int 0, .int 0, .ref (am 20), .int 0, .int 0, .int 0, .int 0])), (am 2, .inl (cy 0, 575, .inl fn))] sz)) 0 0 (va_A [(am 0, .inr (12, [.int 0, .ref (am 1), .int 0, .int 0, .int lim, .int 0, .int 0, .int 0, .int 0, .int 0, .int 0, .int 0, .long 0, .int 0, .ref (am 2), .ref (am 3), .ref (am 4), .ref (am 5), .ref (am 6), .ref (am 7), .ref (am 8), .ref (am 9), .ref (am 10), .ref (am 11), .int 0, .int hlp, .ref (am 12), .ref (am 13), .ref (am 14), .int 0, .ref (am 15), .ref (am 16), .int 0, .int 0, .int 0, .ref (am 17), .int 0, .int 0, .ref (am 18), .ref (am 19), .int 0, .int 0, .ref (am 20), .int 0, .int 0, .int 0, .int 0])), (am 2, .inl (cy 0, 575, .inl fn))] sz) := by
  refine mw (Qc := Qv (dC, dI) vwCl (fun (u : (Nat → Int32)) => SOk fn u) (O_m_startSo cy am lim hlp fn)) RX11 rfl (by decide +kernel) (Nat.le_of_ble_eq_true rfl) ?_
  intro p e s m below meth c A hx hb hr hlocks av9 hav hts hown hnm hml hK hP hD hA hS hE hAe Q9 hQ9 ls hl
  have hl : lv_has ls 2 [(0, .ref (am 0))] := hl
  refine lv_sipush (v := 157) hx hb dX11_startSo_0 (by decide) ?_
  refine lv_istore_n (lv' := [(1, .int 157), (0, .ref (am 0))]) hx hb dX11_startSo_3 rfl hl (by decide) rfl (fun ls hl => ?_)
  have loop1 : ∀ (n1_ i1 : Nat) (g_2 : Nat → Int32) (hs : LOk fn g_2 i1) (hi : 157 ≤ i1), i1 + n1_ = 575 → ∀ (H : Heap) (locs : List Loc), va_P (dC, dI) vwCl [(am 0, .inr (12, [.int 0, .ref (am 1), .int 0, .int 0, .int lim, .int 0, .int 0, .int 0, .int 0, .int 0, .int 0, .int 0, .long 0, .int 0, .ref (am 2), .ref (am 3), .ref (am 4), .ref (am 5), .ref (am 6), .ref (am 7), .ref (am 8), .ref (am 9), .ref (am 10), .ref (am 11), .int 0, .int hlp, .ref (am 12), .ref (am 13), .ref (am 14), .int 0, .ref (am 15), .ref (am 16), .int 0, .int 0, .int 0, .ref (am 17), .int 0, .int 0, .ref (am 18), .ref (am 19), .int 0, .int 0, .ref (am 20), .int 0, .int 0, .int 0, .int 0])), (am 2, .inl (cy 0, 575, .inl g_2))] H → va_D A [(am 0, .inr (12, [.int 0, .ref (am 1), .int 0, .int 0, .int lim, .int 0, .int 0, .int 0, .int 0, .int 0, .int 0, .int 0, .long 0, .int 0, .ref (am 2), .ref (am 3), .ref (am 4), .ref (am 5), .ref (am 6), .ref (am 7), .ref (am 8), .ref (am 9), .ref (am 10), .ref (am 11), .int 0, .int hlp, .ref (am 12), .ref (am 13), .ref (am 14), .int 0, .ref (am 15), .ref (am 16), .int 0, .int 0, .int 0, .ref (am 17), .int 0, .int 0, .ref (am 18), .ref (am 19), .int 0, .int 0, .ref (am 20), .int 0, .int 0, .int 0, .int 0])), (am 2, .inl (cy 0, 575, .inl g_2))] → va_S A s.heap H locs → ∀ ls : Array Slot, lv_has ls 2 [(0, .ref (am 0)), (1, .int (nI i1))] → W p l e ({ frames := 0, cells := 0, slots := 0, locals := 0 }) s m av9 below meth c H locs 0 0 Q9 (F0 m 4 ls []) := by
    intro n1_
    induction n1_ with
    | zero =>
      intro i1 g_2 hs hi hn1 H locs hP hD hS ls hl
      obtain rfl : i1 = 575 := by omega
      have hl : lv_has ls 2 [(0, .ref (am 0)), (1, .int 575)] := hl
      have hP : va_P (dC, dI) vwCl [(am 0, .inr (12, [.int 0, .ref (am 1), .int 0, .int 0, .int lim, .int 0, .int 0, .int 0, .int 0, .int 0, .int 0, .int 0, .long 0, .int 0, .ref (am 2), .ref (am 3), .ref (am 4), .ref (am 5), .ref (am 6), .ref (am 7), .ref (am 8), .ref (am 9), .ref (am 10), .ref (am 11), .int 0, .int hlp, .ref (am 12), .ref (am 13), .ref (am 14), .int 0, .ref (am 15), .ref (am 16), .int 0, .int 0, .int 0, .ref (am 17), .int 0, .int 0, .ref (am 18), .ref (am 19), .int 0, .int 0, .ref (am 20), .int 0, .int 0, .int 0, .int 0])), (am 2, .inl (cy 0, 575, .inl g_2))] H := hP
      have hD : va_D A [(am 0, .inr (12, [.int 0, .ref (am 1), .int 0, .int 0, .int lim, .int 0, .int 0, .int 0, .int 0, .int 0, .int 0, .int 0, .long 0, .int 0, .ref (am 2), .ref (am 3), .ref (am 4), .ref (am 5), .ref (am 6), .ref (am 7), .ref (am 8), .ref (am 9), .ref (am 10), .ref (am 11), .int 0, .int hlp, .ref (am 12), .ref (am 13), .ref (am 14), .int 0, .ref (am 15), .ref (am 16), .int 0, .int 0, .int 0, .ref (am 17), .int 0, .int 0, .ref (am 18), .ref (am 19), .int 0, .int 0, .ref (am 20), .int 0, .int 0, .int 0, .int 0])), (am 2, .inl (cy 0, 575, .inl g_2))] := hD
      refine lv_iload_n hx hb dX11_startSo_4 rfl (lv_at hl 1 rfl) ?_
      refine lv_sipush (v := 575) hx hb dX11_startSo_5 (by decide) ?_
      refine lv_icmp_ge (tgt := 24) hx hb dX11_startSo_8 (by decide) (fun _ => ?_) (fun c9 => absurd (by decide) c9)
      refine lv_iconst (v := 0) hx hb dX11_startSo_24 (by decide) ?_
      refine lv_istore_n (lv' := [(1, .int 0), (0, .ref (am 0))]) hx hb dX11_startSo_25 rfl hl (by decide) rfl (fun ls hl => ?_)
      have loop3 : ∀ (n3_ i3 : Nat) (g_4 : Nat → Int32) (hs : SOk fn g_4), i3 + n3_ = 70 → ∀ (H : Heap) (locs : List Loc), va_P (dC, dI) vwCl [(am 0, .inr (12, [.int 0, .ref (am 1), .int 0, .int 0, .int lim, .int 0, .int 0, .int 0, .int 0, .int 0, .int 0, .int 0, .long 0, .int 0, .ref (am 2), .ref (am 3), .ref (am 4), .ref (am 5), .ref (am 6), .ref (am 7), .ref (am 8), .ref (am 9), .ref (am 10), .ref (am 11), .int 0, .int hlp, .ref (am 12), .ref (am 13), .ref (am 14), .int 0, .ref (am 15), .ref (am 16), .int 0, .int 0, .int 0, .ref (am 17), .int 0, .int 0, .ref (am 18), .ref (am 19), .int 0, .int 0, .ref (am 20), .int 0, .int 0, .int 0, .int 0])), (am 2, .inl (cy 0, 575, .inl g_4))] H → va_D A [(am 0, .inr (12, [.int 0, .ref (am 1), .int 0, .int 0, .int lim, .int 0, .int 0, .int 0, .int 0, .int 0, .int 0, .int 0, .long 0, .int 0, .ref (am 2), .ref (am 3), .ref (am 4), .ref (am 5), .ref (am 6), .ref (am 7), .ref (am 8), .ref (am 9), .ref (am 10), .ref (am 11), .int 0, .int hlp, .ref (am 12), .ref (am 13), .ref (am 14), .int 0, .ref (am 15), .ref (am 16), .int 0, .int 0, .int 0, .ref (am 17), .int 0, .int 0, .ref (am 18), .ref (am 19), .int 0, .int 0, .ref (am 20), .int 0, .int 0, .int 0, .int 0])), (am 2, .inl (cy 0, 575, .inl g_4))] → va_S A s.heap H locs → ∀ ls : Array Slot, lv_has ls 2 [(0, .ref (am 0)), (1, .int (nI i3))] → W p l e ({ frames := 0, cells := 0, slots := 0, locals := 0 }) s m av9 below meth c H locs 0 0 Q9 (F0 m 26 ls []) := by
        intro n3_
        induction n3_ with
        | zero =>
          intro i3 g_4 hs hn3 H locs hP hD hS ls hl
          obtain rfl : i3 = 70 := by omega
          have hl : lv_has ls 2 [(0, .ref (am 0)), (1, .int 70)] := hl
          have hP : va_P (dC, dI) vwCl [(am 0, .inr (12, [.int 0, .ref (am 1), .int 0, .int 0, .int lim, .int 0, .int 0, .int 0, .int 0, .int 0, .int 0, .int 0, .long 0, .int 0, .ref (am 2), .ref (am 3), .ref (am 4), .ref (am 5), .ref (am 6), .ref (am 7), .ref (am 8), .ref (am 9), .ref (am 10), .ref (am 11), .int 0, .int hlp, .ref (am 12), .ref (am 13), .ref (am 14), .int 0, .ref (am 15), .ref (am 16), .int 0, .int 0, .int 0, .ref (am 17), .int 0, .int 0, .ref (am 18), .ref (am 19), .int 0, .int 0, .ref (am 20), .int 0, .int 0, .int 0, .int 0])), (am 2, .inl (cy 0, 575, .inl g_4))] H := hP
          have hD : va_D A [(am 0, .inr (12, [.int 0, .ref (am 1), .int 0, .int 0, .int lim, .int 0, .int 0, .int 0, .int 0, .int 0, .int 0, .int 0, .long 0, .int 0, .ref (am 2), .ref (am 3), .ref (am 4), .ref (am 5), .ref (am 6), .ref (am 7), .ref (am 8), .ref (am 9), .ref (am 10), .ref (am 11), .int 0, .int hlp, .ref (am 12), .ref (am 13), .ref (am 14), .int 0, .ref (am 15), .ref (am 16), .int 0, .int 0, .int 0, .ref (am 17), .int 0, .int 0, .ref (am 18), .ref (am 19), .int 0, .int 0, .ref (am 20), .int 0, .int 0, .int 0, .int 0])), (am 2, .inl (cy 0, 575, .inl g_4))] := hD
          refine lv_iload_n hx hb dX11_startSo_26 rfl (lv_at hl 1 rfl) ?_
          refine lv_bipush (v := 70) hx hb dX11_startSo_27 (by decide) ?_
          refine lv_icmp_ge (tgt := 57) hx hb dX11_startSo_29 (by decide) (fun _ => ?_) (fun c9 => absurd (by decide) c9)
          refine lv_iconst (v := 0) hx hb dX11_startSo_57 (by decide) ?_
          refine lv_istore_n (lv' := [(1, .int 0), (0, .ref (am 0))]) hx hb dX11_startSo_58 rfl hl (by decide) rfl (fun ls hl => ?_)
          have loop5 : ∀ (n5_ i5 : Nat) (g_6 : Nat → Int32) (hs : SOk fn g_6), i5 + n5_ = 49 → ∀ (H : Heap) (locs : List Loc), va_P (dC, dI) vwCl [(am 0, .inr (12, [.int 0, .ref (am 1), .int 0, .int 0, .int lim, .int 0, .int 0, .int 0, .int 0, .int 0, .int 0, .int 0, .long 0, .int 0, .ref (am 2), .ref (am 3), .ref (am 4), .ref (am 5), .ref (am 6), .ref (am 7), .ref (am 8), .ref (am 9), .ref (am 10), .ref (am 11), .int 0, .int hlp, .ref (am 12), .ref (am 13), .ref (am 14), .int 0, .ref (am 15), .ref (am 16), .int 0, .int 0, .int 0, .ref (am 17), .int 0, .int 0, .ref (am 18), .ref (am 19), .int 0, .int 0, .ref (am 20), .int 0, .int 0, .int 0, .int 0])), (am 2, .inl (cy 0, 575, .inl g_6))] H → va_D A [(am 0, .inr (12, [.int 0, .ref (am 1), .int 0, .int 0, .int lim, .int 0, .int 0, .int 0, .int 0, .int 0, .int 0, .int 0, .long 0, .int 0, .ref (am 2), .ref (am 3), .ref (am 4), .ref (am 5), .ref (am 6), .ref (am 7), .ref (am 8), .ref (am 9), .ref (am 10), .ref (am 11), .int 0, .int hlp, .ref (am 12), .ref (am 13), .ref (am 14), .int 0, .ref (am 15), .ref (am 16), .int 0, .int 0, .int 0, .ref (am 17), .int 0, .int 0, .ref (am 18), .ref (am 19), .int 0, .int 0, .ref (am 20), .int 0, .int 0, .int 0, .int 0])), (am 2, .inl (cy 0, 575, .inl g_6))] → va_S A s.heap H locs → ∀ ls : Array Slot, lv_has ls 2 [(0, .ref (am 0)), (1, .int (nI i5))] → W p l e ({ frames := 0, cells := 0, slots := 0, locals := 0 }) s m av9 below meth c H locs 0 0 Q9 (F0 m 59 ls []) := by
            intro n5_
            induction n5_ with
            | zero =>
              intro i5 g_6 hs hn5 H locs hP hD hS ls hl
              obtain rfl : i5 = 49 := by omega
              have hl : lv_has ls 2 [(0, .ref (am 0)), (1, .int 49)] := hl
              have hP : va_P (dC, dI) vwCl [(am 0, .inr (12, [.int 0, .ref (am 1), .int 0, .int 0, .int lim, .int 0, .int 0, .int 0, .int 0, .int 0, .int 0, .int 0, .long 0, .int 0, .ref (am 2), .ref (am 3), .ref (am 4), .ref (am 5), .ref (am 6), .ref (am 7), .ref (am 8), .ref (am 9), .ref (am 10), .ref (am 11), .int 0, .int hlp, .ref (am 12), .ref (am 13), .ref (am 14), .int 0, .ref (am 15), .ref (am 16), .int 0, .int 0, .int 0, .ref (am 17), .int 0, .int 0, .ref (am 18), .ref (am 19), .int 0, .int 0, .ref (am 20), .int 0, .int 0, .int 0, .int 0])), (am 2, .inl (cy 0, 575, .inl g_6))] H := hP
              have hD : va_D A [(am 0, .inr (12, [.int 0, .ref (am 1), .int 0, .int 0, .int lim, .int 0, .int 0, .int 0, .int 0, .int 0, .int 0, .int 0, .long 0, .int 0, .ref (am 2), .ref (am 3), .ref (am 4), .ref (am 5), .ref (am 6), .ref (am 7), .ref (am 8), .ref (am 9), .ref (am 10), .ref (am 11), .int 0, .int hlp, .ref (am 12), .ref (am 13), .ref (am 14), .int 0, .ref (am 15), .ref (am 16), .int 0, .int 0, .int 0, .ref (am 17), .int 0, .int 0, .ref (am 18), .ref (am 19), .int 0, .int 0, .ref (am 20), .int 0, .int 0, .int 0, .int 0])), (am 2, .inl (cy 0, 575, .inl g_6))] := hD
              refine lv_iload_n hx hb dX11_startSo_59 rfl (lv_at hl 1 rfl) ?_
              refine lv_bipush (v := 49) hx hb dX11_startSo_60 (by decide) ?_
              refine lv_icmp_ge (tgt := 90) hx hb dX11_startSo_62 (by decide) (fun _ => ?_) (fun c9 => absurd (by decide) c9)
              refine lv_iconst (v := 0) hx hb dX11_startSo_90 (by decide) ?_
              refine lv_istore_n (lv' := [(1, .int 0), (0, .ref (am 0))]) hx hb dX11_startSo_91 rfl hl (by decide) rfl (fun ls hl => ?_)
              have loop7 : ∀ (n7_ i7 : Nat) (g_8 : Nat → Int32) (hs : SOk fn g_8), i7 + n7_ = 7 → ∀ (H : Heap) (locs : List Loc), va_P (dC, dI) vwCl [(am 0, .inr (12, [.int 0, .ref (am 1), .int 0, .int 0, .int lim, .int 0, .int 0, .int 0, .int 0, .int 0, .int 0, .int 0, .long 0, .int 0, .ref (am 2), .ref (am 3), .ref (am 4), .ref (am 5), .ref (am 6), .ref (am 7), .ref (am 8), .ref (am 9), .ref (am 10), .ref (am 11), .int 0, .int hlp, .ref (am 12), .ref (am 13), .ref (am 14), .int 0, .ref (am 15), .ref (am 16), .int 0, .int 0, .int 0, .ref (am 17), .int 0, .int 0, .ref (am 18), .ref (am 19), .int 0, .int 0, .ref (am 20), .int 0, .int 0, .int 0, .int 0])), (am 2, .inl (cy 0, 575, .inl g_8))] H → va_D A [(am 0, .inr (12, [.int 0, .ref (am 1), .int 0, .int 0, .int lim, .int 0, .int 0, .int 0, .int 0, .int 0, .int 0, .int 0, .long 0, .int 0, .ref (am 2), .ref (am 3), .ref (am 4), .ref (am 5), .ref (am 6), .ref (am 7), .ref (am 8), .ref (am 9), .ref (am 10), .ref (am 11), .int 0, .int hlp, .ref (am 12), .ref (am 13), .ref (am 14), .int 0, .ref (am 15), .ref (am 16), .int 0, .int 0, .int 0, .ref (am 17), .int 0, .int 0, .ref (am 18), .ref (am 19), .int 0, .int 0, .ref (am 20), .int 0, .int 0, .int 0, .int 0])), (am 2, .inl (cy 0, 575, .inl g_8))] → va_S A s.heap H locs → ∀ ls : Array Slot, lv_has ls 2 [(0, .ref (am 0)), (1, .int (nI i7))] → W p l e ({ frames := 0, cells := 0, slots := 0, locals := 0 }) s m av9 below meth c H locs 0 0 Q9 (F0 m 92 ls []) := by
                intro n7_
                induction n7_ with
                | zero =>
                  intro i7 g_8 hs hn7 H locs hP hD hS ls hl
                  obtain rfl : i7 = 7 := by omega
                  have hl : lv_has ls 2 [(0, .ref (am 0)), (1, .int 7)] := hl
                  have hP : va_P (dC, dI) vwCl [(am 0, .inr (12, [.int 0, .ref (am 1), .int 0, .int 0, .int lim, .int 0, .int 0, .int 0, .int 0, .int 0, .int 0, .int 0, .long 0, .int 0, .ref (am 2), .ref (am 3), .ref (am 4), .ref (am 5), .ref (am 6), .ref (am 7), .ref (am 8), .ref (am 9), .ref (am 10), .ref (am 11), .int 0, .int hlp, .ref (am 12), .ref (am 13), .ref (am 14), .int 0, .ref (am 15), .ref (am 16), .int 0, .int 0, .int 0, .ref (am 17), .int 0, .int 0, .ref (am 18), .ref (am 19), .int 0, .int 0, .ref (am 20), .int 0, .int 0, .int 0, .int 0])), (am 2, .inl (cy 0, 575, .inl g_8))] H := hP
                  have hD : va_D A [(am 0, .inr (12, [.int 0, .ref (am 1), .int 0, .int 0, .int lim, .int 0, .int 0, .int 0, .int 0, .int 0, .int 0, .int 0, .long 0, .int 0, .ref (am 2), .ref (am 3), .ref (am 4), .ref (am 5), .ref (am 6), .ref (am 7), .ref (am 8), .ref (am 9), .ref (am 10), .ref (am 11), .int 0, .int hlp, .ref (am 12), .ref (am 13), .ref (am 14), .int 0, .ref (am 15), .ref (am 16), .int 0, .int 0, .int 0, .ref (am 17), .int 0, .int 0, .ref (am 18), .ref (am 19), .int 0, .int 0, .ref (am 20), .int 0, .int 0, .int 0, .int 0])), (am 2, .inl (cy 0, 575, .inl g_8))] := hD
                  refine lv_iload_n hx hb dX11_startSo_92 rfl (lv_at hl 1 rfl) ?_
                  refine lv_bipush (v := 7) hx hb dX11_startSo_93 (by decide) ?_
                  refine lv_icmp_ge (tgt := 144) hx hb dX11_startSo_95 (by decide) (fun _ => ?_) (fun c9 => absurd (by decide) c9)
                  rw [hQ9]
                  exact re_v g_8 hx hb hr hlocks hs (hP.sub [0, 1] rfl) (hD.sub [0, 1] rfl rfl) hS dX11_startSo_144
                | succ n7_ ih7 =>
                  intro i7 g_8 hs hn7 H locs hP hD hS ls hl
                  refine lv_iload_n hx hb dX11_startSo_92 rfl (lv_at hl 1 rfl) ?_
                  refine lv_bipush (v := 7) hx hb dX11_startSo_93 (by decide) ?_
                  refine lv_icmp_ge (tgt := 144) hx hb dX11_startSo_95 (by decide) (fun c9 => absurd c9 (nI_ge (a := i7) (b := 7) (by omega) (by omega))) (fun _ => ?_)
                  refine lv_aload_n hx hb dX11_startSo_98 rfl (lv_at hl 0 rfl) ?_
                  refine gf_X11_98 hx hb hts hown hK hP 0 rfl rfl dX11_startSo_99 ?_
                  refine lv_sipush (v := 158) hx hb dX11_startSo_102 (by decide) ?_
                  refine lv_iload_n hx hb dX11_startSo_105 rfl (lv_at hl 1 rfl) ?_
                  refine lv_iadd hx hb dX11_startSo_106 ?_
                  refine as_i (nI (158 + i7)) (nI_add 158 i7) ?_
                  refine lv_aload_n hx hb dX11_startSo_107 rfl (lv_at hl 0 rfl) ?_
                  refine gf_X11_98 hx hb hts hown hK hP 0 rfl rfl dX11_startSo_108 ?_
                  refine lv_iconst (v := 4) hx hb dX11_startSo_111 (by decide) ?_
                  refine lv_iload_n hx hb dX11_startSo_112 rfl (lv_at hl 1 rfl) ?_
                  refine lv_iadd hx hb dX11_startSo_113 ?_
                  refine as_i (nI (4 + i7)) (nI_add 4 i7) ?_
                  refine va_iald hx hb hK hP 1 0 rfl rfl (vp_in_nI (n := (4 + i7)) (N := 575) (by omega) (by omega)) dX11_startSo_114 ?_
                  refine as_i (g_8 (4 + i7)) (congrArg g_8 (nI_clamp (n := (4 + i7)) (by omega))) ?_
                  refine va_iast hx hb hK hP hD hS 1 0 rfl rfl (vp_in_nI (n := (158 + i7)) (N := 575) (by omega) (by omega)) dX11_startSo_115 (fun H locs hP hD hS => ?_)
                  obtain ⟨f_9, ef_9⟩ : ∃ z : Nat → Int32, z = upd g_8 (Int32.toNatClampNeg (nI (158 + i7))) (g_8 (4 + i7)) := ⟨_, rfl⟩
                  have hP : va_P (dC, dI) vwCl [(am 0, .inr (12, [.int 0, .ref (am 1), .int 0, .int 0, .int lim, .int 0, .int 0, .int 0, .int 0, .int 0, .int 0, .int 0, .long 0, .int 0, .ref (am 2), .ref (am 3), .ref (am 4), .ref (am 5), .ref (am 6), .ref (am 7), .ref (am 8), .ref (am 9), .ref (am 10), .ref (am 11), .int 0, .int hlp, .ref (am 12), .ref (am 13), .ref (am 14), .int 0, .ref (am 15), .ref (am 16), .int 0, .int 0, .int 0, .ref (am 17), .int 0, .int 0, .ref (am 18), .ref (am 19), .int 0, .int 0, .ref (am 20), .int 0, .int 0, .int 0, .int 0])), (am 2, .inl (cy 0, 575, .inl f_9))] H := by rw [ef_9]; exact hP
                  have hD : va_D A [(am 0, .inr (12, [.int 0, .ref (am 1), .int 0, .int 0, .int lim, .int 0, .int 0, .int 0, .int 0, .int 0, .int 0, .int 0, .long 0, .int 0, .ref (am 2), .ref (am 3), .ref (am 4), .ref (am 5), .ref (am 6), .ref (am 7), .ref (am 8), .ref (am 9), .ref (am 10), .ref (am 11), .int 0, .int hlp, .ref (am 12), .ref (am 13), .ref (am 14), .int 0, .ref (am 15), .ref (am 16), .int 0, .int 0, .int 0, .ref (am 17), .int 0, .int 0, .ref (am 18), .ref (am 19), .int 0, .int 0, .ref (am 20), .int 0, .int 0, .int 0, .int 0])), (am 2, .inl (cy 0, 575, .inl f_9))] := by rw [ef_9]; exact hD
                  rw [(nI_clamp (n := (158 + i7)) (by omega))] at ef_9
                  refine lv_aload_n hx hb dX11_startSo_116 rfl (lv_at hl 0 rfl) ?_
                  refine gf_X11_98 hx hb hts hown hK hP 0 rfl rfl dX11_startSo_117 ?_
                  refine lv_sipush (v := 235) hx hb dX11_startSo_120 (by decide) ?_
                  refine lv_iload_n hx hb dX11_startSo_123 rfl (lv_at hl 1 rfl) ?_
                  refine lv_iadd hx hb dX11_startSo_124 ?_
                  refine as_i (nI (235 + i7)) (nI_add 235 i7) ?_
                  refine lv_iconst (v := (-1)) hx hb dX11_startSo_125 (by decide) ?_
                  refine va_iast hx hb hK hP hD hS 1 0 rfl rfl (vp_in_nI (n := (235 + i7)) (N := 575) (by omega) (by omega)) dX11_startSo_126 (fun H locs hP hD hS => ?_)
                  obtain ⟨f_10, ef_10⟩ : ∃ z : Nat → Int32, z = upd f_9 (Int32.toNatClampNeg (nI (235 + i7))) (-1) := ⟨_, rfl⟩
                  have hP : va_P (dC, dI) vwCl [(am 0, .inr (12, [.int 0, .ref (am 1), .int 0, .int 0, .int lim, .int 0, .int 0, .int 0, .int 0, .int 0, .int 0, .int 0, .long 0, .int 0, .ref (am 2), .ref (am 3), .ref (am 4), .ref (am 5), .ref (am 6), .ref (am 7), .ref (am 8), .ref (am 9), .ref (am 10), .ref (am 11), .int 0, .int hlp, .ref (am 12), .ref (am 13), .ref (am 14), .int 0, .ref (am 15), .ref (am 16), .int 0, .int 0, .int 0, .ref (am 17), .int 0, .int 0, .ref (am 18), .ref (am 19), .int 0, .int 0, .ref (am 20), .int 0, .int 0, .int 0, .int 0])), (am 2, .inl (cy 0, 575, .inl f_10))] H := by rw [ef_10]; exact hP
                  have hD : va_D A [(am 0, .inr (12, [.int 0, .ref (am 1), .int 0, .int 0, .int lim, .int 0, .int 0, .int 0, .int 0, .int 0, .int 0, .int 0, .long 0, .int 0, .ref (am 2), .ref (am 3), .ref (am 4), .ref (am 5), .ref (am 6), .ref (am 7), .ref (am 8), .ref (am 9), .ref (am 10), .ref (am 11), .int 0, .int hlp, .ref (am 12), .ref (am 13), .ref (am 14), .int 0, .ref (am 15), .ref (am 16), .int 0, .int 0, .int 0, .ref (am 17), .int 0, .int 0, .ref (am 18), .ref (am 19), .int 0, .int 0, .ref (am 20), .int 0, .int 0, .int 0, .int 0])), (am 2, .inl (cy 0, 575, .inl f_10))] := by rw [ef_10]; exact hD
                  rw [(nI_clamp (n := (235 + i7)) (by omega))] at ef_10
                  refine lv_aload_n hx hb dX11_startSo_127 rfl (lv_at hl 0 rfl) ?_
                  refine gf_X11_98 hx hb hts hown hK hP 0 rfl rfl dX11_startSo_128 ?_
                  refine lv_sipush (v := 242) hx hb dX11_startSo_131 (by decide) ?_
                  refine lv_iload_n hx hb dX11_startSo_134 rfl (lv_at hl 1 rfl) ?_
                  refine lv_iadd hx hb dX11_startSo_135 ?_
                  refine as_i (nI (242 + i7)) (nI_add 242 i7) ?_
                  refine lv_iconst (v := (-1)) hx hb dX11_startSo_136 (by decide) ?_
                  refine va_iast hx hb hK hP hD hS 1 0 rfl rfl (vp_in_nI (n := (242 + i7)) (N := 575) (by omega) (by omega)) dX11_startSo_137 (fun H locs hP hD hS => ?_)
                  obtain ⟨f_11, ef_11⟩ : ∃ z : Nat → Int32, z = upd f_10 (Int32.toNatClampNeg (nI (242 + i7))) (-1) := ⟨_, rfl⟩
                  have hP : va_P (dC, dI) vwCl [(am 0, .inr (12, [.int 0, .ref (am 1), .int 0, .int 0, .int lim, .int 0, .int 0, .int 0, .int 0, .int 0, .int 0, .int 0, .long 0, .int 0, .ref (am 2), .ref (am 3), .ref (am 4), .ref (am 5), .ref (am 6), .ref (am 7), .ref (am 8), .ref (am 9), .ref (am 10), .ref (am 11), .int 0, .int hlp, .ref (am 12), .ref (am 13), .ref (am 14), .int 0, .ref (am 15), .ref (am 16), .int 0, .int 0, .int 0, .ref (am 17), .int 0, .int 0, .ref (am 18), .ref (am 19), .int 0, .int 0, .ref (am 20), .int 0, .int 0, .int 0, .int 0])), (am 2, .inl (cy 0, 575, .inl f_11))] H := by rw [ef_11]; exact hP
                  have hD : va_D A [(am 0, .inr (12, [.int 0, .ref (am 1), .int 0, .int 0, .int lim, .int 0, .int 0, .int 0, .int 0, .int 0, .int 0, .int 0, .long 0, .int 0, .ref (am 2), .ref (am 3), .ref (am 4), .ref (am 5), .ref (am 6), .ref (am 7), .ref (am 8), .ref (am 9), .ref (am 10), .ref (am 11), .int 0, .int hlp, .ref (am 12), .ref (am 13), .ref (am 14), .int 0, .ref (am 15), .ref (am 16), .int 0, .int 0, .int 0, .ref (am 17), .int 0, .int 0, .ref (am 18), .ref (am 19), .int 0, .int 0, .ref (am 20), .int 0, .int 0, .int 0, .int 0])), (am 2, .inl (cy 0, 575, .inl f_11))] := by rw [ef_11]; exact hD
                  rw [(nI_clamp (n := (242 + i7)) (by omega))] at ef_11
                  refine lv_iinc (v := nI (i7 + 1)) (lv' := [(1, .int (nI (i7 + 1))), (0, .ref (am 0))]) hx hb dX11_startSo_138 hl (k := 1) rfl (nI_add i7 1) (by decide) rfl (fun ls hl => ?_)
                  refine lv_goto (tgt := 92) hx hb dX11_startSo_141 (by decide) ?_
                  exact ih7 (i7 + 1) f_11 (SOk_s (SOk_s (SOk_s hs ef_9 (by omega) (by omega)) ef_10 (by omega) (by omega)) ef_11 (by omega) (by omega)) (by omega) _ _ (hP.sub [0, 1] rfl) (hD.sub [0, 1] rfl rfl) hS ls (lv_sub hl [1, 0] rfl)
              exact loop7 7 0 g_6 hs (by omega) _ _ hP hD hS ls (lv_sub hl [1, 0] rfl)
            | succ n5_ ih5 =>
              intro i5 g_6 hs hn5 H locs hP hD hS ls hl
              refine lv_iload_n hx hb dX11_startSo_59 rfl (lv_at hl 1 rfl) ?_
              refine lv_bipush (v := 49) hx hb dX11_startSo_60 (by decide) ?_
              refine lv_icmp_ge (tgt := 90) hx hb dX11_startSo_62 (by decide) (fun c9 => absurd c9 (nI_ge (a := i5) (b := 49) (by omega) (by omega))) (fun _ => ?_)
              refine lv_aload_n hx hb dX11_startSo_65 rfl (lv_at hl 0 rfl) ?_
              refine gf_X11_98 hx hb hts hown hK hP 0 rfl rfl dX11_startSo_66 ?_
              refine lv_sipush (v := 249) hx hb dX11_startSo_69 (by decide) ?_
              refine lv_iload_n hx hb dX11_startSo_72 rfl (lv_at hl 1 rfl) ?_
              refine lv_iadd hx hb dX11_startSo_73 ?_
              refine as_i (nI (249 + i5)) (nI_add 249 i5) ?_
              refine lv_aload_n hx hb dX11_startSo_74 rfl (lv_at hl 0 rfl) ?_
              refine gf_X11_98 hx hb hts hown hK hP 0 rfl rfl dX11_startSo_75 ?_
              refine lv_bipush (v := 108) hx hb dX11_startSo_78 (by decide) ?_
              refine lv_iload_n hx hb dX11_startSo_80 rfl (lv_at hl 1 rfl) ?_
              refine lv_iadd hx hb dX11_startSo_81 ?_
              refine as_i (nI (108 + i5)) (nI_add 108 i5) ?_
              refine va_iald hx hb hK hP 1 0 rfl rfl (vp_in_nI (n := (108 + i5)) (N := 575) (by omega) (by omega)) dX11_startSo_82 ?_
              refine as_i (g_6 (108 + i5)) (congrArg g_6 (nI_clamp (n := (108 + i5)) (by omega))) ?_
              refine va_iast hx hb hK hP hD hS 1 0 rfl rfl (vp_in_nI (n := (249 + i5)) (N := 575) (by omega) (by omega)) dX11_startSo_83 (fun H locs hP hD hS => ?_)
              obtain ⟨f_12, ef_12⟩ : ∃ z : Nat → Int32, z = upd g_6 (Int32.toNatClampNeg (nI (249 + i5))) (g_6 (108 + i5)) := ⟨_, rfl⟩
              have hP : va_P (dC, dI) vwCl [(am 0, .inr (12, [.int 0, .ref (am 1), .int 0, .int 0, .int lim, .int 0, .int 0, .int 0, .int 0, .int 0, .int 0, .int 0, .long 0, .int 0, .ref (am 2), .ref (am 3), .ref (am 4), .ref (am 5), .ref (am 6), .ref (am 7), .ref (am 8), .ref (am 9), .ref (am 10), .ref (am 11), .int 0, .int hlp, .ref (am 12), .ref (am 13), .ref (am 14), .int 0, .ref (am 15), .ref (am 16), .int 0, .int 0, .int 0, .ref (am 17), .int 0, .int 0, .ref (am 18), .ref (am 19), .int 0, .int 0, .ref (am 20), .int 0, .int 0, .int 0, .int 0])), (am 2, .inl (cy 0, 575, .inl f_12))] H := by rw [ef_12]; exact hP
              have hD : va_D A [(am 0, .inr (12, [.int 0, .ref (am 1), .int 0, .int 0, .int lim, .int 0, .int 0, .int 0, .int 0, .int 0, .int 0, .int 0, .long 0, .int 0, .ref (am 2), .ref (am 3), .ref (am 4), .ref (am 5), .ref (am 6), .ref (am 7), .ref (am 8), .ref (am 9), .ref (am 10), .ref (am 11), .int 0, .int hlp, .ref (am 12), .ref (am 13), .ref (am 14), .int 0, .ref (am 15), .ref (am 16), .int 0, .int 0, .int 0, .ref (am 17), .int 0, .int 0, .ref (am 18), .ref (am 19), .int 0, .int 0, .ref (am 20), .int 0, .int 0, .int 0, .int 0])), (am 2, .inl (cy 0, 575, .inl f_12))] := by rw [ef_12]; exact hD
              rw [(nI_clamp (n := (249 + i5)) (by omega))] at ef_12
              refine lv_iinc (v := nI (i5 + 1)) (lv' := [(1, .int (nI (i5 + 1))), (0, .ref (am 0))]) hx hb dX11_startSo_84 hl (k := 1) rfl (nI_add i5 1) (by decide) rfl (fun ls hl => ?_)
              refine lv_goto (tgt := 59) hx hb dX11_startSo_87 (by decide) ?_
              exact ih5 (i5 + 1) f_12 (SOk_s hs ef_12 (by omega) (by omega)) (by omega) _ _ (hP.sub [0, 1] rfl) (hD.sub [0, 1] rfl rfl) hS ls (lv_sub hl [1, 0] rfl)
          exact loop5 49 0 g_4 hs (by omega) _ _ hP hD hS ls (lv_sub hl [1, 0] rfl)
        | succ n3_ ih3 =>
          intro i3 g_4 hs hn3 H locs hP hD hS ls hl
          refine lv_iload_n hx hb dX11_startSo_26 rfl (lv_at hl 1 rfl) ?_
          refine lv_bipush (v := 70) hx hb dX11_startSo_27 (by decide) ?_
          refine lv_icmp_ge (tgt := 57) hx hb dX11_startSo_29 (by decide) (fun c9 => absurd c9 (nI_ge (a := i3) (b := 70) (by omega) (by omega))) (fun _ => ?_)
          refine lv_aload_n hx hb dX11_startSo_32 rfl (lv_at hl 0 rfl) ?_
          refine gf_X11_98 hx hb hts hown hK hP 0 rfl rfl dX11_startSo_33 ?_
          refine lv_sipush (v := 165) hx hb dX11_startSo_36 (by decide) ?_
          refine lv_iload_n hx hb dX11_startSo_39 rfl (lv_at hl 1 rfl) ?_
          refine lv_iadd hx hb dX11_startSo_40 ?_
          refine as_i (nI (165 + i3)) (nI_add 165 i3) ?_
          refine lv_aload_n hx hb dX11_startSo_41 rfl (lv_at hl 0 rfl) ?_
          refine gf_X11_98 hx hb hts hown hK hP 0 rfl rfl dX11_startSo_42 ?_
          refine lv_bipush (v := 31) hx hb dX11_startSo_45 (by decide) ?_
          refine lv_iload_n hx hb dX11_startSo_47 rfl (lv_at hl 1 rfl) ?_
          refine lv_iadd hx hb dX11_startSo_48 ?_
          refine as_i (nI (31 + i3)) (nI_add 31 i3) ?_
          refine va_iald hx hb hK hP 1 0 rfl rfl (vp_in_nI (n := (31 + i3)) (N := 575) (by omega) (by omega)) dX11_startSo_49 ?_
          refine as_i (g_4 (31 + i3)) (congrArg g_4 (nI_clamp (n := (31 + i3)) (by omega))) ?_
          refine va_iast hx hb hK hP hD hS 1 0 rfl rfl (vp_in_nI (n := (165 + i3)) (N := 575) (by omega) (by omega)) dX11_startSo_50 (fun H locs hP hD hS => ?_)
          obtain ⟨f_13, ef_13⟩ : ∃ z : Nat → Int32, z = upd g_4 (Int32.toNatClampNeg (nI (165 + i3))) (g_4 (31 + i3)) := ⟨_, rfl⟩
          have hP : va_P (dC, dI) vwCl [(am 0, .inr (12, [.int 0, .ref (am 1), .int 0, .int 0, .int lim, .int 0, .int 0, .int 0, .int 0, .int 0, .int 0, .int 0, .long 0, .int 0, .ref (am 2), .ref (am 3), .ref (am 4), .ref (am 5), .ref (am 6), .ref (am 7), .ref (am 8), .ref (am 9), .ref (am 10), .ref (am 11), .int 0, .int hlp, .ref (am 12), .ref (am 13), .ref (am 14), .int 0, .ref (am 15), .ref (am 16), .int 0, .int 0, .int 0, .ref (am 17), .int 0, .int 0, .ref (am 18), .ref (am 19), .int 0, .int 0, .ref (am 20), .int 0, .int 0, .int 0, .int 0])), (am 2, .inl (cy 0, 575, .inl f_13))] H := by rw [ef_13]; exact hP
          have hD : va_D A [(am 0, .inr (12, [.int 0, .ref (am 1), .int 0, .int 0, .int lim, .int 0, .int 0, .int 0, .int 0, .int 0, .int 0, .int 0, .long 0, .int 0, .ref (am 2), .ref (am 3), .ref (am 4), .ref (am 5), .ref (am 6), .ref (am 7), .ref (am 8), .ref (am 9), .ref (am 10), .ref (am 11), .int 0, .int hlp, .ref (am 12), .ref (am 13), .ref (am 14), .int 0, .ref (am 15), .ref (am 16), .int 0, .int 0, .int 0, .ref (am 17), .int 0, .int 0, .ref (am 18), .ref (am 19), .int 0, .int 0, .ref (am 20), .int 0, .int 0, .int 0, .int 0])), (am 2, .inl (cy 0, 575, .inl f_13))] := by rw [ef_13]; exact hD
          rw [(nI_clamp (n := (165 + i3)) (by omega))] at ef_13
          refine lv_iinc (v := nI (i3 + 1)) (lv' := [(1, .int (nI (i3 + 1))), (0, .ref (am 0))]) hx hb dX11_startSo_51 hl (k := 1) rfl (nI_add i3 1) (by decide) rfl (fun ls hl => ?_)
          refine lv_goto (tgt := 26) hx hb dX11_startSo_54 (by decide) ?_
          exact ih3 (i3 + 1) f_13 (SOk_s hs ef_13 (by omega) (by omega)) (by omega) _ _ (hP.sub [0, 1] rfl) (hD.sub [0, 1] rfl rfl) hS ls (lv_sub hl [1, 0] rfl)
      exact loop3 70 0 g_2 (SOk_0 hs) (by omega) _ _ hP hD hS ls (lv_sub hl [1, 0] rfl)
    | succ n1_ ih1 =>
      intro i1 g_2 hs hi hn1 H locs hP hD hS ls hl
      refine lv_iload_n hx hb dX11_startSo_4 rfl (lv_at hl 1 rfl) ?_
      refine lv_sipush (v := 575) hx hb dX11_startSo_5 (by decide) ?_
      refine lv_icmp_ge (tgt := 24) hx hb dX11_startSo_8 (by decide) (fun c9 => absurd c9 (nI_ge (a := i1) (b := 575) (by omega) (by omega))) (fun _ => ?_)
      refine lv_aload_n hx hb dX11_startSo_11 rfl (lv_at hl 0 rfl) ?_
      refine gf_X11_98 hx hb hts hown hK hP 0 rfl rfl dX11_startSo_12 ?_
      refine lv_iload_n hx hb dX11_startSo_15 rfl (lv_at hl 1 rfl) ?_
      refine lv_iconst (v := 0) hx hb dX11_startSo_16 (by decide) ?_
      refine va_iast hx hb hK hP hD hS 1 0 rfl rfl (vp_in_nI (n := i1) (N := 575) (by omega) (by omega)) dX11_startSo_17 (fun H locs hP hD hS => ?_)
      obtain ⟨f_14, ef_14⟩ : ∃ z : Nat → Int32, z = upd g_2 (Int32.toNatClampNeg (nI i1)) 0 := ⟨_, rfl⟩
      have hP : va_P (dC, dI) vwCl [(am 0, .inr (12, [.int 0, .ref (am 1), .int 0, .int 0, .int lim, .int 0, .int 0, .int 0, .int 0, .int 0, .int 0, .int 0, .long 0, .int 0, .ref (am 2), .ref (am 3), .ref (am 4), .ref (am 5), .ref (am 6), .ref (am 7), .ref (am 8), .ref (am 9), .ref (am 10), .ref (am 11), .int 0, .int hlp, .ref (am 12), .ref (am 13), .ref (am 14), .int 0, .ref (am 15), .ref (am 16), .int 0, .int 0, .int 0, .ref (am 17), .int 0, .int 0, .ref (am 18), .ref (am 19), .int 0, .int 0, .ref (am 20), .int 0, .int 0, .int 0, .int 0])), (am 2, .inl (cy 0, 575, .inl f_14))] H := by rw [ef_14]; exact hP
      have hD : va_D A [(am 0, .inr (12, [.int 0, .ref (am 1), .int 0, .int 0, .int lim, .int 0, .int 0, .int 0, .int 0, .int 0, .int 0, .int 0, .long 0, .int 0, .ref (am 2), .ref (am 3), .ref (am 4), .ref (am 5), .ref (am 6), .ref (am 7), .ref (am 8), .ref (am 9), .ref (am 10), .ref (am 11), .int 0, .int hlp, .ref (am 12), .ref (am 13), .ref (am 14), .int 0, .ref (am 15), .ref (am 16), .int 0, .int 0, .int 0, .ref (am 17), .int 0, .int 0, .ref (am 18), .ref (am 19), .int 0, .int 0, .ref (am 20), .int 0, .int 0, .int 0, .int 0])), (am 2, .inl (cy 0, 575, .inl f_14))] := by rw [ef_14]; exact hD
      rw [(nI_clamp (n := i1) (by omega))] at ef_14
      refine lv_iinc (v := nI (i1 + 1)) (lv' := [(1, .int (nI (i1 + 1))), (0, .ref (am 0))]) hx hb dX11_startSo_18 hl (k := 1) rfl (nI_add i1 1) (by decide) rfl (fun ls hl => ?_)
      refine lv_goto (tgt := 4) hx hb dX11_startSo_21 (by decide) ?_
      exact ih1 (i1 + 1) f_14 (LOk_s hs hi ef_14) (by omega) (by omega) _ _ (hP.sub [0, 1] rfl) (hD.sub [0, 1] rfl rfl) hS ls (lv_sub hl [1, 0] rfl)
  exact loop1 418 157 fn (LOk_0 fn) (Nat.le_refl 157) (by omega) _ _ hP hD hS ls (lv_sub hl [1, 0] rfl)
abbrev cX11_colony : ByteArray := prog_13_method_41_code
def yX11_colony : MethodName := ⟨RX11, "colony", "()I"⟩
theorem t1591 : Cond.code yX11_colony cX11_colony 3 (some .int) ∈ GW := gw_mem 1705 (by decide +kernel) (by decide +kernel)
theorem dX11_colony_0 : decode cX11_colony 0 = .ok (.aload_n 0, 1) := by decide +kernel
theorem dX11_colony_1 : decode cX11_colony 1 = .ok (.sipush 900, 3) := by decide +kernel
theorem dX11_colony_4 : decode cX11_colony 4 = .ok (.invokevirtual 216, 3) := by decide +kernel
theorem t1592 : Cond.methodLink RX11 216 yX11_begin ∈ GW := gw_mem 1706 (by decide +kernel) (by decide +kernel)
theorem t1594 : Cond.instanceMethod yX11_begin ∈ GW := gw_mem 1708 (by decide +kernel) (by decide +kernel)
theorem s40 : Cond.selects RX11 yX11_begin yX11_begin ∈ GW := gw_mem 40 (by decide +kernel) (by decide +kernel)
theorem cw_X11_216 {R : Room} {s : State} {args : Array Value} {rm : Room} {mc ms : Nat} (hts : ∀ w ∈ GW, w.before args s = true) (hrc : rm.cells = mc) (hrs : rm.slots = ms) (hR : rm.frames + 1 ≤ R.frames ∧ 8 + (2 + 11) + rm.locals ≤ R.locals) : CallW R s args RX11 RX11 216 yX11_begin cX11_begin 2 none (wl yX11_begin cX11_begin 2 none) rm mc ms 1 := cwV 1 hts (gi_V t1592 t1594 s40 t18 t1595) rfl hrc hrs (by decide +kernel) hR
theorem dX11_colony_7 : decode cX11_colony 7 = .ok (.iconst 0, 1) := by decide +kernel
theorem dX11_colony_8 : decode cX11_colony 8 = .ok (.istore_n 1, 1) := by decide +kernel
theorem dX11_colony_9 : decode cX11_colony 9 = .ok (.iload_n 1, 1) := by decide +kernel
theorem dX11_colony_10 : decode cX11_colony 10 = .ok (.sipush 157, 3) := by decide +kernel
theorem dX11_colony_13 : decode cX11_colony 13 = .ok (.if_icmp .ge 16, 3) := by decide +kernel
theorem dX11_colony_29 : decode cX11_colony 29 = .ok (.aload_n 0, 1) := by decide +kernel
theorem dX11_colony_30 : decode cX11_colony 30 = .ok (.getfield 127, 3) := by decide +kernel
theorem t1469 : Cond.fieldLink RX11 127 "LikenessPoundModel" "onces" "[Z" ∈ GW := gw_mem 1583 (by decide +kernel) (by decide +kernel)
theorem gf_X11_127 {p : Program} {l : Launch} {e : Env} {R : Room} {s : State} {m : MethodId} {args : Array Value} {below : List Frame} {meth : Method} {c : Code} {H : Heap} {locs : List Loc} {cells slots : Nat} {Q : State → Prop} {cc : ByteArray} {pc : Nat} {ls : Array Slot} {rest : List Value} {D : va_G} {a : Nat} {tys : List (ClassId × FieldType)} {ws : va_W} (hx : p.tables.exec = Jvm.exec) (hb : c.code = cc) (hts : ∀ w ∈ GW, w.before args s = true) (hown : s.vm.findClass RX11 = some m.cls) (hK : va_K D vwCl tys s) (hP : va_P D vwCl ws H) (q0 : Nat) {fs : List Value} (he : ws[q0]? = some (a, .inr (12, fs))) {v : Value} (hv : fs[23]? = some v) (hdg : decode cc pc = .ok (.getfield 127, 3)) (kk : W p l e R s m args below meth c H locs cells slots Q (F0 m (pc + 3) ls (v :: rest))) : W p l e R s m args below meth c H locs cells slots Q (F0 m pc ls (.ref a :: rest)) := va_get (C := RX11) (T := TX11) (N := 47) (ci := 12) hx hb hts inX11 hown hK hP q0 he rfl 23 (by decide) (hts _ t1469) (fun _ h => h) hv hdg kk
theorem dX11_colony_33 : decode cX11_colony 33 = .ok (.iconst 0, 1) := by decide +kernel
theorem dX11_colony_34 : decode cX11_colony 34 = .ok (.iconst 0, 1) := by decide +kernel
theorem dX11_colony_35 : decode cX11_colony 35 = .ok (.bastore, 1) := by decide +kernel
theorem dX11_colony_36 : decode cX11_colony 36 = .ok (.aload_n 0, 1) := by decide +kernel
theorem dX11_colony_37 : decode cX11_colony 37 = .ok (.getfield 127, 3) := by decide +kernel
theorem dX11_colony_40 : decode cX11_colony 40 = .ok (.iconst 1, 1) := by decide +kernel
theorem dX11_colony_41 : decode cX11_colony 41 = .ok (.iconst 0, 1) := by decide +kernel
theorem dX11_colony_42 : decode cX11_colony 42 = .ok (.bastore, 1) := by decide +kernel
theorem dX11_colony_43 : decode cX11_colony 43 = .ok (.aload_n 0, 1) := by decide +kernel
theorem dX11_colony_44 : decode cX11_colony 44 = .ok (.getfield 101, 3) := by decide +kernel
theorem t1461 : Cond.fieldLink RX11 101 "LikenessPoundModel" "read" "[I" ∈ GW := gw_mem 1575 (by decide +kernel) (by decide +kernel)
theorem gf_X11_101 {p : Program} {l : Launch} {e : Env} {R : Room} {s : State} {m : MethodId} {args : Array Value} {below : List Frame} {meth : Method} {c : Code} {H : Heap} {locs : List Loc} {cells slots : Nat} {Q : State → Prop} {cc : ByteArray} {pc : Nat} {ls : Array Slot} {rest : List Value} {D : va_G} {a : Nat} {tys : List (ClassId × FieldType)} {ws : va_W} (hx : p.tables.exec = Jvm.exec) (hb : c.code = cc) (hts : ∀ w ∈ GW, w.before args s = true) (hown : s.vm.findClass RX11 = some m.cls) (hK : va_K D vwCl tys s) (hP : va_P D vwCl ws H) (q0 : Nat) {fs : List Value} (he : ws[q0]? = some (a, .inr (12, fs))) {v : Value} (hv : fs[15]? = some v) (hdg : decode cc pc = .ok (.getfield 101, 3)) (kk : W p l e R s m args below meth c H locs cells slots Q (F0 m (pc + 3) ls (v :: rest))) : W p l e R s m args below meth c H locs cells slots Q (F0 m pc ls (.ref a :: rest)) := va_get (C := RX11) (T := TX11) (N := 47) (ci := 12) hx hb hts inX11 hown hK hP q0 he rfl 15 (by decide) (hts _ t1461) (fun _ h => h) hv hdg kk
theorem dX11_colony_47 : decode cX11_colony 47 = .ok (.iconst 2, 1) := by decide +kernel
theorem dX11_colony_48 : decode cX11_colony 48 = .ok (.bipush 60, 2) := by decide +kernel
theorem dX11_colony_50 : decode cX11_colony 50 = .ok (.iastore, 1) := by decide +kernel
theorem dX11_colony_51 : decode cX11_colony 51 = .ok (.aload_n 0, 1) := by decide +kernel
theorem dX11_colony_52 : decode cX11_colony 52 = .ok (.getfield 101, 3) := by decide +kernel
theorem dX11_colony_55 : decode cX11_colony 55 = .ok (.iconst 3, 1) := by decide +kernel
theorem dX11_colony_56 : decode cX11_colony 56 = .ok (.bipush 10, 2) := by decide +kernel
theorem dX11_colony_58 : decode cX11_colony 58 = .ok (.iastore, 1) := by decide +kernel
theorem dX11_colony_59 : decode cX11_colony 59 = .ok (.iconst 0, 1) := by decide +kernel
theorem dX11_colony_60 : decode cX11_colony 60 = .ok (.istore_n 1, 1) := by decide +kernel
theorem dX11_colony_61 : decode cX11_colony 61 = .ok (.aload_n 0, 1) := by decide +kernel
theorem dX11_colony_62 : decode cX11_colony 62 = .ok (.getfield 30, 3) := by decide +kernel
theorem gf_X11_30 {p : Program} {l : Launch} {e : Env} {R : Room} {s : State} {m : MethodId} {args : Array Value} {below : List Frame} {meth : Method} {c : Code} {H : Heap} {locs : List Loc} {cells slots : Nat} {Q : State → Prop} {cc : ByteArray} {pc : Nat} {ls : Array Slot} {rest : List Value} {D : va_G} {a : Nat} {tys : List (ClassId × FieldType)} {ws : va_W} (hx : p.tables.exec = Jvm.exec) (hb : c.code = cc) (hts : ∀ w ∈ GW, w.before args s = true) (hown : s.vm.findClass RX11 = some m.cls) (hK : va_K D vwCl tys s) (hP : va_P D vwCl ws H) (q0 : Nat) {fs : List Value} (he : ws[q0]? = some (a, .inr (12, fs))) {v : Value} (hv : fs[7]? = some v) (hdg : decode cc pc = .ok (.getfield 30, 3)) (kk : W p l e R s m args below meth c H locs cells slots Q (F0 m (pc + 3) ls (v :: rest))) : W p l e R s m args below meth c H locs cells slots Q (F0 m pc ls (.ref a :: rest)) := va_get (C := RX11) (T := TX11) (N := 47) (ci := 12) hx hb hts inX11 hown hK hP q0 he rfl 7 (by decide) (hts _ t1453) (fun _ h => h) hv hdg kk
theorem dX11_colony_65 : decode cX11_colony 65 = .ok (.ifCond .eq 30, 3) := by decide +kernel
theorem dX11_colony_95 : decode cX11_colony 95 = .ok (.iconst 0, 1) := by decide +kernel
theorem dX11_colony_96 : decode cX11_colony 96 = .ok (.istore_n 2, 1) := by decide +kernel
theorem dX11_colony_97 : decode cX11_colony 97 = .ok (.iload_n 2, 1) := by decide +kernel
theorem dX11_colony_98 : decode cX11_colony 98 = .ok (.sipush 157, 3) := by decide +kernel
theorem dX11_colony_101 : decode cX11_colony 101 = .ok (.if_icmp .ge 21, 3) := by decide +kernel
theorem dX11_colony_122 : decode cX11_colony 122 = .ok (.iconst 0, 1) := by decide +kernel
theorem dX11_colony_123 : decode cX11_colony 123 = .ok (.istore_n 2, 1) := by decide +kernel
theorem dX11_colony_124 : decode cX11_colony 124 = .ok (.iload_n 2, 1) := by decide +kernel
theorem dX11_colony_125 : decode cX11_colony 125 = .ok (.bipush 17, 2) := by decide +kernel
theorem dX11_colony_127 : decode cX11_colony 127 = .ok (.if_icmp .ge 21, 3) := by decide +kernel
theorem dX11_colony_148 : decode cX11_colony 148 = .ok (.aload_n 0, 1) := by decide +kernel
theorem dX11_colony_149 : decode cX11_colony 149 = .ok (.invokevirtual 160, 3) := by decide +kernel
theorem t1442 : Cond.methodLink RX11 160 yX11_startSo ∈ GW := gw_mem 1556 (by decide +kernel) (by decide +kernel)
theorem t1444 : Cond.instanceMethod yX11_startSo ∈ GW := gw_mem 1558 (by decide +kernel) (by decide +kernel)
theorem s39 : Cond.selects RX11 yX11_startSo yX11_startSo ∈ GW := gw_mem 39 (by decide +kernel) (by decide +kernel)
theorem cw_X11_160 {R : Room} {s : State} {args : Array Value} {rm : Room} {mc ms : Nat} (hts : ∀ w ∈ GW, w.before args s = true) (hrc : rm.cells = mc) (hrs : rm.slots = ms) (hR : rm.frames + 1 ≤ R.frames ∧ 8 + (2 + 11) + rm.locals ≤ R.locals) : CallW R s args RX11 RX11 160 yX11_startSo cX11_startSo 2 none (wl yX11_startSo cX11_startSo 2 none) rm mc ms 0 := cwV 0 hts (gi_V t1442 t1444 s39 t18 t1445) rfl hrc hrs (by decide +kernel) hR
theorem dX11_colony_152 : decode cX11_colony 152 = .ok (.aload_n 0, 1) := by decide +kernel
theorem dX11_colony_153 : decode cX11_colony 153 = .ok (.iconst 0, 1) := by decide +kernel
theorem dX11_colony_154 : decode cX11_colony 154 = .ok (.putfield 225, 3) := by decide +kernel
theorem pf_X11_225 {p : Program} {l : Launch} {e : Env} {R : Room} {s : State} {m : MethodId} {args : Array Value} {below : List Frame} {meth : Method} {c : Code} {H : Heap} {locs : List Loc} {cells slots : Nat} {Q : State → Prop} {cc : ByteArray} {pc : Nat} {ls : Array Slot} {rest : List Value} {D : va_G} {A : Nat → Prop} {a : Nat} {tys : List (ClassId × FieldType)} {ws : va_W} {H0 : Heap} (hx : p.tables.exec = Jvm.exec) (hb : c.code = cc) (hts : ∀ w ∈ GW, w.before args s = true) (hown : s.vm.findClass RX11 = some m.cls) (hK : va_K D vwCl tys s) (hP : va_P D vwCl ws H) (hD : va_D A ws) (hS0 : va_S A H0 H locs) (q0 : Nat) {fs : List Value} (he : ws[q0]? = some (a, .inr (12, fs))) {v : Value} (hn : narrow (tyX11 24) v = v) (hfit : fits (tyX11 24) v = true) (hl : 24 < fs.length) (hdg : decode cc pc = .ok (.putfield 225, 3)) (kk : ∀ (H1 : Heap) (locs1 : List Loc), va_P D vwCl (ws.set q0 (a, .inr (12, fs.set 24 v))) H1 → va_D A (ws.set q0 (a, .inr (12, fs.set 24 v))) → va_S A H0 H1 locs1 → W p l e R s m args below meth c H1 locs1 cells slots Q (F0 m (pc + 3) ls rest)) : W p l e R s m args below meth c H locs cells slots Q (F0 m pc ls (v :: .ref a :: rest)) := va_put (C := RX11) (T := TX11) (N := 47) (ci := 12) hx hb hts inX11 tyX11 tkX11 nmX11 hown hK hP hD hS0 q0 he rfl 24 (by decide) (hts _ t1470) (fun _ h => h) rfl (tkX11 24 (by decide)) hn hfit hl hdg kk
theorem dX11_colony_157 : decode cX11_colony 157 = .ok (.iload_n 1, 1) := by decide +kernel
theorem dX11_colony_158 : decode cX11_colony 158 = .ok (.ireturn, 1) := by decide +kernel
theorem dX11_colony_130 : decode cX11_colony 130 = .ok (.aload_n 0, 1) := by decide +kernel
theorem dX11_colony_131 : decode cX11_colony 131 = .ok (.getfield 113, 3) := by decide +kernel
theorem t1465 : Cond.fieldLink RX11 113 "LikenessPoundModel" "name" "[J" ∈ GW := gw_mem 1579 (by decide +kernel) (by decide +kernel)
theorem gf_X11_113 {p : Program} {l : Launch} {e : Env} {R : Room} {s : State} {m : MethodId} {args : Array Value} {below : List Frame} {meth : Method} {c : Code} {H : Heap} {locs : List Loc} {cells slots : Nat} {Q : State → Prop} {cc : ByteArray} {pc : Nat} {ls : Array Slot} {rest : List Value} {D : va_G} {a : Nat} {tys : List (ClassId × FieldType)} {ws : va_W} (hx : p.tables.exec = Jvm.exec) (hb : c.code = cc) (hts : ∀ w ∈ GW, w.before args s = true) (hown : s.vm.findClass RX11 = some m.cls) (hK : va_K D vwCl tys s) (hP : va_P D vwCl ws H) (q0 : Nat) {fs : List Value} (he : ws[q0]? = some (a, .inr (12, fs))) {v : Value} (hv : fs[19]? = some v) (hdg : decode cc pc = .ok (.getfield 113, 3)) (kk : W p l e R s m args below meth c H locs cells slots Q (F0 m (pc + 3) ls (v :: rest))) : W p l e R s m args below meth c H locs cells slots Q (F0 m pc ls (.ref a :: rest)) := va_get (C := RX11) (T := TX11) (N := 47) (ci := 12) hx hb hts inX11 hown hK hP q0 he rfl 19 (by decide) (hts _ t1465) (fun _ h => h) hv hdg kk
theorem dX11_colony_134 : decode cX11_colony 134 = .ok (.iload_n 2, 1) := by decide +kernel
theorem dX11_colony_135 : decode cX11_colony 135 = .ok (.aload_n 0, 1) := by decide +kernel
theorem dX11_colony_136 : decode cX11_colony 136 = .ok (.getfield 117, 3) := by decide +kernel
theorem t1466 : Cond.fieldLink RX11 117 "LikenessPoundModel" "readName" "[J" ∈ GW := gw_mem 1580 (by decide +kernel) (by decide +kernel)
theorem gf_X11_117 {p : Program} {l : Launch} {e : Env} {R : Room} {s : State} {m : MethodId} {args : Array Value} {below : List Frame} {meth : Method} {c : Code} {H : Heap} {locs : List Loc} {cells slots : Nat} {Q : State → Prop} {cc : ByteArray} {pc : Nat} {ls : Array Slot} {rest : List Value} {D : va_G} {a : Nat} {tys : List (ClassId × FieldType)} {ws : va_W} (hx : p.tables.exec = Jvm.exec) (hb : c.code = cc) (hts : ∀ w ∈ GW, w.before args s = true) (hown : s.vm.findClass RX11 = some m.cls) (hK : va_K D vwCl tys s) (hP : va_P D vwCl ws H) (q0 : Nat) {fs : List Value} (he : ws[q0]? = some (a, .inr (12, fs))) {v : Value} (hv : fs[20]? = some v) (hdg : decode cc pc = .ok (.getfield 117, 3)) (kk : W p l e R s m args below meth c H locs cells slots Q (F0 m (pc + 3) ls (v :: rest))) : W p l e R s m args below meth c H locs cells slots Q (F0 m pc ls (.ref a :: rest)) := va_get (C := RX11) (T := TX11) (N := 47) (ci := 12) hx hb hts inX11 hown hK hP q0 he rfl 20 (by decide) (hts _ t1466) (fun _ h => h) hv hdg kk
theorem dX11_colony_139 : decode cX11_colony 139 = .ok (.iload_n 2, 1) := by decide +kernel
theorem dX11_colony_140 : decode cX11_colony 140 = .ok (.laload, 1) := by decide +kernel
theorem dX11_colony_141 : decode cX11_colony 141 = .ok (.lastore, 1) := by decide +kernel
theorem dX11_colony_142 : decode cX11_colony 142 = .ok (.iinc 2 1, 3) := by decide +kernel
theorem dX11_colony_145 : decode cX11_colony 145 = .ok (.goto (-21), 3) := by decide +kernel
theorem dX11_colony_104 : decode cX11_colony 104 = .ok (.aload_n 0, 1) := by decide +kernel
theorem dX11_colony_105 : decode cX11_colony 105 = .ok (.getfield 98, 3) := by decide +kernel
theorem dX11_colony_108 : decode cX11_colony 108 = .ok (.iload_n 2, 1) := by decide +kernel
theorem dX11_colony_109 : decode cX11_colony 109 = .ok (.aload_n 0, 1) := by decide +kernel
theorem dX11_colony_110 : decode cX11_colony 110 = .ok (.getfield 101, 3) := by decide +kernel
theorem dX11_colony_113 : decode cX11_colony 113 = .ok (.iload_n 2, 1) := by decide +kernel
theorem dX11_colony_114 : decode cX11_colony 114 = .ok (.iaload, 1) := by decide +kernel
theorem dX11_colony_115 : decode cX11_colony 115 = .ok (.iastore, 1) := by decide +kernel
theorem dX11_colony_116 : decode cX11_colony 116 = .ok (.iinc 2 1, 3) := by decide +kernel
theorem dX11_colony_119 : decode cX11_colony 119 = .ok (.goto (-22), 3) := by decide +kernel
theorem dX11_colony_16 : decode cX11_colony 16 = .ok (.aload_n 0, 1) := by decide +kernel
theorem dX11_colony_17 : decode cX11_colony 17 = .ok (.getfield 101, 3) := by decide +kernel
theorem dX11_colony_20 : decode cX11_colony 20 = .ok (.iload_n 1, 1) := by decide +kernel
theorem dX11_colony_21 : decode cX11_colony 21 = .ok (.iconst 0, 1) := by decide +kernel
theorem dX11_colony_22 : decode cX11_colony 22 = .ok (.iastore, 1) := by decide +kernel
theorem dX11_colony_23 : decode cX11_colony 23 = .ok (.iinc 1 1, 3) := by decide +kernel
theorem dX11_colony_26 : decode cX11_colony 26 = .ok (.goto (-17), 3) := by decide +kernel
set_option maxHeartbeats 4000000 in
set_option maxRecDepth 100000 in
theorem m_colony (l : Launch) (dC : Nat → ClassId) (dI : Nat → Nat → Nat) (cy : Nat → ClassId) (sz : Nat) (am : Nat → Nat) (mi : Nat → Nat → Int32) (ml : Nat → Nat → Int64)  : Met l yX11_colony (wl yX11_colony cX11_colony 3 (some .int)) ({ frames := 2, cells := 0, slots := 0, locals := 128 }) (Pw (dC, dI) vwCl cy [(am 0, .inr (12, [.int 0, .ref (am 1), .int 0, .int 0, .int 0, .int 0, .int 0, .int 0, .int 0, .int 0, .int 0, .int 0, .long 0, .int 0, .ref (am 2), .ref (am 3), .ref (am 4), .ref (am 5), .ref (am 6), .ref (am 7), .ref (am 8), .ref (am 9), .ref (am 10), .ref (am 11), .int 0, .int (-1), .ref (am 12), .ref (am 13), .ref (am 14), .int 0, .ref (am 15), .ref (am 16), .int 0, .int 0, .int 0, .ref (am 17), .int 0, .int 0, .ref (am 18), .ref (am 19), .int 0, .int 0, .ref (am 20), .int 0, .int 0, .int 0, .int 0])), (am 2, .inl (cy 0, 575, .inl (mi 2))), (am 3, .inl (cy 0, 157, .inl (mi 3))), (am 7, .inl (cy 1, 17, .inr (.inl (ml 7)))), (am 8, .inl (cy 1, 17, .inr (.inl (ml 8)))), (am 11, .inl (cy 2, 2, .inl (mi 11)))] sz [.ref (am 0)] nE) (Qi (dC, dI) vwCl (fun (r : Int32) (u : Unit) => r = 0) (fun (u : Unit) => []) (va_A [(am 0, .inr (12, [.int 0, .ref (am 1), .int 0, .int 0, .int 0, .int 0, .int 0, .int 0, .int 0, .int 0, .int 0, .int 0, .long 0, .int 0, .ref (am 2), .ref (am 3), .ref (am 4), .ref (am 5), .ref (am 6), .ref (am 7), .ref (am 8), .ref (am 9), .ref (am 10), .ref (am 11), .int 0, .int (-1), .ref (am 12), .ref (am 13), .ref (am 14), .int 0, .ref (am 15), .ref (am 16), .int 0, .int 0, .int 0, .ref (am 17), .int 0, .int 0, .ref (am 18), .ref (am 19), .int 0, .int 0, .ref (am 20), .int 0, .int 0, .int 0, .int 0])), (am 2, .inl (cy 0, 575, .inl (mi 2))), (am 3, .inl (cy 0, 157, .inl (mi 3))), (am 7, .inl (cy 1, 17, .inr (.inl (ml 7)))), (am 8, .inl (cy 1, 17, .inr (.inl (ml 8)))), (am 11, .inl (cy 2, 2, .inl (mi 11)))] sz)) 0 0 (va_A [(am 0, .inr (12, [.int 0, .ref (am 1), .int 0, .int 0, .int 0, .int 0, .int 0, .int 0, .int 0, .int 0, .int 0, .int 0, .long 0, .int 0, .ref (am 2), .ref (am 3), .ref (am 4), .ref (am 5), .ref (am 6), .ref (am 7), .ref (am 8), .ref (am 9), .ref (am 10), .ref (am 11), .int 0, .int (-1), .ref (am 12), .ref (am 13), .ref (am 14), .int 0, .ref (am 15), .ref (am 16), .int 0, .int 0, .int 0, .ref (am 17), .int 0, .int 0, .ref (am 18), .ref (am 19), .int 0, .int 0, .ref (am 20), .int 0, .int 0, .int 0, .int 0])), (am 2, .inl (cy 0, 575, .inl (mi 2))), (am 3, .inl (cy 0, 157, .inl (mi 3))), (am 7, .inl (cy 1, 17, .inr (.inl (ml 7)))), (am 8, .inl (cy 1, 17, .inr (.inl (ml 8)))), (am 11, .inl (cy 2, 2, .inl (mi 11)))] sz) := by
  refine mw (Qc := Qi (dC, dI) vwCl (fun (r : Int32) (u : Unit) => r = 0) (fun (u : Unit) => [])) RX11 rfl (by decide +kernel) (Nat.le_of_ble_eq_true rfl) ?_
  intro p e s m below meth c A hx hb hr hlocks av9 hav hts hown hnm hml hK hP hD hA hS hE hAe Q9 hQ9 ls hl
  have hl : lv_has ls 3 [(0, .ref (am 0))] := hl
  refine lv_aload_n hx hb dX11_colony_0 rfl (lv_at hl 0 rfl) ?_
  refine lv_sipush (v := 900) hx hb dX11_colony_1 (by decide) ?_
  refine jn_v (wr := [(am 2, .inl (cy 0, 575, .inl (mi 2))), (am 3, .inl (cy 0, 157, .inl (mi 3))), (am 7, .inl (cy 1, 17, .inr (.inl (ml 7)))), (am 8, .inl (cy 1, 17, .inr (.inl (ml 8)))), (am 11, .inl (cy 2, 2, .inl (mi 11)))]) (rV (As := [.int 900]) (rest := []) (ci := 12) ⟨hx, hb, hml, hown, hts⟩ (m_begin900 l dC dI cy _ am ) (cw_X11_216 hts rfl rfl ⟨Nat.le_of_ble_eq_true rfl, Nat.le_of_ble_eq_true rfl⟩) hP hD hK [0] rfl rfl rfl rfl bl0 e0 rfl hl.1 rfl (Nat.le_of_ble_eq_true rfl) dX11_colony_4 ⟨Nat.le_of_ble_eq_true rfl, Nat.le_of_ble_eq_true rfl⟩) hP hD hS hA [0] [1, 2, 3, 4, 5] rfl rfl rfl (by decide) (fun u_3 H locs hp_2 hP hD hS => ?_)
  have hp_2 : True := hp_2
  have hP : va_P (dC, dI) vwCl [(am 2, .inl (cy 0, 575, .inl (mi 2))), (am 3, .inl (cy 0, 157, .inl (mi 3))), (am 7, .inl (cy 1, 17, .inr (.inl (ml 7)))), (am 8, .inl (cy 1, 17, .inr (.inl (ml 8)))), (am 11, .inl (cy 2, 2, .inl (mi 11))), (am 0, .inr (12, [.int 0, .ref (am 1), .int 0, .int 0, .int 900, .int 0, .int 0, .int 0, .int 0, .int 0, .int 0, .int 0, .long 0, .int 0, .ref (am 2), .ref (am 3), .ref (am 4), .ref (am 5), .ref (am 6), .ref (am 7), .ref (am 8), .ref (am 9), .ref (am 10), .ref (am 11), .int 0, .int (-1), .ref (am 12), .ref (am 13), .ref (am 14), .int 0, .ref (am 15), .ref (am 16), .int 0, .int 0, .int 0, .ref (am 17), .int 0, .int 0, .ref (am 18), .ref (am 19), .int 0, .int 0, .ref (am 20), .int 0, .int 0, .int 0, .int 0]))] H := hP
  have hD : va_D A [(am 2, .inl (cy 0, 575, .inl (mi 2))), (am 3, .inl (cy 0, 157, .inl (mi 3))), (am 7, .inl (cy 1, 17, .inr (.inl (ml 7)))), (am 8, .inl (cy 1, 17, .inr (.inl (ml 8)))), (am 11, .inl (cy 2, 2, .inl (mi 11))), (am 0, .inr (12, [.int 0, .ref (am 1), .int 0, .int 0, .int 900, .int 0, .int 0, .int 0, .int 0, .int 0, .int 0, .int 0, .long 0, .int 0, .ref (am 2), .ref (am 3), .ref (am 4), .ref (am 5), .ref (am 6), .ref (am 7), .ref (am 8), .ref (am 9), .ref (am 10), .ref (am 11), .int 0, .int (-1), .ref (am 12), .ref (am 13), .ref (am 14), .int 0, .ref (am 15), .ref (am 16), .int 0, .int 0, .int 0, .ref (am 17), .int 0, .int 0, .ref (am 18), .ref (am 19), .int 0, .int 0, .ref (am 20), .int 0, .int 0, .int 0, .int 0]))] := hD
  refine lv_iconst (v := 0) hx hb dX11_colony_7 (by decide) ?_
  refine lv_istore_n (lv' := [(1, .int 0), (0, .ref (am 0))]) hx hb dX11_colony_8 rfl hl (by decide) rfl (fun ls hl => ?_)
  have loop4 : ∀ (n4_ i4 : Nat) (g_5 : Nat → Int32) , i4 + n4_ = 157 → ∀ (H : Heap) (locs : List Loc), va_P (dC, dI) vwCl [(am 2, .inl (cy 0, 575, .inl (mi 2))), (am 3, .inl (cy 0, 157, .inl g_5)), (am 7, .inl (cy 1, 17, .inr (.inl (ml 7)))), (am 8, .inl (cy 1, 17, .inr (.inl (ml 8)))), (am 11, .inl (cy 2, 2, .inl (mi 11))), (am 0, .inr (12, [.int 0, .ref (am 1), .int 0, .int 0, .int 900, .int 0, .int 0, .int 0, .int 0, .int 0, .int 0, .int 0, .long 0, .int 0, .ref (am 2), .ref (am 3), .ref (am 4), .ref (am 5), .ref (am 6), .ref (am 7), .ref (am 8), .ref (am 9), .ref (am 10), .ref (am 11), .int 0, .int (-1), .ref (am 12), .ref (am 13), .ref (am 14), .int 0, .ref (am 15), .ref (am 16), .int 0, .int 0, .int 0, .ref (am 17), .int 0, .int 0, .ref (am 18), .ref (am 19), .int 0, .int 0, .ref (am 20), .int 0, .int 0, .int 0, .int 0]))] H → va_D A [(am 2, .inl (cy 0, 575, .inl (mi 2))), (am 3, .inl (cy 0, 157, .inl g_5)), (am 7, .inl (cy 1, 17, .inr (.inl (ml 7)))), (am 8, .inl (cy 1, 17, .inr (.inl (ml 8)))), (am 11, .inl (cy 2, 2, .inl (mi 11))), (am 0, .inr (12, [.int 0, .ref (am 1), .int 0, .int 0, .int 900, .int 0, .int 0, .int 0, .int 0, .int 0, .int 0, .int 0, .long 0, .int 0, .ref (am 2), .ref (am 3), .ref (am 4), .ref (am 5), .ref (am 6), .ref (am 7), .ref (am 8), .ref (am 9), .ref (am 10), .ref (am 11), .int 0, .int (-1), .ref (am 12), .ref (am 13), .ref (am 14), .int 0, .ref (am 15), .ref (am 16), .int 0, .int 0, .int 0, .ref (am 17), .int 0, .int 0, .ref (am 18), .ref (am 19), .int 0, .int 0, .ref (am 20), .int 0, .int 0, .int 0, .int 0]))] → va_S A s.heap H locs → ∀ ls : Array Slot, lv_has ls 3 [(0, .ref (am 0)), (1, .int (nI i4))] → W p l e ({ frames := 2, cells := 0, slots := 0, locals := 128 }) s m av9 below meth c H locs 0 0 Q9 (F0 m 9 ls []) := by
    intro n4_
    induction n4_ with
    | zero =>
      intro i4 g_5  hn4 H locs hP hD hS ls hl
      obtain rfl : i4 = 157 := by omega
      have hl : lv_has ls 3 [(0, .ref (am 0)), (1, .int 157)] := hl
      have hP : va_P (dC, dI) vwCl [(am 2, .inl (cy 0, 575, .inl (mi 2))), (am 3, .inl (cy 0, 157, .inl g_5)), (am 7, .inl (cy 1, 17, .inr (.inl (ml 7)))), (am 8, .inl (cy 1, 17, .inr (.inl (ml 8)))), (am 11, .inl (cy 2, 2, .inl (mi 11))), (am 0, .inr (12, [.int 0, .ref (am 1), .int 0, .int 0, .int 900, .int 0, .int 0, .int 0, .int 0, .int 0, .int 0, .int 0, .long 0, .int 0, .ref (am 2), .ref (am 3), .ref (am 4), .ref (am 5), .ref (am 6), .ref (am 7), .ref (am 8), .ref (am 9), .ref (am 10), .ref (am 11), .int 0, .int (-1), .ref (am 12), .ref (am 13), .ref (am 14), .int 0, .ref (am 15), .ref (am 16), .int 0, .int 0, .int 0, .ref (am 17), .int 0, .int 0, .ref (am 18), .ref (am 19), .int 0, .int 0, .ref (am 20), .int 0, .int 0, .int 0, .int 0]))] H := hP
      have hD : va_D A [(am 2, .inl (cy 0, 575, .inl (mi 2))), (am 3, .inl (cy 0, 157, .inl g_5)), (am 7, .inl (cy 1, 17, .inr (.inl (ml 7)))), (am 8, .inl (cy 1, 17, .inr (.inl (ml 8)))), (am 11, .inl (cy 2, 2, .inl (mi 11))), (am 0, .inr (12, [.int 0, .ref (am 1), .int 0, .int 0, .int 900, .int 0, .int 0, .int 0, .int 0, .int 0, .int 0, .int 0, .long 0, .int 0, .ref (am 2), .ref (am 3), .ref (am 4), .ref (am 5), .ref (am 6), .ref (am 7), .ref (am 8), .ref (am 9), .ref (am 10), .ref (am 11), .int 0, .int (-1), .ref (am 12), .ref (am 13), .ref (am 14), .int 0, .ref (am 15), .ref (am 16), .int 0, .int 0, .int 0, .ref (am 17), .int 0, .int 0, .ref (am 18), .ref (am 19), .int 0, .int 0, .ref (am 20), .int 0, .int 0, .int 0, .int 0]))] := hD
      refine lv_iload_n hx hb dX11_colony_9 rfl (lv_at hl 1 rfl) ?_
      refine lv_sipush (v := 157) hx hb dX11_colony_10 (by decide) ?_
      refine lv_icmp_ge (tgt := 29) hx hb dX11_colony_13 (by decide) (fun _ => ?_) (fun c9 => absurd (by decide) c9)
      refine lv_aload_n hx hb dX11_colony_29 rfl (lv_at hl 0 rfl) ?_
      refine gf_X11_127 hx hb hts hown hK hP 5 rfl rfl dX11_colony_30 ?_
      refine lv_iconst (v := 0) hx hb dX11_colony_33 (by decide) ?_
      refine lv_iconst (v := 0) hx hb dX11_colony_34 (by decide) ?_
      refine va_zast hx hb hK hP hD hS 4 2 rfl rfl (vp_in_nI (n := 0) (N := 2) (by decide) (by decide)) dX11_colony_35 (fun H locs hP hD hS => ?_)
      obtain ⟨f_6, ef_6⟩ : ∃ z : Nat → Int32, z = upd (mi 11) (Int32.toNatClampNeg 0) (vp_nar .boolean 0) := ⟨_, rfl⟩
      have hP : va_P (dC, dI) vwCl [(am 2, .inl (cy 0, 575, .inl (mi 2))), (am 3, .inl (cy 0, 157, .inl g_5)), (am 7, .inl (cy 1, 17, .inr (.inl (ml 7)))), (am 8, .inl (cy 1, 17, .inr (.inl (ml 8)))), (am 11, .inl (cy 2, 2, .inl f_6)), (am 0, .inr (12, [.int 0, .ref (am 1), .int 0, .int 0, .int 900, .int 0, .int 0, .int 0, .int 0, .int 0, .int 0, .int 0, .long 0, .int 0, .ref (am 2), .ref (am 3), .ref (am 4), .ref (am 5), .ref (am 6), .ref (am 7), .ref (am 8), .ref (am 9), .ref (am 10), .ref (am 11), .int 0, .int (-1), .ref (am 12), .ref (am 13), .ref (am 14), .int 0, .ref (am 15), .ref (am 16), .int 0, .int 0, .int 0, .ref (am 17), .int 0, .int 0, .ref (am 18), .ref (am 19), .int 0, .int 0, .ref (am 20), .int 0, .int 0, .int 0, .int 0]))] H := by rw [ef_6]; exact hP
      have hD : va_D A [(am 2, .inl (cy 0, 575, .inl (mi 2))), (am 3, .inl (cy 0, 157, .inl g_5)), (am 7, .inl (cy 1, 17, .inr (.inl (ml 7)))), (am 8, .inl (cy 1, 17, .inr (.inl (ml 8)))), (am 11, .inl (cy 2, 2, .inl f_6)), (am 0, .inr (12, [.int 0, .ref (am 1), .int 0, .int 0, .int 900, .int 0, .int 0, .int 0, .int 0, .int 0, .int 0, .int 0, .long 0, .int 0, .ref (am 2), .ref (am 3), .ref (am 4), .ref (am 5), .ref (am 6), .ref (am 7), .ref (am 8), .ref (am 9), .ref (am 10), .ref (am 11), .int 0, .int (-1), .ref (am 12), .ref (am 13), .ref (am 14), .int 0, .ref (am 15), .ref (am 16), .int 0, .int 0, .int 0, .ref (am 17), .int 0, .int 0, .ref (am 18), .ref (am 19), .int 0, .int 0, .ref (am 20), .int 0, .int 0, .int 0, .int 0]))] := by rw [ef_6]; exact hD
      rw [show (0 : Int32).toNatClampNeg = 0 from rfl] at ef_6
      refine lv_aload_n hx hb dX11_colony_36 rfl (lv_at hl 0 rfl) ?_
      refine gf_X11_127 hx hb hts hown hK hP 5 rfl rfl dX11_colony_37 ?_
      refine lv_iconst (v := 1) hx hb dX11_colony_40 (by decide) ?_
      refine lv_iconst (v := 0) hx hb dX11_colony_41 (by decide) ?_
      refine va_zast hx hb hK hP hD hS 4 2 rfl rfl (vp_in_nI (n := 1) (N := 2) (by decide) (by decide)) dX11_colony_42 (fun H locs hP hD hS => ?_)
      obtain ⟨f_7, ef_7⟩ : ∃ z : Nat → Int32, z = upd f_6 (Int32.toNatClampNeg 1) (vp_nar .boolean 0) := ⟨_, rfl⟩
      have hP : va_P (dC, dI) vwCl [(am 2, .inl (cy 0, 575, .inl (mi 2))), (am 3, .inl (cy 0, 157, .inl g_5)), (am 7, .inl (cy 1, 17, .inr (.inl (ml 7)))), (am 8, .inl (cy 1, 17, .inr (.inl (ml 8)))), (am 11, .inl (cy 2, 2, .inl f_7)), (am 0, .inr (12, [.int 0, .ref (am 1), .int 0, .int 0, .int 900, .int 0, .int 0, .int 0, .int 0, .int 0, .int 0, .int 0, .long 0, .int 0, .ref (am 2), .ref (am 3), .ref (am 4), .ref (am 5), .ref (am 6), .ref (am 7), .ref (am 8), .ref (am 9), .ref (am 10), .ref (am 11), .int 0, .int (-1), .ref (am 12), .ref (am 13), .ref (am 14), .int 0, .ref (am 15), .ref (am 16), .int 0, .int 0, .int 0, .ref (am 17), .int 0, .int 0, .ref (am 18), .ref (am 19), .int 0, .int 0, .ref (am 20), .int 0, .int 0, .int 0, .int 0]))] H := by rw [ef_7]; exact hP
      have hD : va_D A [(am 2, .inl (cy 0, 575, .inl (mi 2))), (am 3, .inl (cy 0, 157, .inl g_5)), (am 7, .inl (cy 1, 17, .inr (.inl (ml 7)))), (am 8, .inl (cy 1, 17, .inr (.inl (ml 8)))), (am 11, .inl (cy 2, 2, .inl f_7)), (am 0, .inr (12, [.int 0, .ref (am 1), .int 0, .int 0, .int 900, .int 0, .int 0, .int 0, .int 0, .int 0, .int 0, .int 0, .long 0, .int 0, .ref (am 2), .ref (am 3), .ref (am 4), .ref (am 5), .ref (am 6), .ref (am 7), .ref (am 8), .ref (am 9), .ref (am 10), .ref (am 11), .int 0, .int (-1), .ref (am 12), .ref (am 13), .ref (am 14), .int 0, .ref (am 15), .ref (am 16), .int 0, .int 0, .int 0, .ref (am 17), .int 0, .int 0, .ref (am 18), .ref (am 19), .int 0, .int 0, .ref (am 20), .int 0, .int 0, .int 0, .int 0]))] := by rw [ef_7]; exact hD
      rw [show (1 : Int32).toNatClampNeg = 1 from rfl] at ef_7
      refine lv_aload_n hx hb dX11_colony_43 rfl (lv_at hl 0 rfl) ?_
      refine gf_X11_101 hx hb hts hown hK hP 5 rfl rfl dX11_colony_44 ?_
      refine lv_iconst (v := 2) hx hb dX11_colony_47 (by decide) ?_
      refine lv_bipush (v := 60) hx hb dX11_colony_48 (by decide) ?_
      refine va_iast hx hb hK hP hD hS 1 0 rfl rfl (vp_in_nI (n := 2) (N := 157) (by decide) (by decide)) dX11_colony_50 (fun H locs hP hD hS => ?_)
      obtain ⟨f_8, ef_8⟩ : ∃ z : Nat → Int32, z = upd g_5 (Int32.toNatClampNeg 2) 60 := ⟨_, rfl⟩
      have hP : va_P (dC, dI) vwCl [(am 2, .inl (cy 0, 575, .inl (mi 2))), (am 3, .inl (cy 0, 157, .inl f_8)), (am 7, .inl (cy 1, 17, .inr (.inl (ml 7)))), (am 8, .inl (cy 1, 17, .inr (.inl (ml 8)))), (am 11, .inl (cy 2, 2, .inl f_7)), (am 0, .inr (12, [.int 0, .ref (am 1), .int 0, .int 0, .int 900, .int 0, .int 0, .int 0, .int 0, .int 0, .int 0, .int 0, .long 0, .int 0, .ref (am 2), .ref (am 3), .ref (am 4), .ref (am 5), .ref (am 6), .ref (am 7), .ref (am 8), .ref (am 9), .ref (am 10), .ref (am 11), .int 0, .int (-1), .ref (am 12), .ref (am 13), .ref (am 14), .int 0, .ref (am 15), .ref (am 16), .int 0, .int 0, .int 0, .ref (am 17), .int 0, .int 0, .ref (am 18), .ref (am 19), .int 0, .int 0, .ref (am 20), .int 0, .int 0, .int 0, .int 0]))] H := by rw [ef_8]; exact hP
      have hD : va_D A [(am 2, .inl (cy 0, 575, .inl (mi 2))), (am 3, .inl (cy 0, 157, .inl f_8)), (am 7, .inl (cy 1, 17, .inr (.inl (ml 7)))), (am 8, .inl (cy 1, 17, .inr (.inl (ml 8)))), (am 11, .inl (cy 2, 2, .inl f_7)), (am 0, .inr (12, [.int 0, .ref (am 1), .int 0, .int 0, .int 900, .int 0, .int 0, .int 0, .int 0, .int 0, .int 0, .int 0, .long 0, .int 0, .ref (am 2), .ref (am 3), .ref (am 4), .ref (am 5), .ref (am 6), .ref (am 7), .ref (am 8), .ref (am 9), .ref (am 10), .ref (am 11), .int 0, .int (-1), .ref (am 12), .ref (am 13), .ref (am 14), .int 0, .ref (am 15), .ref (am 16), .int 0, .int 0, .int 0, .ref (am 17), .int 0, .int 0, .ref (am 18), .ref (am 19), .int 0, .int 0, .ref (am 20), .int 0, .int 0, .int 0, .int 0]))] := by rw [ef_8]; exact hD
      rw [show (2 : Int32).toNatClampNeg = 2 from rfl] at ef_8
      refine lv_aload_n hx hb dX11_colony_51 rfl (lv_at hl 0 rfl) ?_
      refine gf_X11_101 hx hb hts hown hK hP 5 rfl rfl dX11_colony_52 ?_
      refine lv_iconst (v := 3) hx hb dX11_colony_55 (by decide) ?_
      refine lv_bipush (v := 10) hx hb dX11_colony_56 (by decide) ?_
      refine va_iast hx hb hK hP hD hS 1 0 rfl rfl (vp_in_nI (n := 3) (N := 157) (by decide) (by decide)) dX11_colony_58 (fun H locs hP hD hS => ?_)
      obtain ⟨f_9, ef_9⟩ : ∃ z : Nat → Int32, z = upd f_8 (Int32.toNatClampNeg 3) 10 := ⟨_, rfl⟩
      have hP : va_P (dC, dI) vwCl [(am 2, .inl (cy 0, 575, .inl (mi 2))), (am 3, .inl (cy 0, 157, .inl f_9)), (am 7, .inl (cy 1, 17, .inr (.inl (ml 7)))), (am 8, .inl (cy 1, 17, .inr (.inl (ml 8)))), (am 11, .inl (cy 2, 2, .inl f_7)), (am 0, .inr (12, [.int 0, .ref (am 1), .int 0, .int 0, .int 900, .int 0, .int 0, .int 0, .int 0, .int 0, .int 0, .int 0, .long 0, .int 0, .ref (am 2), .ref (am 3), .ref (am 4), .ref (am 5), .ref (am 6), .ref (am 7), .ref (am 8), .ref (am 9), .ref (am 10), .ref (am 11), .int 0, .int (-1), .ref (am 12), .ref (am 13), .ref (am 14), .int 0, .ref (am 15), .ref (am 16), .int 0, .int 0, .int 0, .ref (am 17), .int 0, .int 0, .ref (am 18), .ref (am 19), .int 0, .int 0, .ref (am 20), .int 0, .int 0, .int 0, .int 0]))] H := by rw [ef_9]; exact hP
      have hD : va_D A [(am 2, .inl (cy 0, 575, .inl (mi 2))), (am 3, .inl (cy 0, 157, .inl f_9)), (am 7, .inl (cy 1, 17, .inr (.inl (ml 7)))), (am 8, .inl (cy 1, 17, .inr (.inl (ml 8)))), (am 11, .inl (cy 2, 2, .inl f_7)), (am 0, .inr (12, [.int 0, .ref (am 1), .int 0, .int 0, .int 900, .int 0, .int 0, .int 0, .int 0, .int 0, .int 0, .int 0, .long 0, .int 0, .ref (am 2), .ref (am 3), .ref (am 4), .ref (am 5), .ref (am 6), .ref (am 7), .ref (am 8), .ref (am 9), .ref (am 10), .ref (am 11), .int 0, .int (-1), .ref (am 12), .ref (am 13), .ref (am 14), .int 0, .ref (am 15), .ref (am 16), .int 0, .int 0, .int 0, .ref (am 17), .int 0, .int 0, .ref (am 18), .ref (am 19), .int 0, .int 0, .ref (am 20), .int 0, .int 0, .int 0, .int 0]))] := by rw [ef_9]; exact hD
      rw [show (3 : Int32).toNatClampNeg = 3 from rfl] at ef_9
      refine lv_iconst (v := 0) hx hb dX11_colony_59 (by decide) ?_
      refine lv_istore_n (lv' := [(1, .int 0), (0, .ref (am 0))]) hx hb dX11_colony_60 rfl hl (by decide) rfl (fun ls hl => ?_)
      refine lv_aload_n hx hb dX11_colony_61 rfl (lv_at hl 1 rfl) ?_
      refine gf_X11_30 hx hb hts hown hK hP 5 rfl rfl dX11_colony_62 ?_
      refine lv_if_eq (tgt := 95) hx hb dX11_colony_65 (by decide) (fun _ => ?_) (fun c9 => absurd (by decide) c9)
      refine lv_iconst (v := 0) hx hb dX11_colony_95 (by decide) ?_
      refine lv_istore_n (lv' := [(2, .int 0), (1, .int 0), (0, .ref (am 0))]) hx hb dX11_colony_96 rfl hl (by decide) rfl (fun ls hl => ?_)
      have loop10 : ∀ (n10_ i10 : Nat) (g_11 : Nat → Int32) , i10 + n10_ = 157 → ∀ (H : Heap) (locs : List Loc), va_P (dC, dI) vwCl [(am 2, .inl (cy 0, 575, .inl g_11)), (am 3, .inl (cy 0, 157, .inl f_9)), (am 7, .inl (cy 1, 17, .inr (.inl (ml 7)))), (am 8, .inl (cy 1, 17, .inr (.inl (ml 8)))), (am 11, .inl (cy 2, 2, .inl f_7)), (am 0, .inr (12, [.int 0, .ref (am 1), .int 0, .int 0, .int 900, .int 0, .int 0, .int 0, .int 0, .int 0, .int 0, .int 0, .long 0, .int 0, .ref (am 2), .ref (am 3), .ref (am 4), .ref (am 5), .ref (am 6), .ref (am 7), .ref (am 8), .ref (am 9), .ref (am 10), .ref (am 11), .int 0, .int (-1), .ref (am 12), .ref (am 13), .ref (am 14), .int 0, .ref (am 15), .ref (am 16), .int 0, .int 0, .int 0, .ref (am 17), .int 0, .int 0, .ref (am 18), .ref (am 19), .int 0, .int 0, .ref (am 20), .int 0, .int 0, .int 0, .int 0]))] H → va_D A [(am 2, .inl (cy 0, 575, .inl g_11)), (am 3, .inl (cy 0, 157, .inl f_9)), (am 7, .inl (cy 1, 17, .inr (.inl (ml 7)))), (am 8, .inl (cy 1, 17, .inr (.inl (ml 8)))), (am 11, .inl (cy 2, 2, .inl f_7)), (am 0, .inr (12, [.int 0, .ref (am 1), .int 0, .int 0, .int 900, .int 0, .int 0, .int 0, .int 0, .int 0, .int 0, .int 0, .long 0, .int 0, .ref (am 2), .ref (am 3), .ref (am 4), .ref (am 5), .ref (am 6), .ref (am 7), .ref (am 8), .ref (am 9), .ref (am 10), .ref (am 11), .int 0, .int (-1), .ref (am 12), .ref (am 13), .ref (am 14), .int 0, .ref (am 15), .ref (am 16), .int 0, .int 0, .int 0, .ref (am 17), .int 0, .int 0, .ref (am 18), .ref (am 19), .int 0, .int 0, .ref (am 20), .int 0, .int 0, .int 0, .int 0]))] → va_S A s.heap H locs → ∀ ls : Array Slot, lv_has ls 3 [(0, .ref (am 0)), (1, .int 0), (2, .int (nI i10))] → W p l e ({ frames := 2, cells := 0, slots := 0, locals := 128 }) s m av9 below meth c H locs 0 0 Q9 (F0 m 97 ls []) := by
        intro n10_
        induction n10_ with
        | zero =>
          intro i10 g_11  hn10 H locs hP hD hS ls hl
          obtain rfl : i10 = 157 := by omega
          have hl : lv_has ls 3 [(0, .ref (am 0)), (1, .int 0), (2, .int 157)] := hl
          have hP : va_P (dC, dI) vwCl [(am 2, .inl (cy 0, 575, .inl g_11)), (am 3, .inl (cy 0, 157, .inl f_9)), (am 7, .inl (cy 1, 17, .inr (.inl (ml 7)))), (am 8, .inl (cy 1, 17, .inr (.inl (ml 8)))), (am 11, .inl (cy 2, 2, .inl f_7)), (am 0, .inr (12, [.int 0, .ref (am 1), .int 0, .int 0, .int 900, .int 0, .int 0, .int 0, .int 0, .int 0, .int 0, .int 0, .long 0, .int 0, .ref (am 2), .ref (am 3), .ref (am 4), .ref (am 5), .ref (am 6), .ref (am 7), .ref (am 8), .ref (am 9), .ref (am 10), .ref (am 11), .int 0, .int (-1), .ref (am 12), .ref (am 13), .ref (am 14), .int 0, .ref (am 15), .ref (am 16), .int 0, .int 0, .int 0, .ref (am 17), .int 0, .int 0, .ref (am 18), .ref (am 19), .int 0, .int 0, .ref (am 20), .int 0, .int 0, .int 0, .int 0]))] H := hP
          have hD : va_D A [(am 2, .inl (cy 0, 575, .inl g_11)), (am 3, .inl (cy 0, 157, .inl f_9)), (am 7, .inl (cy 1, 17, .inr (.inl (ml 7)))), (am 8, .inl (cy 1, 17, .inr (.inl (ml 8)))), (am 11, .inl (cy 2, 2, .inl f_7)), (am 0, .inr (12, [.int 0, .ref (am 1), .int 0, .int 0, .int 900, .int 0, .int 0, .int 0, .int 0, .int 0, .int 0, .int 0, .long 0, .int 0, .ref (am 2), .ref (am 3), .ref (am 4), .ref (am 5), .ref (am 6), .ref (am 7), .ref (am 8), .ref (am 9), .ref (am 10), .ref (am 11), .int 0, .int (-1), .ref (am 12), .ref (am 13), .ref (am 14), .int 0, .ref (am 15), .ref (am 16), .int 0, .int 0, .int 0, .ref (am 17), .int 0, .int 0, .ref (am 18), .ref (am 19), .int 0, .int 0, .ref (am 20), .int 0, .int 0, .int 0, .int 0]))] := hD
          refine lv_iload_n hx hb dX11_colony_97 rfl (lv_at hl 2 rfl) ?_
          refine lv_sipush (v := 157) hx hb dX11_colony_98 (by decide) ?_
          refine lv_icmp_ge (tgt := 122) hx hb dX11_colony_101 (by decide) (fun _ => ?_) (fun c9 => absurd (by decide) c9)
          refine lv_iconst (v := 0) hx hb dX11_colony_122 (by decide) ?_
          refine lv_istore_n (lv' := [(2, .int 0), (0, .ref (am 0)), (1, .int 0)]) hx hb dX11_colony_123 rfl hl (by decide) rfl (fun ls hl => ?_)
          have loop12 : ∀ (n12_ i12 : Nat) (g_13 : Nat → Int64) , i12 + n12_ = 17 → ∀ (H : Heap) (locs : List Loc), va_P (dC, dI) vwCl [(am 2, .inl (cy 0, 575, .inl g_11)), (am 3, .inl (cy 0, 157, .inl f_9)), (am 7, .inl (cy 1, 17, .inr (.inl g_13))), (am 8, .inl (cy 1, 17, .inr (.inl (ml 8)))), (am 11, .inl (cy 2, 2, .inl f_7)), (am 0, .inr (12, [.int 0, .ref (am 1), .int 0, .int 0, .int 900, .int 0, .int 0, .int 0, .int 0, .int 0, .int 0, .int 0, .long 0, .int 0, .ref (am 2), .ref (am 3), .ref (am 4), .ref (am 5), .ref (am 6), .ref (am 7), .ref (am 8), .ref (am 9), .ref (am 10), .ref (am 11), .int 0, .int (-1), .ref (am 12), .ref (am 13), .ref (am 14), .int 0, .ref (am 15), .ref (am 16), .int 0, .int 0, .int 0, .ref (am 17), .int 0, .int 0, .ref (am 18), .ref (am 19), .int 0, .int 0, .ref (am 20), .int 0, .int 0, .int 0, .int 0]))] H → va_D A [(am 2, .inl (cy 0, 575, .inl g_11)), (am 3, .inl (cy 0, 157, .inl f_9)), (am 7, .inl (cy 1, 17, .inr (.inl g_13))), (am 8, .inl (cy 1, 17, .inr (.inl (ml 8)))), (am 11, .inl (cy 2, 2, .inl f_7)), (am 0, .inr (12, [.int 0, .ref (am 1), .int 0, .int 0, .int 900, .int 0, .int 0, .int 0, .int 0, .int 0, .int 0, .int 0, .long 0, .int 0, .ref (am 2), .ref (am 3), .ref (am 4), .ref (am 5), .ref (am 6), .ref (am 7), .ref (am 8), .ref (am 9), .ref (am 10), .ref (am 11), .int 0, .int (-1), .ref (am 12), .ref (am 13), .ref (am 14), .int 0, .ref (am 15), .ref (am 16), .int 0, .int 0, .int 0, .ref (am 17), .int 0, .int 0, .ref (am 18), .ref (am 19), .int 0, .int 0, .ref (am 20), .int 0, .int 0, .int 0, .int 0]))] → va_S A s.heap H locs → ∀ ls : Array Slot, lv_has ls 3 [(0, .ref (am 0)), (1, .int 0), (2, .int (nI i12))] → W p l e ({ frames := 2, cells := 0, slots := 0, locals := 128 }) s m av9 below meth c H locs 0 0 Q9 (F0 m 124 ls []) := by
            intro n12_
            induction n12_ with
            | zero =>
              intro i12 g_13  hn12 H locs hP hD hS ls hl
              obtain rfl : i12 = 17 := by omega
              have hl : lv_has ls 3 [(0, .ref (am 0)), (1, .int 0), (2, .int 17)] := hl
              have hP : va_P (dC, dI) vwCl [(am 2, .inl (cy 0, 575, .inl g_11)), (am 3, .inl (cy 0, 157, .inl f_9)), (am 7, .inl (cy 1, 17, .inr (.inl g_13))), (am 8, .inl (cy 1, 17, .inr (.inl (ml 8)))), (am 11, .inl (cy 2, 2, .inl f_7)), (am 0, .inr (12, [.int 0, .ref (am 1), .int 0, .int 0, .int 900, .int 0, .int 0, .int 0, .int 0, .int 0, .int 0, .int 0, .long 0, .int 0, .ref (am 2), .ref (am 3), .ref (am 4), .ref (am 5), .ref (am 6), .ref (am 7), .ref (am 8), .ref (am 9), .ref (am 10), .ref (am 11), .int 0, .int (-1), .ref (am 12), .ref (am 13), .ref (am 14), .int 0, .ref (am 15), .ref (am 16), .int 0, .int 0, .int 0, .ref (am 17), .int 0, .int 0, .ref (am 18), .ref (am 19), .int 0, .int 0, .ref (am 20), .int 0, .int 0, .int 0, .int 0]))] H := hP
              have hD : va_D A [(am 2, .inl (cy 0, 575, .inl g_11)), (am 3, .inl (cy 0, 157, .inl f_9)), (am 7, .inl (cy 1, 17, .inr (.inl g_13))), (am 8, .inl (cy 1, 17, .inr (.inl (ml 8)))), (am 11, .inl (cy 2, 2, .inl f_7)), (am 0, .inr (12, [.int 0, .ref (am 1), .int 0, .int 0, .int 900, .int 0, .int 0, .int 0, .int 0, .int 0, .int 0, .int 0, .long 0, .int 0, .ref (am 2), .ref (am 3), .ref (am 4), .ref (am 5), .ref (am 6), .ref (am 7), .ref (am 8), .ref (am 9), .ref (am 10), .ref (am 11), .int 0, .int (-1), .ref (am 12), .ref (am 13), .ref (am 14), .int 0, .ref (am 15), .ref (am 16), .int 0, .int 0, .int 0, .ref (am 17), .int 0, .int 0, .ref (am 18), .ref (am 19), .int 0, .int 0, .ref (am 20), .int 0, .int 0, .int 0, .int 0]))] := hD
              refine lv_iload_n hx hb dX11_colony_124 rfl (lv_at hl 2 rfl) ?_
              refine lv_bipush (v := 17) hx hb dX11_colony_125 (by decide) ?_
              refine lv_icmp_ge (tgt := 148) hx hb dX11_colony_127 (by decide) (fun _ => ?_) (fun c9 => absurd (by decide) c9)
              refine lv_aload_n hx hb dX11_colony_148 rfl (lv_at hl 0 rfl) ?_
              refine jn_v (wr := [(am 3, .inl (cy 0, 157, .inl f_9)), (am 7, .inl (cy 1, 17, .inr (.inl g_13))), (am 8, .inl (cy 1, 17, .inr (.inl (ml 8)))), (am 11, .inl (cy 2, 2, .inl f_7))]) (rV (As := []) (rest := []) (ci := 12) ⟨hx, hb, hml, hown, hts⟩ (m_startSo l dC dI cy _ am 900 (-1) g_11 ) (cw_X11_160 hts rfl rfl ⟨Nat.le_of_ble_eq_true rfl, Nat.le_of_ble_eq_true rfl⟩) hP hD hK [5, 0] rfl rfl rfl rfl bl0 e0 rfl hl.1 rfl (Nat.le_of_ble_eq_true rfl) dX11_colony_149 ⟨Nat.le_of_ble_eq_true rfl, Nat.le_of_ble_eq_true rfl⟩) hP hD hS hA [5, 0] [1, 2, 3, 4] rfl rfl rfl (by decide) (fun u_16 H locs hp_15 hP hD hS => ?_)
              obtain ⟨on_17, rfl⟩ : ∃ z, z = u_16 := ⟨_, rfl⟩
              have hp_15 : SOk g_11 on_17 := hp_15
              have hP : va_P (dC, dI) vwCl [(am 3, .inl (cy 0, 157, .inl f_9)), (am 7, .inl (cy 1, 17, .inr (.inl g_13))), (am 8, .inl (cy 1, 17, .inr (.inl (ml 8)))), (am 11, .inl (cy 2, 2, .inl f_7)), (am 0, .inr (12, [.int 0, .ref (am 1), .int 0, .int 0, .int 900, .int 0, .int 0, .int 0, .int 0, .int 0, .int 0, .int 0, .long 0, .int 0, .ref (am 2), .ref (am 3), .ref (am 4), .ref (am 5), .ref (am 6), .ref (am 7), .ref (am 8), .ref (am 9), .ref (am 10), .ref (am 11), .int 0, .int (-1), .ref (am 12), .ref (am 13), .ref (am 14), .int 0, .ref (am 15), .ref (am 16), .int 0, .int 0, .int 0, .ref (am 17), .int 0, .int 0, .ref (am 18), .ref (am 19), .int 0, .int 0, .ref (am 20), .int 0, .int 0, .int 0, .int 0])), (am 2, .inl (cy 0, 575, .inl on_17))] H := hP
              have hD : va_D A [(am 3, .inl (cy 0, 157, .inl f_9)), (am 7, .inl (cy 1, 17, .inr (.inl g_13))), (am 8, .inl (cy 1, 17, .inr (.inl (ml 8)))), (am 11, .inl (cy 2, 2, .inl f_7)), (am 0, .inr (12, [.int 0, .ref (am 1), .int 0, .int 0, .int 900, .int 0, .int 0, .int 0, .int 0, .int 0, .int 0, .int 0, .long 0, .int 0, .ref (am 2), .ref (am 3), .ref (am 4), .ref (am 5), .ref (am 6), .ref (am 7), .ref (am 8), .ref (am 9), .ref (am 10), .ref (am 11), .int 0, .int (-1), .ref (am 12), .ref (am 13), .ref (am 14), .int 0, .ref (am 15), .ref (am 16), .int 0, .int 0, .int 0, .ref (am 17), .int 0, .int 0, .ref (am 18), .ref (am 19), .int 0, .int 0, .ref (am 20), .int 0, .int 0, .int 0, .int 0])), (am 2, .inl (cy 0, 575, .inl on_17))] := hD
              refine lv_aload_n hx hb dX11_colony_152 rfl (lv_at hl 0 rfl) ?_
              refine lv_iconst (v := 0) hx hb dX11_colony_153 (by decide) ?_
              refine pf_X11_225 hx hb hts hown hK hP hD hS 4 rfl rfl rfl (Nat.le_of_ble_eq_true rfl) dX11_colony_154 (fun H locs hP hD hS => ?_)
              have hP : va_P (dC, dI) vwCl [(am 3, .inl (cy 0, 157, .inl f_9)), (am 7, .inl (cy 1, 17, .inr (.inl g_13))), (am 8, .inl (cy 1, 17, .inr (.inl (ml 8)))), (am 11, .inl (cy 2, 2, .inl f_7)), (am 0, .inr (12, [.int 0, .ref (am 1), .int 0, .int 0, .int 900, .int 0, .int 0, .int 0, .int 0, .int 0, .int 0, .int 0, .long 0, .int 0, .ref (am 2), .ref (am 3), .ref (am 4), .ref (am 5), .ref (am 6), .ref (am 7), .ref (am 8), .ref (am 9), .ref (am 10), .ref (am 11), .int 0, .int (-1), .ref (am 12), .ref (am 13), .ref (am 14), .int 0, .ref (am 15), .ref (am 16), .int 0, .int 0, .int 0, .ref (am 17), .int 0, .int 0, .ref (am 18), .ref (am 19), .int 0, .int 0, .ref (am 20), .int 0, .int 0, .int 0, .int 0])), (am 2, .inl (cy 0, 575, .inl on_17))] H := hP
              have hD : va_D A [(am 3, .inl (cy 0, 157, .inl f_9)), (am 7, .inl (cy 1, 17, .inr (.inl g_13))), (am 8, .inl (cy 1, 17, .inr (.inl (ml 8)))), (am 11, .inl (cy 2, 2, .inl f_7)), (am 0, .inr (12, [.int 0, .ref (am 1), .int 0, .int 0, .int 900, .int 0, .int 0, .int 0, .int 0, .int 0, .int 0, .int 0, .long 0, .int 0, .ref (am 2), .ref (am 3), .ref (am 4), .ref (am 5), .ref (am 6), .ref (am 7), .ref (am 8), .ref (am 9), .ref (am 10), .ref (am 11), .int 0, .int (-1), .ref (am 12), .ref (am 13), .ref (am 14), .int 0, .ref (am 15), .ref (am 16), .int 0, .int 0, .int 0, .ref (am 17), .int 0, .int 0, .ref (am 18), .ref (am 19), .int 0, .int 0, .ref (am 20), .int 0, .int 0, .int 0, .int 0])), (am 2, .inl (cy 0, 575, .inl on_17))] := hD
              refine lv_iload_n hx hb dX11_colony_157 rfl (lv_at hl 1 rfl) ?_
              rw [hQ9]
              exact re_i () hx hb hr hlocks rfl (hP.sub [] rfl) (hD.sub [] rfl rfl) hS dX11_colony_158
            | succ n12_ ih12 =>
              intro i12 g_13  hn12 H locs hP hD hS ls hl
              refine lv_iload_n hx hb dX11_colony_124 rfl (lv_at hl 2 rfl) ?_
              refine lv_bipush (v := 17) hx hb dX11_colony_125 (by decide) ?_
              refine lv_icmp_ge (tgt := 148) hx hb dX11_colony_127 (by decide) (fun c9 => absurd c9 (nI_ge (a := i12) (b := 17) (by omega) (by omega))) (fun _ => ?_)
              refine lv_aload_n hx hb dX11_colony_130 rfl (lv_at hl 0 rfl) ?_
              refine gf_X11_113 hx hb hts hown hK hP 5 rfl rfl dX11_colony_131 ?_
              refine lv_iload_n hx hb dX11_colony_134 rfl (lv_at hl 2 rfl) ?_
              refine lv_aload_n hx hb dX11_colony_135 rfl (lv_at hl 0 rfl) ?_
              refine gf_X11_117 hx hb hts hown hK hP 5 rfl rfl dX11_colony_136 ?_
              refine lv_iload_n hx hb dX11_colony_139 rfl (lv_at hl 2 rfl) ?_
              refine va_lald hx hb hK hP 3 1 rfl rfl (vp_in_nI (n := i12) (N := 17) (by omega) (by omega)) dX11_colony_140 ?_
              refine as_l ((ml 8) i12) (congrArg (ml 8) (nI_clamp (n := i12) (by omega))) ?_
              refine va_last hx hb hK hP hD hS 2 1 rfl rfl (vp_in_nI (n := i12) (N := 17) (by omega) (by omega)) dX11_colony_141 (fun H locs hP hD hS => ?_)
              obtain ⟨f_18, ef_18⟩ : ∃ z : Nat → Int64, z = vp_updL g_13 (Int32.toNatClampNeg (nI i12)) ((ml 8) i12) := ⟨_, rfl⟩
              have hP : va_P (dC, dI) vwCl [(am 2, .inl (cy 0, 575, .inl g_11)), (am 3, .inl (cy 0, 157, .inl f_9)), (am 7, .inl (cy 1, 17, .inr (.inl f_18))), (am 8, .inl (cy 1, 17, .inr (.inl (ml 8)))), (am 11, .inl (cy 2, 2, .inl f_7)), (am 0, .inr (12, [.int 0, .ref (am 1), .int 0, .int 0, .int 900, .int 0, .int 0, .int 0, .int 0, .int 0, .int 0, .int 0, .long 0, .int 0, .ref (am 2), .ref (am 3), .ref (am 4), .ref (am 5), .ref (am 6), .ref (am 7), .ref (am 8), .ref (am 9), .ref (am 10), .ref (am 11), .int 0, .int (-1), .ref (am 12), .ref (am 13), .ref (am 14), .int 0, .ref (am 15), .ref (am 16), .int 0, .int 0, .int 0, .ref (am 17), .int 0, .int 0, .ref (am 18), .ref (am 19), .int 0, .int 0, .ref (am 20), .int 0, .int 0, .int 0, .int 0]))] H := by rw [ef_18]; exact hP
              have hD : va_D A [(am 2, .inl (cy 0, 575, .inl g_11)), (am 3, .inl (cy 0, 157, .inl f_9)), (am 7, .inl (cy 1, 17, .inr (.inl f_18))), (am 8, .inl (cy 1, 17, .inr (.inl (ml 8)))), (am 11, .inl (cy 2, 2, .inl f_7)), (am 0, .inr (12, [.int 0, .ref (am 1), .int 0, .int 0, .int 900, .int 0, .int 0, .int 0, .int 0, .int 0, .int 0, .int 0, .long 0, .int 0, .ref (am 2), .ref (am 3), .ref (am 4), .ref (am 5), .ref (am 6), .ref (am 7), .ref (am 8), .ref (am 9), .ref (am 10), .ref (am 11), .int 0, .int (-1), .ref (am 12), .ref (am 13), .ref (am 14), .int 0, .ref (am 15), .ref (am 16), .int 0, .int 0, .int 0, .ref (am 17), .int 0, .int 0, .ref (am 18), .ref (am 19), .int 0, .int 0, .ref (am 20), .int 0, .int 0, .int 0, .int 0]))] := by rw [ef_18]; exact hD
              rw [(nI_clamp (n := i12) (by omega))] at ef_18
              refine lv_iinc (v := nI (i12 + 1)) (lv' := [(2, .int (nI (i12 + 1))), (0, .ref (am 0)), (1, .int 0)]) hx hb dX11_colony_142 hl (k := 2) rfl (nI_add i12 1) (by decide) rfl (fun ls hl => ?_)
              refine lv_goto (tgt := 124) hx hb dX11_colony_145 (by decide) ?_
              exact ih12 (i12 + 1) f_18  (by omega) _ _ (hP.sub [0, 1, 2, 3, 4, 5] rfl) (hD.sub [0, 1, 2, 3, 4, 5] rfl rfl) hS ls (lv_sub hl [1, 2, 0] rfl)
          exact loop12 17 0 (ml 7)  (by omega) _ _ hP hD hS ls (lv_sub hl [1, 2, 0] rfl)
        | succ n10_ ih10 =>
          intro i10 g_11  hn10 H locs hP hD hS ls hl
          refine lv_iload_n hx hb dX11_colony_97 rfl (lv_at hl 2 rfl) ?_
          refine lv_sipush (v := 157) hx hb dX11_colony_98 (by decide) ?_
          refine lv_icmp_ge (tgt := 122) hx hb dX11_colony_101 (by decide) (fun c9 => absurd c9 (nI_ge (a := i10) (b := 157) (by omega) (by omega))) (fun _ => ?_)
          refine lv_aload_n hx hb dX11_colony_104 rfl (lv_at hl 0 rfl) ?_
          refine gf_X11_98 hx hb hts hown hK hP 5 rfl rfl dX11_colony_105 ?_
          refine lv_iload_n hx hb dX11_colony_108 rfl (lv_at hl 2 rfl) ?_
          refine lv_aload_n hx hb dX11_colony_109 rfl (lv_at hl 0 rfl) ?_
          refine gf_X11_101 hx hb hts hown hK hP 5 rfl rfl dX11_colony_110 ?_
          refine lv_iload_n hx hb dX11_colony_113 rfl (lv_at hl 2 rfl) ?_
          refine va_iald hx hb hK hP 1 0 rfl rfl (vp_in_nI (n := i10) (N := 157) (by omega) (by omega)) dX11_colony_114 ?_
          refine as_i (f_9 i10) (congrArg f_9 (nI_clamp (n := i10) (by omega))) ?_
          refine va_iast hx hb hK hP hD hS 0 0 rfl rfl (vp_in_nI (n := i10) (N := 575) (by omega) (by omega)) dX11_colony_115 (fun H locs hP hD hS => ?_)
          obtain ⟨f_19, ef_19⟩ : ∃ z : Nat → Int32, z = upd g_11 (Int32.toNatClampNeg (nI i10)) (f_9 i10) := ⟨_, rfl⟩
          have hP : va_P (dC, dI) vwCl [(am 2, .inl (cy 0, 575, .inl f_19)), (am 3, .inl (cy 0, 157, .inl f_9)), (am 7, .inl (cy 1, 17, .inr (.inl (ml 7)))), (am 8, .inl (cy 1, 17, .inr (.inl (ml 8)))), (am 11, .inl (cy 2, 2, .inl f_7)), (am 0, .inr (12, [.int 0, .ref (am 1), .int 0, .int 0, .int 900, .int 0, .int 0, .int 0, .int 0, .int 0, .int 0, .int 0, .long 0, .int 0, .ref (am 2), .ref (am 3), .ref (am 4), .ref (am 5), .ref (am 6), .ref (am 7), .ref (am 8), .ref (am 9), .ref (am 10), .ref (am 11), .int 0, .int (-1), .ref (am 12), .ref (am 13), .ref (am 14), .int 0, .ref (am 15), .ref (am 16), .int 0, .int 0, .int 0, .ref (am 17), .int 0, .int 0, .ref (am 18), .ref (am 19), .int 0, .int 0, .ref (am 20), .int 0, .int 0, .int 0, .int 0]))] H := by rw [ef_19]; exact hP
          have hD : va_D A [(am 2, .inl (cy 0, 575, .inl f_19)), (am 3, .inl (cy 0, 157, .inl f_9)), (am 7, .inl (cy 1, 17, .inr (.inl (ml 7)))), (am 8, .inl (cy 1, 17, .inr (.inl (ml 8)))), (am 11, .inl (cy 2, 2, .inl f_7)), (am 0, .inr (12, [.int 0, .ref (am 1), .int 0, .int 0, .int 900, .int 0, .int 0, .int 0, .int 0, .int 0, .int 0, .int 0, .long 0, .int 0, .ref (am 2), .ref (am 3), .ref (am 4), .ref (am 5), .ref (am 6), .ref (am 7), .ref (am 8), .ref (am 9), .ref (am 10), .ref (am 11), .int 0, .int (-1), .ref (am 12), .ref (am 13), .ref (am 14), .int 0, .ref (am 15), .ref (am 16), .int 0, .int 0, .int 0, .ref (am 17), .int 0, .int 0, .ref (am 18), .ref (am 19), .int 0, .int 0, .ref (am 20), .int 0, .int 0, .int 0, .int 0]))] := by rw [ef_19]; exact hD
          rw [(nI_clamp (n := i10) (by omega))] at ef_19
          refine lv_iinc (v := nI (i10 + 1)) (lv' := [(2, .int (nI (i10 + 1))), (0, .ref (am 0)), (1, .int 0)]) hx hb dX11_colony_116 hl (k := 2) rfl (nI_add i10 1) (by decide) rfl (fun ls hl => ?_)
          refine lv_goto (tgt := 97) hx hb dX11_colony_119 (by decide) ?_
          exact ih10 (i10 + 1) f_19  (by omega) _ _ (hP.sub [0, 1, 2, 3, 4, 5] rfl) (hD.sub [0, 1, 2, 3, 4, 5] rfl rfl) hS ls (lv_sub hl [1, 2, 0] rfl)
      exact loop10 157 0 (mi 2)  (by omega) _ _ hP hD hS ls (lv_sub hl [2, 1, 0] rfl)
    | succ n4_ ih4 =>
      intro i4 g_5  hn4 H locs hP hD hS ls hl
      refine lv_iload_n hx hb dX11_colony_9 rfl (lv_at hl 1 rfl) ?_
      refine lv_sipush (v := 157) hx hb dX11_colony_10 (by decide) ?_
      refine lv_icmp_ge (tgt := 29) hx hb dX11_colony_13 (by decide) (fun c9 => absurd c9 (nI_ge (a := i4) (b := 157) (by omega) (by omega))) (fun _ => ?_)
      refine lv_aload_n hx hb dX11_colony_16 rfl (lv_at hl 0 rfl) ?_
      refine gf_X11_101 hx hb hts hown hK hP 5 rfl rfl dX11_colony_17 ?_
      refine lv_iload_n hx hb dX11_colony_20 rfl (lv_at hl 1 rfl) ?_
      refine lv_iconst (v := 0) hx hb dX11_colony_21 (by decide) ?_
      refine va_iast hx hb hK hP hD hS 1 0 rfl rfl (vp_in_nI (n := i4) (N := 157) (by omega) (by omega)) dX11_colony_22 (fun H locs hP hD hS => ?_)
      obtain ⟨f_20, ef_20⟩ : ∃ z : Nat → Int32, z = upd g_5 (Int32.toNatClampNeg (nI i4)) 0 := ⟨_, rfl⟩
      have hP : va_P (dC, dI) vwCl [(am 2, .inl (cy 0, 575, .inl (mi 2))), (am 3, .inl (cy 0, 157, .inl f_20)), (am 7, .inl (cy 1, 17, .inr (.inl (ml 7)))), (am 8, .inl (cy 1, 17, .inr (.inl (ml 8)))), (am 11, .inl (cy 2, 2, .inl (mi 11))), (am 0, .inr (12, [.int 0, .ref (am 1), .int 0, .int 0, .int 900, .int 0, .int 0, .int 0, .int 0, .int 0, .int 0, .int 0, .long 0, .int 0, .ref (am 2), .ref (am 3), .ref (am 4), .ref (am 5), .ref (am 6), .ref (am 7), .ref (am 8), .ref (am 9), .ref (am 10), .ref (am 11), .int 0, .int (-1), .ref (am 12), .ref (am 13), .ref (am 14), .int 0, .ref (am 15), .ref (am 16), .int 0, .int 0, .int 0, .ref (am 17), .int 0, .int 0, .ref (am 18), .ref (am 19), .int 0, .int 0, .ref (am 20), .int 0, .int 0, .int 0, .int 0]))] H := by rw [ef_20]; exact hP
      have hD : va_D A [(am 2, .inl (cy 0, 575, .inl (mi 2))), (am 3, .inl (cy 0, 157, .inl f_20)), (am 7, .inl (cy 1, 17, .inr (.inl (ml 7)))), (am 8, .inl (cy 1, 17, .inr (.inl (ml 8)))), (am 11, .inl (cy 2, 2, .inl (mi 11))), (am 0, .inr (12, [.int 0, .ref (am 1), .int 0, .int 0, .int 900, .int 0, .int 0, .int 0, .int 0, .int 0, .int 0, .int 0, .long 0, .int 0, .ref (am 2), .ref (am 3), .ref (am 4), .ref (am 5), .ref (am 6), .ref (am 7), .ref (am 8), .ref (am 9), .ref (am 10), .ref (am 11), .int 0, .int (-1), .ref (am 12), .ref (am 13), .ref (am 14), .int 0, .ref (am 15), .ref (am 16), .int 0, .int 0, .int 0, .ref (am 17), .int 0, .int 0, .ref (am 18), .ref (am 19), .int 0, .int 0, .ref (am 20), .int 0, .int 0, .int 0, .int 0]))] := by rw [ef_20]; exact hD
      rw [(nI_clamp (n := i4) (by omega))] at ef_20
      refine lv_iinc (v := nI (i4 + 1)) (lv' := [(1, .int (nI (i4 + 1))), (0, .ref (am 0))]) hx hb dX11_colony_23 hl (k := 1) rfl (nI_add i4 1) (by decide) rfl (fun ls hl => ?_)
      refine lv_goto (tgt := 9) hx hb dX11_colony_26 (by decide) ?_
      exact ih4 (i4 + 1) f_20  (by omega) _ _ (hP.sub [0, 1, 2, 3, 4, 5] rfl) (hD.sub [0, 1, 2, 3, 4, 5] rfl rfl) hS ls (lv_sub hl [1, 0] rfl)
  exact loop4 157 0 (mi 3)  (by omega) _ _ hP hD hS ls (lv_sub hl [1, 0] rfl)
abbrev cX11_snap : ByteArray := prog_13_method_63_code
def yX11_snap : MethodName := ⟨RX11, "snap", "()V"⟩
theorem t1806 : Cond.code yX11_snap cX11_snap 2 none ∈ GW := gw_mem 1920 (by decide +kernel) (by decide +kernel)
abbrev O_m_snap (cy : Nat → ClassId) (am : Nat → Nat) (mi : Nat → Nat → Int32) (u : (Nat → Int32)) : va_W := [(am 0, .inr (12, [.int 0, .ref (am 1), .int 0, .int 0, .int 0, .int 0, .int 0, .int 0, .int 0, .int 0, .int 0, .int 0, .long 0, .int 0, .ref (am 2), .ref (am 3), .ref (am 4), .ref (am 5), .ref (am 6), .ref (am 7), .ref (am 8), .ref (am 9), .ref (am 10), .ref (am 11), .int 1, .int (-1), .ref (am 12), .ref (am 13), .ref (am 14), .int 0, .ref (am 15), .ref (am 16), .int 0, .int 0, .int 0, .ref (am 17), .int 0, .int 0, .ref (am 18), .ref (am 19), .int 0, .int 0, .ref (am 20), .int 0, .int 0, .int 0, .int 0])), (am 2, .inl (cy 0, 575, .inl (mi 2))), (am 5, .inl (cy 0, 1408, .inl u))]
theorem dX11_snap_0 : decode cX11_snap 0 = .ok (.aload_n 0, 1) := by decide +kernel
theorem dX11_snap_1 : decode cX11_snap 1 = .ok (.getfield 225, 3) := by decide +kernel
theorem dX11_snap_4 : decode cX11_snap 4 = .ok (.bipush 8, 2) := by decide +kernel
theorem dX11_snap_6 : decode cX11_snap 6 = .ok (.if_icmp .ne 44, 3) := by decide +kernel
theorem dX11_snap_50 : decode cX11_snap 50 = .ok (.iconst 0, 1) := by decide +kernel
theorem dX11_snap_51 : decode cX11_snap 51 = .ok (.istore_n 1, 1) := by decide +kernel
theorem dX11_snap_52 : decode cX11_snap 52 = .ok (.iload_n 1, 1) := by decide +kernel
theorem dX11_snap_53 : decode cX11_snap 53 = .ok (.sipush 176, 3) := by decide +kernel
theorem dX11_snap_56 : decode cX11_snap 56 = .ok (.if_icmp .ge 34, 3) := by decide +kernel
theorem dX11_snap_90 : decode cX11_snap 90 = .ok (.aload_n 0, 1) := by decide +kernel
theorem dX11_snap_91 : decode cX11_snap 91 = .ok (.dup, 1) := by decide +kernel
theorem dX11_snap_92 : decode cX11_snap 92 = .ok (.getfield 225, 3) := by decide +kernel
theorem dX11_snap_95 : decode cX11_snap 95 = .ok (.iconst 1, 1) := by decide +kernel
theorem dX11_snap_96 : decode cX11_snap 96 = .ok (.iadd, 1) := by decide +kernel
theorem dX11_snap_97 : decode cX11_snap 97 = .ok (.putfield 225, 3) := by decide +kernel
theorem dX11_snap_100 : decode cX11_snap 100 = .ok (.return_, 1) := by decide +kernel
theorem dX11_snap_59 : decode cX11_snap 59 = .ok (.aload_n 0, 1) := by decide +kernel
theorem dX11_snap_60 : decode cX11_snap 60 = .ok (.getfield 107, 3) := by decide +kernel
theorem t1463 : Cond.fieldLink RX11 107 "LikenessPoundModel" "snaps" "[I" ∈ GW := gw_mem 1577 (by decide +kernel) (by decide +kernel)
theorem gf_X11_107 {p : Program} {l : Launch} {e : Env} {R : Room} {s : State} {m : MethodId} {args : Array Value} {below : List Frame} {meth : Method} {c : Code} {H : Heap} {locs : List Loc} {cells slots : Nat} {Q : State → Prop} {cc : ByteArray} {pc : Nat} {ls : Array Slot} {rest : List Value} {D : va_G} {a : Nat} {tys : List (ClassId × FieldType)} {ws : va_W} (hx : p.tables.exec = Jvm.exec) (hb : c.code = cc) (hts : ∀ w ∈ GW, w.before args s = true) (hown : s.vm.findClass RX11 = some m.cls) (hK : va_K D vwCl tys s) (hP : va_P D vwCl ws H) (q0 : Nat) {fs : List Value} (he : ws[q0]? = some (a, .inr (12, fs))) {v : Value} (hv : fs[17]? = some v) (hdg : decode cc pc = .ok (.getfield 107, 3)) (kk : W p l e R s m args below meth c H locs cells slots Q (F0 m (pc + 3) ls (v :: rest))) : W p l e R s m args below meth c H locs cells slots Q (F0 m pc ls (.ref a :: rest)) := va_get (C := RX11) (T := TX11) (N := 47) (ci := 12) hx hb hts inX11 hown hK hP q0 he rfl 17 (by decide) (hts _ t1463) (fun _ h => h) hv hdg kk
theorem dX11_snap_63 : decode cX11_snap 63 = .ok (.sipush 176, 3) := by decide +kernel
theorem dX11_snap_66 : decode cX11_snap 66 = .ok (.aload_n 0, 1) := by decide +kernel
theorem dX11_snap_67 : decode cX11_snap 67 = .ok (.getfield 225, 3) := by decide +kernel
theorem dX11_snap_70 : decode cX11_snap 70 = .ok (.imul, 1) := by decide +kernel
theorem dX11_snap_71 : decode cX11_snap 71 = .ok (.iload_n 1, 1) := by decide +kernel
theorem dX11_snap_72 : decode cX11_snap 72 = .ok (.iadd, 1) := by decide +kernel
theorem dX11_snap_73 : decode cX11_snap 73 = .ok (.aload_n 0, 1) := by decide +kernel
theorem dX11_snap_74 : decode cX11_snap 74 = .ok (.getfield 98, 3) := by decide +kernel
theorem dX11_snap_77 : decode cX11_snap 77 = .ok (.sipush 157, 3) := by decide +kernel
theorem dX11_snap_80 : decode cX11_snap 80 = .ok (.iload_n 1, 1) := by decide +kernel
theorem dX11_snap_81 : decode cX11_snap 81 = .ok (.iadd, 1) := by decide +kernel
theorem dX11_snap_82 : decode cX11_snap 82 = .ok (.iaload, 1) := by decide +kernel
theorem dX11_snap_83 : decode cX11_snap 83 = .ok (.iastore, 1) := by decide +kernel
theorem dX11_snap_84 : decode cX11_snap 84 = .ok (.iinc 1 1, 3) := by decide +kernel
theorem dX11_snap_87 : decode cX11_snap 87 = .ok (.goto (-35), 3) := by decide +kernel
set_option maxHeartbeats 4000000 in
set_option maxRecDepth 100000 in
theorem m_snap (l : Launch) (dC : Nat → ClassId) (dI : Nat → Nat → Nat) (cy : Nat → ClassId) (sz : Nat) (am : Nat → Nat) (mi : Nat → Nat → Int32)  : Met l yX11_snap (wl yX11_snap cX11_snap 2 none) ({ frames := 0, cells := 0, slots := 0, locals := 0 }) (Pw (dC, dI) vwCl cy [(am 0, .inr (12, [.int 0, .ref (am 1), .int 0, .int 0, .int 0, .int 0, .int 0, .int 0, .int 0, .int 0, .int 0, .int 0, .long 0, .int 0, .ref (am 2), .ref (am 3), .ref (am 4), .ref (am 5), .ref (am 6), .ref (am 7), .ref (am 8), .ref (am 9), .ref (am 10), .ref (am 11), .int 0, .int (-1), .ref (am 12), .ref (am 13), .ref (am 14), .int 0, .ref (am 15), .ref (am 16), .int 0, .int 0, .int 0, .ref (am 17), .int 0, .int 0, .ref (am 18), .ref (am 19), .int 0, .int 0, .ref (am 20), .int 0, .int 0, .int 0, .int 0])), (am 2, .inl (cy 0, 575, .inl (mi 2))), (am 5, .inl (cy 0, 1408, .inl (mi 5)))] sz [.ref (am 0)] nE) (Qv (dC, dI) vwCl (fun (u : (Nat → Int32)) => True) (O_m_snap cy am mi) (va_A [(am 0, .inr (12, [.int 0, .ref (am 1), .int 0, .int 0, .int 0, .int 0, .int 0, .int 0, .int 0, .int 0, .int 0, .int 0, .long 0, .int 0, .ref (am 2), .ref (am 3), .ref (am 4), .ref (am 5), .ref (am 6), .ref (am 7), .ref (am 8), .ref (am 9), .ref (am 10), .ref (am 11), .int 0, .int (-1), .ref (am 12), .ref (am 13), .ref (am 14), .int 0, .ref (am 15), .ref (am 16), .int 0, .int 0, .int 0, .ref (am 17), .int 0, .int 0, .ref (am 18), .ref (am 19), .int 0, .int 0, .ref (am 20), .int 0, .int 0, .int 0, .int 0])), (am 2, .inl (cy 0, 575, .inl (mi 2))), (am 5, .inl (cy 0, 1408, .inl (mi 5)))] sz)) 0 0 (va_A [(am 0, .inr (12, [.int 0, .ref (am 1), .int 0, .int 0, .int 0, .int 0, .int 0, .int 0, .int 0, .int 0, .int 0, .int 0, .long 0, .int 0, .ref (am 2), .ref (am 3), .ref (am 4), .ref (am 5), .ref (am 6), .ref (am 7), .ref (am 8), .ref (am 9), .ref (am 10), .ref (am 11), .int 0, .int (-1), .ref (am 12), .ref (am 13), .ref (am 14), .int 0, .ref (am 15), .ref (am 16), .int 0, .int 0, .int 0, .ref (am 17), .int 0, .int 0, .ref (am 18), .ref (am 19), .int 0, .int 0, .ref (am 20), .int 0, .int 0, .int 0, .int 0])), (am 2, .inl (cy 0, 575, .inl (mi 2))), (am 5, .inl (cy 0, 1408, .inl (mi 5)))] sz) := by
  refine mw (Qc := Qv (dC, dI) vwCl (fun (u : (Nat → Int32)) => True) (O_m_snap cy am mi)) RX11 rfl (by decide +kernel) (Nat.le_of_ble_eq_true rfl) ?_
  intro p e s m below meth c A hx hb hr hlocks av9 hav hts hown hnm hml hK hP hD hA hS hE hAe Q9 hQ9 ls hl
  have hl : lv_has ls 2 [(0, .ref (am 0))] := hl
  refine lv_aload_n hx hb dX11_snap_0 rfl (lv_at hl 0 rfl) ?_
  refine gf_X11_225 hx hb hts hown hK hP 0 rfl rfl dX11_snap_1 ?_
  refine lv_bipush (v := 8) hx hb dX11_snap_4 (by decide) ?_
  refine lv_icmp_ne (tgt := 50) hx hb dX11_snap_6 (by decide) (fun _ => ?_) (fun c9 => absurd c9 (by decide))
  refine lv_iconst (v := 0) hx hb dX11_snap_50 (by decide) ?_
  refine lv_istore_n (lv' := [(1, .int 0), (0, .ref (am 0))]) hx hb dX11_snap_51 rfl hl (by decide) rfl (fun ls hl => ?_)
  have loop1 : ∀ (n1_ i1 : Nat) (g_2 : Nat → Int32) , i1 + n1_ = 176 → ∀ (H : Heap) (locs : List Loc), va_P (dC, dI) vwCl [(am 0, .inr (12, [.int 0, .ref (am 1), .int 0, .int 0, .int 0, .int 0, .int 0, .int 0, .int 0, .int 0, .int 0, .int 0, .long 0, .int 0, .ref (am 2), .ref (am 3), .ref (am 4), .ref (am 5), .ref (am 6), .ref (am 7), .ref (am 8), .ref (am 9), .ref (am 10), .ref (am 11), .int 0, .int (-1), .ref (am 12), .ref (am 13), .ref (am 14), .int 0, .ref (am 15), .ref (am 16), .int 0, .int 0, .int 0, .ref (am 17), .int 0, .int 0, .ref (am 18), .ref (am 19), .int 0, .int 0, .ref (am 20), .int 0, .int 0, .int 0, .int 0])), (am 2, .inl (cy 0, 575, .inl (mi 2))), (am 5, .inl (cy 0, 1408, .inl g_2))] H → va_D A [(am 0, .inr (12, [.int 0, .ref (am 1), .int 0, .int 0, .int 0, .int 0, .int 0, .int 0, .int 0, .int 0, .int 0, .int 0, .long 0, .int 0, .ref (am 2), .ref (am 3), .ref (am 4), .ref (am 5), .ref (am 6), .ref (am 7), .ref (am 8), .ref (am 9), .ref (am 10), .ref (am 11), .int 0, .int (-1), .ref (am 12), .ref (am 13), .ref (am 14), .int 0, .ref (am 15), .ref (am 16), .int 0, .int 0, .int 0, .ref (am 17), .int 0, .int 0, .ref (am 18), .ref (am 19), .int 0, .int 0, .ref (am 20), .int 0, .int 0, .int 0, .int 0])), (am 2, .inl (cy 0, 575, .inl (mi 2))), (am 5, .inl (cy 0, 1408, .inl g_2))] → va_S A s.heap H locs → ∀ ls : Array Slot, lv_has ls 2 [(0, .ref (am 0)), (1, .int (nI i1))] → W p l e ({ frames := 0, cells := 0, slots := 0, locals := 0 }) s m av9 below meth c H locs 0 0 Q9 (F0 m 52 ls []) := by
    intro n1_
    induction n1_ with
    | zero =>
      intro i1 g_2  hn1 H locs hP hD hS ls hl
      obtain rfl : i1 = 176 := by omega
      have hl : lv_has ls 2 [(0, .ref (am 0)), (1, .int 176)] := hl
      have hP : va_P (dC, dI) vwCl [(am 0, .inr (12, [.int 0, .ref (am 1), .int 0, .int 0, .int 0, .int 0, .int 0, .int 0, .int 0, .int 0, .int 0, .int 0, .long 0, .int 0, .ref (am 2), .ref (am 3), .ref (am 4), .ref (am 5), .ref (am 6), .ref (am 7), .ref (am 8), .ref (am 9), .ref (am 10), .ref (am 11), .int 0, .int (-1), .ref (am 12), .ref (am 13), .ref (am 14), .int 0, .ref (am 15), .ref (am 16), .int 0, .int 0, .int 0, .ref (am 17), .int 0, .int 0, .ref (am 18), .ref (am 19), .int 0, .int 0, .ref (am 20), .int 0, .int 0, .int 0, .int 0])), (am 2, .inl (cy 0, 575, .inl (mi 2))), (am 5, .inl (cy 0, 1408, .inl g_2))] H := hP
      have hD : va_D A [(am 0, .inr (12, [.int 0, .ref (am 1), .int 0, .int 0, .int 0, .int 0, .int 0, .int 0, .int 0, .int 0, .int 0, .int 0, .long 0, .int 0, .ref (am 2), .ref (am 3), .ref (am 4), .ref (am 5), .ref (am 6), .ref (am 7), .ref (am 8), .ref (am 9), .ref (am 10), .ref (am 11), .int 0, .int (-1), .ref (am 12), .ref (am 13), .ref (am 14), .int 0, .ref (am 15), .ref (am 16), .int 0, .int 0, .int 0, .ref (am 17), .int 0, .int 0, .ref (am 18), .ref (am 19), .int 0, .int 0, .ref (am 20), .int 0, .int 0, .int 0, .int 0])), (am 2, .inl (cy 0, 575, .inl (mi 2))), (am 5, .inl (cy 0, 1408, .inl g_2))] := hD
      refine lv_iload_n hx hb dX11_snap_52 rfl (lv_at hl 1 rfl) ?_
      refine lv_sipush (v := 176) hx hb dX11_snap_53 (by decide) ?_
      refine lv_icmp_ge (tgt := 90) hx hb dX11_snap_56 (by decide) (fun _ => ?_) (fun c9 => absurd (by decide) c9)
      refine lv_aload_n hx hb dX11_snap_90 rfl (lv_at hl 0 rfl) ?_
      refine lv_dup hx hb dX11_snap_91 rfl ?_
      refine gf_X11_225 hx hb hts hown hK hP 0 rfl rfl dX11_snap_92 ?_
      refine lv_iconst (v := 1) hx hb dX11_snap_95 (by decide) ?_
      refine lv_iadd hx hb dX11_snap_96 ?_
      refine as_i 1 (by decide) ?_
      refine pf_X11_225 hx hb hts hown hK hP hD hS 0 rfl rfl rfl (Nat.le_of_ble_eq_true rfl) dX11_snap_97 (fun H locs hP hD hS => ?_)
      have hP : va_P (dC, dI) vwCl [(am 0, .inr (12, [.int 0, .ref (am 1), .int 0, .int 0, .int 0, .int 0, .int 0, .int 0, .int 0, .int 0, .int 0, .int 0, .long 0, .int 0, .ref (am 2), .ref (am 3), .ref (am 4), .ref (am 5), .ref (am 6), .ref (am 7), .ref (am 8), .ref (am 9), .ref (am 10), .ref (am 11), .int 1, .int (-1), .ref (am 12), .ref (am 13), .ref (am 14), .int 0, .ref (am 15), .ref (am 16), .int 0, .int 0, .int 0, .ref (am 17), .int 0, .int 0, .ref (am 18), .ref (am 19), .int 0, .int 0, .ref (am 20), .int 0, .int 0, .int 0, .int 0])), (am 2, .inl (cy 0, 575, .inl (mi 2))), (am 5, .inl (cy 0, 1408, .inl g_2))] H := hP
      have hD : va_D A [(am 0, .inr (12, [.int 0, .ref (am 1), .int 0, .int 0, .int 0, .int 0, .int 0, .int 0, .int 0, .int 0, .int 0, .int 0, .long 0, .int 0, .ref (am 2), .ref (am 3), .ref (am 4), .ref (am 5), .ref (am 6), .ref (am 7), .ref (am 8), .ref (am 9), .ref (am 10), .ref (am 11), .int 1, .int (-1), .ref (am 12), .ref (am 13), .ref (am 14), .int 0, .ref (am 15), .ref (am 16), .int 0, .int 0, .int 0, .ref (am 17), .int 0, .int 0, .ref (am 18), .ref (am 19), .int 0, .int 0, .ref (am 20), .int 0, .int 0, .int 0, .int 0])), (am 2, .inl (cy 0, 575, .inl (mi 2))), (am 5, .inl (cy 0, 1408, .inl g_2))] := hD
      rw [hQ9]
      exact re_v g_2 hx hb hr hlocks trivial (hP.sub [0, 1, 2] rfl) (hD.sub [0, 1, 2] rfl rfl) hS dX11_snap_100
    | succ n1_ ih1 =>
      intro i1 g_2  hn1 H locs hP hD hS ls hl
      refine lv_iload_n hx hb dX11_snap_52 rfl (lv_at hl 1 rfl) ?_
      refine lv_sipush (v := 176) hx hb dX11_snap_53 (by decide) ?_
      refine lv_icmp_ge (tgt := 90) hx hb dX11_snap_56 (by decide) (fun c9 => absurd c9 (nI_ge (a := i1) (b := 176) (by omega) (by omega))) (fun _ => ?_)
      refine lv_aload_n hx hb dX11_snap_59 rfl (lv_at hl 0 rfl) ?_
      refine gf_X11_107 hx hb hts hown hK hP 0 rfl rfl dX11_snap_60 ?_
      refine lv_sipush (v := 176) hx hb dX11_snap_63 (by decide) ?_
      refine lv_aload_n hx hb dX11_snap_66 rfl (lv_at hl 0 rfl) ?_
      refine gf_X11_225 hx hb hts hown hK hP 0 rfl rfl dX11_snap_67 ?_
      refine lv_imul hx hb dX11_snap_70 ?_
      refine as_i 0 (by decide) ?_
      refine lv_iload_n hx hb dX11_snap_71 rfl (lv_at hl 1 rfl) ?_
      refine lv_iadd hx hb dX11_snap_72 ?_
      refine as_i (nI (0 + i1)) (nI_add 0 i1) ?_
      refine lv_aload_n hx hb dX11_snap_73 rfl (lv_at hl 0 rfl) ?_
      refine gf_X11_98 hx hb hts hown hK hP 0 rfl rfl dX11_snap_74 ?_
      refine lv_sipush (v := 157) hx hb dX11_snap_77 (by decide) ?_
      refine lv_iload_n hx hb dX11_snap_80 rfl (lv_at hl 1 rfl) ?_
      refine lv_iadd hx hb dX11_snap_81 ?_
      refine as_i (nI (157 + i1)) (nI_add 157 i1) ?_
      refine va_iald hx hb hK hP 1 0 rfl rfl (vp_in_nI (n := (157 + i1)) (N := 575) (by omega) (by omega)) dX11_snap_82 ?_
      refine as_i ((mi 2) (157 + i1)) (congrArg (mi 2) (nI_clamp (n := (157 + i1)) (by omega))) ?_
      refine va_iast hx hb hK hP hD hS 2 0 rfl rfl (vp_in_nI (n := (0 + i1)) (N := 1408) (by omega) (by omega)) dX11_snap_83 (fun H locs hP hD hS => ?_)
      obtain ⟨f_3, ef_3⟩ : ∃ z : Nat → Int32, z = upd g_2 (Int32.toNatClampNeg (nI (0 + i1))) ((mi 2) (157 + i1)) := ⟨_, rfl⟩
      have hP : va_P (dC, dI) vwCl [(am 0, .inr (12, [.int 0, .ref (am 1), .int 0, .int 0, .int 0, .int 0, .int 0, .int 0, .int 0, .int 0, .int 0, .int 0, .long 0, .int 0, .ref (am 2), .ref (am 3), .ref (am 4), .ref (am 5), .ref (am 6), .ref (am 7), .ref (am 8), .ref (am 9), .ref (am 10), .ref (am 11), .int 0, .int (-1), .ref (am 12), .ref (am 13), .ref (am 14), .int 0, .ref (am 15), .ref (am 16), .int 0, .int 0, .int 0, .ref (am 17), .int 0, .int 0, .ref (am 18), .ref (am 19), .int 0, .int 0, .ref (am 20), .int 0, .int 0, .int 0, .int 0])), (am 2, .inl (cy 0, 575, .inl (mi 2))), (am 5, .inl (cy 0, 1408, .inl f_3))] H := by rw [ef_3]; exact hP
      have hD : va_D A [(am 0, .inr (12, [.int 0, .ref (am 1), .int 0, .int 0, .int 0, .int 0, .int 0, .int 0, .int 0, .int 0, .int 0, .int 0, .long 0, .int 0, .ref (am 2), .ref (am 3), .ref (am 4), .ref (am 5), .ref (am 6), .ref (am 7), .ref (am 8), .ref (am 9), .ref (am 10), .ref (am 11), .int 0, .int (-1), .ref (am 12), .ref (am 13), .ref (am 14), .int 0, .ref (am 15), .ref (am 16), .int 0, .int 0, .int 0, .ref (am 17), .int 0, .int 0, .ref (am 18), .ref (am 19), .int 0, .int 0, .ref (am 20), .int 0, .int 0, .int 0, .int 0])), (am 2, .inl (cy 0, 575, .inl (mi 2))), (am 5, .inl (cy 0, 1408, .inl f_3))] := by rw [ef_3]; exact hD
      rw [(nI_clamp (n := (0 + i1)) (by omega))] at ef_3
      refine lv_iinc (v := nI (i1 + 1)) (lv' := [(1, .int (nI (i1 + 1))), (0, .ref (am 0))]) hx hb dX11_snap_84 hl (k := 1) rfl (nI_add i1 1) (by decide) rfl (fun ls hl => ?_)
      refine lv_goto (tgt := 52) hx hb dX11_snap_87 (by decide) ?_
      exact ih1 (i1 + 1) f_3  (by omega) _ _ (hP.sub [0, 1, 2] rfl) (hD.sub [0, 1, 2] rfl rfl) hS ls (lv_sub hl [1, 0] rfl)
  exact loop1 176 0 (mi 5)  (by omega) _ _ hP hD hS ls (lv_sub hl [1, 0] rfl)
abbrev cX11_least : ByteArray := prog_13_method_10_code
def yX11_least : MethodName := ⟨RX11, "least", "(II)I"⟩
theorem t1849 : Cond.code yX11_least cX11_least 2 (some .int) ∈ GW := gw_mem 1963 (by decide +kernel) (by decide +kernel)
theorem dX11_least_0 : decode cX11_least 0 = .ok (.iload_n 0, 1) := by decide +kernel
theorem dX11_least_1 : decode cX11_least 1 = .ok (.iload_n 1, 1) := by decide +kernel
theorem dX11_least_2 : decode cX11_least 2 = .ok (.if_icmp .ge 7, 3) := by decide +kernel
theorem dX11_least_5 : decode cX11_least 5 = .ok (.iload_n 0, 1) := by decide +kernel
theorem dX11_least_6 : decode cX11_least 6 = .ok (.goto 4, 3) := by decide +kernel
theorem dX11_least_10 : decode cX11_least 10 = .ok (.ireturn, 1) := by decide +kernel
set_option maxHeartbeats 4000000 in
set_option maxRecDepth 100000 in
theorem m_least (l : Launch) (dC : Nat → ClassId) (dI : Nat → Nat → Nat) (cy : Nat → ClassId) (K : Nat) (hK9 : K < 200) : Met l yX11_least (wl yX11_least cX11_least 2 (some .int)) ({ frames := 0, cells := 0, slots := 0, locals := 0 }) (Pr (dC, dI) vwCl cy [] [.int (nI K), .int 200]) (Ri (fun r => r = nI K)) 0 0 (fun _ => False) := by
  refine mr RX11 rfl (by decide +kernel) (Nat.le_of_ble_eq_true rfl) ?_
  intro p e s m below meth c hx hb hr hlocks av9 hav hts hown hml hK hP hS Q9 hQ9 ls hl
  have hl : lv_has ls 2 [(0, .int (nI K)), (1, .int 200)] := hl
  refine lv_iload_n hx hb dX11_least_0 rfl (lv_at hl 0 rfl) ?_
  refine lv_iload_n hx hb dX11_least_1 rfl (lv_at hl 1 rfl) ?_
  refine lv_icmp_ge (tgt := 9) hx hb dX11_least_2 (by decide) (fun c9 => absurd c9 (nI_ge (a := K) (b := 200) (by omega) (by decide))) (fun _ => ?_)
  refine lv_iload_n hx hb dX11_least_5 rfl (lv_at hl 0 rfl) ?_
  refine lv_goto (tgt := 10) hx hb dX11_least_6 (by decide) ?_
  rw [hQ9]
  exact rr_i hx hb hr hlocks rfl hS dX11_least_10
abbrev cX11_oneYear : ByteArray := prog_13_method_75_code
def yX11_oneYear : MethodName := ⟨RX11, "oneYear", "()V"⟩
theorem t1853 : Cond.code yX11_oneYear cX11_oneYear 2 none ∈ GW := gw_mem 1967 (by decide +kernel) (by decide +kernel)
abbrev O_m_oneYear (cy : Nat → ClassId) (am : Nat → Nat) (fn : Nat → Int32) (u : (Nat → Int32)) : va_W := [(am 0, .inr (12, [.int 0, .ref (am 1), .int 0, .int 0, .int 0, .int 0, .int 0, .int 0, .int 0, .int 0, .int 0, .int 0, .long 0, .int 0, .ref (am 2), .ref (am 3), .ref (am 4), .ref (am 5), .ref (am 6), .ref (am 7), .ref (am 8), .ref (am 9), .ref (am 10), .ref (am 11), .int 1, .int (-1), .ref (am 12), .ref (am 13), .ref (am 14), .int 0, .ref (am 15), .ref (am 16), .int 0, .int 0, .int 0, .ref (am 17), .int 0, .int 0, .ref (am 18), .ref (am 19), .int 0, .int 0, .ref (am 20), .int 0, .int 0, .int 0, .int 0])), (am 2, .inl (cy 0, 575, .inl u))]
theorem dX11_oneYear_0 : decode cX11_oneYear 0 = .ok (.iconst 0, 1) := by decide +kernel
theorem dX11_oneYear_1 : decode cX11_oneYear 1 = .ok (.istore_n 1, 1) := by decide +kernel
theorem dX11_oneYear_2 : decode cX11_oneYear 2 = .ok (.iload_n 1, 1) := by decide +kernel
theorem dX11_oneYear_3 : decode cX11_oneYear 3 = .ok (.aload_n 0, 1) := by decide +kernel
theorem dX11_oneYear_4 : decode cX11_oneYear 4 = .ok (.getfield 98, 3) := by decide +kernel
theorem dX11_oneYear_7 : decode cX11_oneYear 7 = .ok (.iconst 0, 1) := by decide +kernel
theorem dX11_oneYear_8 : decode cX11_oneYear 8 = .ok (.iaload, 1) := by decide +kernel
theorem dX11_oneYear_9 : decode cX11_oneYear 9 = .ok (.if_icmp .ge 28, 3) := by decide +kernel
theorem dX11_oneYear_37 : decode cX11_oneYear 37 = .ok (.aload_n 0, 1) := by decide +kernel
theorem dX11_oneYear_38 : decode cX11_oneYear 38 = .ok (.getfield 98, 3) := by decide +kernel
theorem dX11_oneYear_41 : decode cX11_oneYear 41 = .ok (.sipush 157, 3) := by decide +kernel
theorem dX11_oneYear_44 : decode cX11_oneYear 44 = .ok (.dup2, 1) := by decide +kernel
theorem dX11_oneYear_45 : decode cX11_oneYear 45 = .ok (.iaload, 1) := by decide +kernel
theorem dX11_oneYear_46 : decode cX11_oneYear 46 = .ok (.iconst 1, 1) := by decide +kernel
theorem dX11_oneYear_47 : decode cX11_oneYear 47 = .ok (.iadd, 1) := by decide +kernel
theorem dX11_oneYear_48 : decode cX11_oneYear 48 = .ok (.iastore, 1) := by decide +kernel
theorem dX11_oneYear_49 : decode cX11_oneYear 49 = .ok (.return_, 1) := by decide +kernel
set_option maxHeartbeats 4000000 in
set_option maxRecDepth 100000 in
theorem m_oneYear (l : Launch) (dC : Nat → ClassId) (dI : Nat → Nat → Nat) (cy : Nat → ClassId) (sz : Nat) (am : Nat → Nat) (fn : Nat → Int32) (h0 : fn 0 = 0) : Met l yX11_oneYear (wl yX11_oneYear cX11_oneYear 2 none) ({ frames := 1, cells := 0, slots := 0, locals := 64 }) (Pw (dC, dI) vwCl cy [(am 0, .inr (12, [.int 0, .ref (am 1), .int 0, .int 0, .int 0, .int 0, .int 0, .int 0, .int 0, .int 0, .int 0, .int 0, .long 0, .int 0, .ref (am 2), .ref (am 3), .ref (am 4), .ref (am 5), .ref (am 6), .ref (am 7), .ref (am 8), .ref (am 9), .ref (am 10), .ref (am 11), .int 1, .int (-1), .ref (am 12), .ref (am 13), .ref (am 14), .int 0, .ref (am 15), .ref (am 16), .int 0, .int 0, .int 0, .ref (am 17), .int 0, .int 0, .ref (am 18), .ref (am 19), .int 0, .int 0, .ref (am 20), .int 0, .int 0, .int 0, .int 0])), (am 2, .inl (cy 0, 575, .inl fn))] sz [.ref (am 0)] nE) (Qv (dC, dI) vwCl (fun (u : (Nat → Int32)) => u 0 = 0) (O_m_oneYear cy am fn) (va_A [(am 0, .inr (12, [.int 0, .ref (am 1), .int 0, .int 0, .int 0, .int 0, .int 0, .int 0, .int 0, .int 0, .int 0, .int 0, .long 0, .int 0, .ref (am 2), .ref (am 3), .ref (am 4), .ref (am 5), .ref (am 6), .ref (am 7), .ref (am 8), .ref (am 9), .ref (am 10), .ref (am 11), .int 1, .int (-1), .ref (am 12), .ref (am 13), .ref (am 14), .int 0, .ref (am 15), .ref (am 16), .int 0, .int 0, .int 0, .ref (am 17), .int 0, .int 0, .ref (am 18), .ref (am 19), .int 0, .int 0, .ref (am 20), .int 0, .int 0, .int 0, .int 0])), (am 2, .inl (cy 0, 575, .inl fn))] sz)) 0 0 (va_A [(am 0, .inr (12, [.int 0, .ref (am 1), .int 0, .int 0, .int 0, .int 0, .int 0, .int 0, .int 0, .int 0, .int 0, .int 0, .long 0, .int 0, .ref (am 2), .ref (am 3), .ref (am 4), .ref (am 5), .ref (am 6), .ref (am 7), .ref (am 8), .ref (am 9), .ref (am 10), .ref (am 11), .int 1, .int (-1), .ref (am 12), .ref (am 13), .ref (am 14), .int 0, .ref (am 15), .ref (am 16), .int 0, .int 0, .int 0, .ref (am 17), .int 0, .int 0, .ref (am 18), .ref (am 19), .int 0, .int 0, .ref (am 20), .int 0, .int 0, .int 0, .int 0])), (am 2, .inl (cy 0, 575, .inl fn))] sz) := by
  refine mw (Qc := Qv (dC, dI) vwCl (fun (u : (Nat → Int32)) => u 0 = 0) (O_m_oneYear cy am fn)) RX11 rfl (by decide +kernel) (Nat.le_of_ble_eq_true rfl) ?_
  intro p e s m below meth c A hx hb hr hlocks av9 hav hts hown hnm hml hK hP hD hA hS hE hAe Q9 hQ9 ls hl
  have hl : lv_has ls 2 [(0, .ref (am 0))] := hl
  refine lv_iconst (v := 0) hx hb dX11_oneYear_0 (by decide) ?_
  refine lv_istore_n (lv' := [(1, .int 0), (0, .ref (am 0))]) hx hb dX11_oneYear_1 rfl hl (by decide) rfl (fun ls hl => ?_)
  refine lv_iload_n hx hb dX11_oneYear_2 rfl (lv_at hl 0 rfl) ?_
  refine lv_aload_n hx hb dX11_oneYear_3 rfl (lv_at hl 1 rfl) ?_
  refine gf_X11_98 hx hb hts hown hK hP 0 rfl rfl dX11_oneYear_4 ?_
  refine lv_iconst (v := 0) hx hb dX11_oneYear_7 (by decide) ?_
  refine va_iald hx hb hK hP 1 0 rfl rfl (vp_in_nI (n := 0) (N := 575) (by decide) (by decide)) dX11_oneYear_8 ?_
  refine as_i 0 ((congrArg fn (show (0 : Int32).toNatClampNeg = 0 from rfl)).trans h0) ?_
  refine lv_icmp_ge (tgt := 37) hx hb dX11_oneYear_9 (by decide) (fun _ => ?_) (fun c9 => absurd (by decide) c9)
  refine lv_aload_n hx hb dX11_oneYear_37 rfl (lv_at hl 1 rfl) ?_
  refine gf_X11_98 hx hb hts hown hK hP 0 rfl rfl dX11_oneYear_38 ?_
  refine lv_sipush (v := 157) hx hb dX11_oneYear_41 (by decide) ?_
  refine lv_dup2_11 hx hb dX11_oneYear_44 rfl rfl ?_
  refine va_iald hx hb hK hP 1 0 rfl rfl (vp_in_nI (n := 157) (N := 575) (by decide) (by decide)) dX11_oneYear_45 ?_
  refine as_i (fn 157) (congrArg fn (show (157 : Int32).toNatClampNeg = 157 from rfl)) ?_
  refine lv_iconst (v := 1) hx hb dX11_oneYear_46 (by decide) ?_
  refine lv_iadd hx hb dX11_oneYear_47 ?_
  refine va_iast hx hb hK hP hD hS 1 0 rfl rfl (vp_in_nI (n := 157) (N := 575) (by decide) (by decide)) dX11_oneYear_48 (fun H locs hP hD hS => ?_)
  obtain ⟨f_1, ef_1⟩ : ∃ z : Nat → Int32, z = upd fn (Int32.toNatClampNeg 157) ((fn 157) + 1) := ⟨_, rfl⟩
  have hP : va_P (dC, dI) vwCl [(am 0, .inr (12, [.int 0, .ref (am 1), .int 0, .int 0, .int 0, .int 0, .int 0, .int 0, .int 0, .int 0, .int 0, .int 0, .long 0, .int 0, .ref (am 2), .ref (am 3), .ref (am 4), .ref (am 5), .ref (am 6), .ref (am 7), .ref (am 8), .ref (am 9), .ref (am 10), .ref (am 11), .int 1, .int (-1), .ref (am 12), .ref (am 13), .ref (am 14), .int 0, .ref (am 15), .ref (am 16), .int 0, .int 0, .int 0, .ref (am 17), .int 0, .int 0, .ref (am 18), .ref (am 19), .int 0, .int 0, .ref (am 20), .int 0, .int 0, .int 0, .int 0])), (am 2, .inl (cy 0, 575, .inl f_1))] H := by rw [ef_1]; exact hP
  have hD : va_D A [(am 0, .inr (12, [.int 0, .ref (am 1), .int 0, .int 0, .int 0, .int 0, .int 0, .int 0, .int 0, .int 0, .int 0, .int 0, .long 0, .int 0, .ref (am 2), .ref (am 3), .ref (am 4), .ref (am 5), .ref (am 6), .ref (am 7), .ref (am 8), .ref (am 9), .ref (am 10), .ref (am 11), .int 1, .int (-1), .ref (am 12), .ref (am 13), .ref (am 14), .int 0, .ref (am 15), .ref (am 16), .int 0, .int 0, .int 0, .ref (am 17), .int 0, .int 0, .ref (am 18), .ref (am 19), .int 0, .int 0, .ref (am 20), .int 0, .int 0, .int 0, .int 0])), (am 2, .inl (cy 0, 575, .inl f_1))] := by rw [ef_1]; exact hD
  rw [show (157 : Int32).toNatClampNeg = 157 from rfl] at ef_1
  rw [hQ9]
  exact re_v f_1 hx hb hr hlocks (by rw [ef_1, pk_un (by decide)]; exact h0) (hP.sub [0, 1] rfl) (hD.sub [0, 1] rfl rfl) hS dX11_oneYear_49
abbrev cX11_passYears : ByteArray := prog_13_method_76_code
def yX11_passYears : MethodName := ⟨RX11, "passYears", "(I)I"⟩
theorem t1846 : Cond.code yX11_passYears cX11_passYears 4 (some .int) ∈ GW := gw_mem 1960 (by decide +kernel) (by decide +kernel)
theorem dX11_passYears_0 : decode cX11_passYears 0 = .ok (.iload_n 1, 1) := by decide +kernel
theorem dX11_passYears_1 : decode cX11_passYears 1 = .ok (.sipush 200, 3) := by decide +kernel
theorem dX11_passYears_4 : decode cX11_passYears 4 = .ok (.aload_n 0, 1) := by decide +kernel
theorem dX11_passYears_5 : decode cX11_passYears 5 = .ok (.getfield 98, 3) := by decide +kernel
theorem dX11_passYears_8 : decode cX11_passYears 8 = .ok (.sipush 157, 3) := by decide +kernel
theorem dX11_passYears_11 : decode cX11_passYears 11 = .ok (.iaload, 1) := by decide +kernel
theorem dX11_passYears_12 : decode cX11_passYears 12 = .ok (.isub, 1) := by decide +kernel
theorem dX11_passYears_13 : decode cX11_passYears 13 = .ok (.invokestatic 288, 3) := by decide +kernel
theorem t1847 : Cond.methodLink RX11 288 yX11_least ∈ GW := gw_mem 1961 (by decide +kernel) (by decide +kernel)
theorem t1848 : Cond.static yX11_least ∈ GW := gw_mem 1962 (by decide +kernel) (by decide +kernel)
theorem cw_X11_288 {R : Room} {s : State} {args : Array Value} {rm : Room} {mc ms : Nat} (hts : ∀ w ∈ GW, w.before args s = true) (hrc : rm.cells = mc) (hrs : rm.slots = ms) (hR : rm.frames + 1 ≤ R.frames ∧ 8 + (2 + 11) + rm.locals ≤ R.locals) : CallB R s args RX11 288 yX11_least cX11_least 2 (some .int) (wl yX11_least cX11_least 2 (some .int)) rm mc ms 2 ∧ (Cond.static yX11_least).before args s = true := va_cwS 2 hts (gi_S t1847 t1848 t18 t1849) rfl hrc hrs (by decide +kernel) hR
theorem dX11_passYears_16 : decode cX11_passYears 16 = .ok (.istore_n 2, 1) := by decide +kernel
theorem dX11_passYears_17 : decode cX11_passYears 17 = .ok (.iconst 0, 1) := by decide +kernel
theorem dX11_passYears_18 : decode cX11_passYears 18 = .ok (.istore_n 3, 1) := by decide +kernel
theorem dX11_passYears_19 : decode cX11_passYears 19 = .ok (.iload_n 3, 1) := by decide +kernel
theorem dX11_passYears_20 : decode cX11_passYears 20 = .ok (.iload_n 2, 1) := by decide +kernel
theorem dX11_passYears_21 : decode cX11_passYears 21 = .ok (.if_icmp .ge 13, 3) := by decide +kernel
theorem dX11_passYears_34 : decode cX11_passYears 34 = .ok (.iload_n 2, 1) := by decide +kernel
theorem dX11_passYears_35 : decode cX11_passYears 35 = .ok (.ireturn, 1) := by decide +kernel
theorem dX11_passYears_24 : decode cX11_passYears 24 = .ok (.aload_n 0, 1) := by decide +kernel
theorem dX11_passYears_25 : decode cX11_passYears 25 = .ok (.invokevirtual 291, 3) := by decide +kernel
theorem t1850 : Cond.methodLink RX11 291 yX11_oneYear ∈ GW := gw_mem 1964 (by decide +kernel) (by decide +kernel)
theorem t1852 : Cond.instanceMethod yX11_oneYear ∈ GW := gw_mem 1966 (by decide +kernel) (by decide +kernel)
theorem s82 : Cond.selects RX11 yX11_oneYear yX11_oneYear ∈ GW := gw_mem 82 (by decide +kernel) (by decide +kernel)
theorem cw_X11_291 {R : Room} {s : State} {args : Array Value} {rm : Room} {mc ms : Nat} (hts : ∀ w ∈ GW, w.before args s = true) (hrc : rm.cells = mc) (hrs : rm.slots = ms) (hR : rm.frames + 1 ≤ R.frames ∧ 8 + (2 + 11) + rm.locals ≤ R.locals) : CallW R s args RX11 RX11 291 yX11_oneYear cX11_oneYear 2 none (wl yX11_oneYear cX11_oneYear 2 none) rm mc ms 0 := cwV 0 hts (gi_V t1850 t1852 s82 t18 t1853) rfl hrc hrs (by decide +kernel) hR
theorem dX11_passYears_28 : decode cX11_passYears 28 = .ok (.iinc 3 1, 3) := by decide +kernel
theorem dX11_passYears_31 : decode cX11_passYears 31 = .ok (.goto (-12), 3) := by decide +kernel
set_option maxHeartbeats 4000000 in
set_option maxRecDepth 100000 in
theorem m_passYears (l : Launch) (dC : Nat → ClassId) (dI : Nat → Nat → Nat) (cy : Nat → ClassId) (sz : Nat) (am : Nat → Nat) (K : Nat) (fn : Nat → Int32) (hK9 : K ≤ 30) (h0 : fn 0 = 0) (h1 : fn 157 = 0) : Met l yX11_passYears (wl yX11_passYears cX11_passYears 4 (some .int)) ({ frames := 2, cells := 0, slots := 0, locals := 128 }) (Pw (dC, dI) vwCl cy [(am 0, .inr (12, [.int 0, .ref (am 1), .int 0, .int 0, .int 0, .int 0, .int 0, .int 0, .int 0, .int 0, .int 0, .int 0, .long 0, .int 0, .ref (am 2), .ref (am 3), .ref (am 4), .ref (am 5), .ref (am 6), .ref (am 7), .ref (am 8), .ref (am 9), .ref (am 10), .ref (am 11), .int 1, .int (-1), .ref (am 12), .ref (am 13), .ref (am 14), .int 0, .ref (am 15), .ref (am 16), .int 0, .int 0, .int 0, .ref (am 17), .int 0, .int 0, .ref (am 18), .ref (am 19), .int 0, .int 0, .ref (am 20), .int 0, .int 0, .int 0, .int 0])), (am 2, .inl (cy 0, 575, .inl fn))] sz [.ref (am 0), .int (nI K)] nE) (Qi (dC, dI) vwCl (fun (r : Int32) (u : Unit) => r = nI K) (fun (u : Unit) => []) (va_A [(am 0, .inr (12, [.int 0, .ref (am 1), .int 0, .int 0, .int 0, .int 0, .int 0, .int 0, .int 0, .int 0, .int 0, .int 0, .long 0, .int 0, .ref (am 2), .ref (am 3), .ref (am 4), .ref (am 5), .ref (am 6), .ref (am 7), .ref (am 8), .ref (am 9), .ref (am 10), .ref (am 11), .int 1, .int (-1), .ref (am 12), .ref (am 13), .ref (am 14), .int 0, .ref (am 15), .ref (am 16), .int 0, .int 0, .int 0, .ref (am 17), .int 0, .int 0, .ref (am 18), .ref (am 19), .int 0, .int 0, .ref (am 20), .int 0, .int 0, .int 0, .int 0])), (am 2, .inl (cy 0, 575, .inl fn))] sz)) 0 0 (va_A [(am 0, .inr (12, [.int 0, .ref (am 1), .int 0, .int 0, .int 0, .int 0, .int 0, .int 0, .int 0, .int 0, .int 0, .int 0, .long 0, .int 0, .ref (am 2), .ref (am 3), .ref (am 4), .ref (am 5), .ref (am 6), .ref (am 7), .ref (am 8), .ref (am 9), .ref (am 10), .ref (am 11), .int 1, .int (-1), .ref (am 12), .ref (am 13), .ref (am 14), .int 0, .ref (am 15), .ref (am 16), .int 0, .int 0, .int 0, .ref (am 17), .int 0, .int 0, .ref (am 18), .ref (am 19), .int 0, .int 0, .ref (am 20), .int 0, .int 0, .int 0, .int 0])), (am 2, .inl (cy 0, 575, .inl fn))] sz) := by
  refine mw (Qc := Qi (dC, dI) vwCl (fun (r : Int32) (u : Unit) => r = nI K) (fun (u : Unit) => [])) RX11 rfl (by decide +kernel) (Nat.le_of_ble_eq_true rfl) ?_
  intro p e s m below meth c A hx hb hr hlocks av9 hav hts hown hnm hml hK hP hD hA hS hE hAe Q9 hQ9 ls hl
  have hl : lv_has ls 4 [(0, .ref (am 0)), (1, .int (nI K))] := hl
  refine lv_iload_n hx hb dX11_passYears_0 rfl (lv_at hl 1 rfl) ?_
  refine lv_sipush (v := 200) hx hb dX11_passYears_1 (by decide) ?_
  refine lv_aload_n hx hb dX11_passYears_4 rfl (lv_at hl 0 rfl) ?_
  refine gf_X11_98 hx hb hts hown hK hP 0 rfl rfl dX11_passYears_5 ?_
  refine lv_sipush (v := 157) hx hb dX11_passYears_8 (by decide) ?_
  refine va_iald hx hb hK hP 1 0 rfl rfl (vp_in_nI (n := 157) (N := 575) (by decide) (by decide)) dX11_passYears_11 ?_
  refine as_i 0 ((congrArg fn (show (157 : Int32).toNatClampNeg = 157 from rfl)).trans h1) ?_
  refine lv_isub hx hb dX11_passYears_12 ?_
  refine as_i 200 (by decide) ?_
  refine jr_i (rSr (As := [.int (nI K), .int 200]) (rest := []) ⟨hx, hb, hml, hown, hts⟩ (m_least l dC dI cy K (by omega)) (cw_X11_288 hts rfl rfl ⟨Nat.le_of_ble_eq_true rfl, Nat.le_of_ble_eq_true rfl⟩) hP hK [] rfl rfl hl.1 rfl (Nat.le_of_ble_eq_true rfl) dX11_passYears_13 ⟨Nat.le_of_ble_eq_true rfl, Nat.le_of_ble_eq_true rfl⟩) hP hS (fun r_1 H locs hp_2 hP hS => ?_)
  refine as_i (nI K) hp_2 ?_
  refine lv_istore_n (lv' := [(2, .int (nI K)), (0, .ref (am 0)), (1, .int (nI K))]) hx hb dX11_passYears_16 rfl hl (by decide) rfl (fun ls hl => ?_)
  refine lv_iconst (v := 0) hx hb dX11_passYears_17 (by decide) ?_
  refine lv_istore_n (lv' := [(3, .int 0), (2, .int (nI K)), (0, .ref (am 0)), (1, .int (nI K))]) hx hb dX11_passYears_18 rfl hl (by decide) rfl (fun ls hl => ?_)
  have loop3 : ∀ (n3_ i3 : Nat) (g_4 : Nat → Int32) (hi : g_4 0 = 0), i3 + n3_ = K → ∀ (H : Heap) (locs : List Loc), va_P (dC, dI) vwCl [(am 0, .inr (12, [.int 0, .ref (am 1), .int 0, .int 0, .int 0, .int 0, .int 0, .int 0, .int 0, .int 0, .int 0, .int 0, .long 0, .int 0, .ref (am 2), .ref (am 3), .ref (am 4), .ref (am 5), .ref (am 6), .ref (am 7), .ref (am 8), .ref (am 9), .ref (am 10), .ref (am 11), .int 1, .int (-1), .ref (am 12), .ref (am 13), .ref (am 14), .int 0, .ref (am 15), .ref (am 16), .int 0, .int 0, .int 0, .ref (am 17), .int 0, .int 0, .ref (am 18), .ref (am 19), .int 0, .int 0, .ref (am 20), .int 0, .int 0, .int 0, .int 0])), (am 2, .inl (cy 0, 575, .inl g_4))] H → va_D A [(am 0, .inr (12, [.int 0, .ref (am 1), .int 0, .int 0, .int 0, .int 0, .int 0, .int 0, .int 0, .int 0, .int 0, .int 0, .long 0, .int 0, .ref (am 2), .ref (am 3), .ref (am 4), .ref (am 5), .ref (am 6), .ref (am 7), .ref (am 8), .ref (am 9), .ref (am 10), .ref (am 11), .int 1, .int (-1), .ref (am 12), .ref (am 13), .ref (am 14), .int 0, .ref (am 15), .ref (am 16), .int 0, .int 0, .int 0, .ref (am 17), .int 0, .int 0, .ref (am 18), .ref (am 19), .int 0, .int 0, .ref (am 20), .int 0, .int 0, .int 0, .int 0])), (am 2, .inl (cy 0, 575, .inl g_4))] → va_S A s.heap H locs → ∀ ls : Array Slot, lv_has ls 4 [(0, .ref (am 0)), (2, .int (nI K)), (3, .int (nI i3))] → W p l e ({ frames := 2, cells := 0, slots := 0, locals := 128 }) s m av9 below meth c H locs 0 0 Q9 (F0 m 19 ls []) := by
    intro n3_
    induction n3_ with
    | zero =>
      intro i3 g_4 hi hn3 H locs hP hD hS ls hl
      have ei3 : i3 = K := by omega
      have hl : lv_has ls 4 [(0, .ref (am 0)), (2, .int (nI K)), (3, .int (nI i3))] := hl
      refine lv_iload_n hx hb dX11_passYears_19 rfl (lv_at hl 2 rfl) ?_
      refine lv_iload_n hx hb dX11_passYears_20 rfl (lv_at hl 1 rfl) ?_
      refine lv_icmp_ge (tgt := 34) hx hb dX11_passYears_21 (by decide) (fun _ => ?_) (fun c9 => absurd (nI_le (a := K) (b := i3) (by omega) (by omega)) c9)
      refine lv_iload_n hx hb dX11_passYears_34 rfl (lv_at hl 1 rfl) ?_
      rw [hQ9]
      exact re_i () hx hb hr hlocks rfl (hP.sub [] rfl) (hD.sub [] rfl rfl) hS dX11_passYears_35
    | succ n3_ ih3 =>
      intro i3 g_4 hi hn3 H locs hP hD hS ls hl
      refine lv_iload_n hx hb dX11_passYears_19 rfl (lv_at hl 2 rfl) ?_
      refine lv_iload_n hx hb dX11_passYears_20 rfl (lv_at hl 1 rfl) ?_
      refine lv_icmp_ge (tgt := 34) hx hb dX11_passYears_21 (by decide) (fun c9 => absurd c9 (nI_ge (a := i3) (b := K) (by omega) (by omega))) (fun _ => ?_)
      refine lv_aload_n hx hb dX11_passYears_24 rfl (lv_at hl 0 rfl) ?_
      refine jn_v (wr := []) (rV (As := []) (rest := []) (ci := 12) ⟨hx, hb, hml, hown, hts⟩ (m_oneYear l dC dI cy _ am g_4 hi) (cw_X11_291 hts rfl rfl ⟨Nat.le_of_ble_eq_true rfl, Nat.le_of_ble_eq_true rfl⟩) hP hD hK [0, 1] rfl rfl rfl rfl bl0 e0 rfl hl.1 rfl (Nat.le_of_ble_eq_true rfl) dX11_passYears_25 ⟨Nat.le_of_ble_eq_true rfl, Nat.le_of_ble_eq_true rfl⟩) hP hD hS hA [0, 1] [] rfl rfl rfl (by decide) (fun u_7 H locs hp_6 hP hD hS => ?_)
      obtain ⟨on_8, rfl⟩ : ∃ z, z = u_7 := ⟨_, rfl⟩
      have hp_6 : on_8 0 = 0 := hp_6
      have hP : va_P (dC, dI) vwCl [(am 0, .inr (12, [.int 0, .ref (am 1), .int 0, .int 0, .int 0, .int 0, .int 0, .int 0, .int 0, .int 0, .int 0, .int 0, .long 0, .int 0, .ref (am 2), .ref (am 3), .ref (am 4), .ref (am 5), .ref (am 6), .ref (am 7), .ref (am 8), .ref (am 9), .ref (am 10), .ref (am 11), .int 1, .int (-1), .ref (am 12), .ref (am 13), .ref (am 14), .int 0, .ref (am 15), .ref (am 16), .int 0, .int 0, .int 0, .ref (am 17), .int 0, .int 0, .ref (am 18), .ref (am 19), .int 0, .int 0, .ref (am 20), .int 0, .int 0, .int 0, .int 0])), (am 2, .inl (cy 0, 575, .inl on_8))] H := hP
      have hD : va_D A [(am 0, .inr (12, [.int 0, .ref (am 1), .int 0, .int 0, .int 0, .int 0, .int 0, .int 0, .int 0, .int 0, .int 0, .int 0, .long 0, .int 0, .ref (am 2), .ref (am 3), .ref (am 4), .ref (am 5), .ref (am 6), .ref (am 7), .ref (am 8), .ref (am 9), .ref (am 10), .ref (am 11), .int 1, .int (-1), .ref (am 12), .ref (am 13), .ref (am 14), .int 0, .ref (am 15), .ref (am 16), .int 0, .int 0, .int 0, .ref (am 17), .int 0, .int 0, .ref (am 18), .ref (am 19), .int 0, .int 0, .ref (am 20), .int 0, .int 0, .int 0, .int 0])), (am 2, .inl (cy 0, 575, .inl on_8))] := hD
      refine lv_iinc (v := nI (i3 + 1)) (lv' := [(3, .int (nI (i3 + 1))), (0, .ref (am 0)), (2, .int (nI K))]) hx hb dX11_passYears_28 hl (k := 2) rfl (nI_add i3 1) (by decide) rfl (fun ls hl => ?_)
      refine lv_goto (tgt := 19) hx hb dX11_passYears_31 (by decide) ?_
      exact ih3 (i3 + 1) on_8 hp_6 (by omega) _ _ (hP.sub [0, 1] rfl) (hD.sub [0, 1] rfl rfl) hS ls (lv_sub hl [1, 2, 0] rfl)
  exact loop3 K 0 fn h0 (by omega) _ _ hP hD hS ls (lv_sub hl [2, 1, 0] rfl)
abbrev cX11_years : ByteArray := prog_13_method_77_code
def yX11_years : MethodName := ⟨RX11, "years", "(I)I"⟩
theorem t1842 : Cond.code yX11_years cX11_years 2 (some .int) ∈ GW := gw_mem 1956 (by decide +kernel) (by decide +kernel)
theorem dX11_years_0 : decode cX11_years 0 = .ok (.aload_n 0, 1) := by decide +kernel
theorem dX11_years_1 : decode cX11_years 1 = .ok (.iconst 0, 1) := by decide +kernel
theorem dX11_years_2 : decode cX11_years 2 = .ok (.putfield 1, 3) := by decide +kernel
theorem dX11_years_5 : decode cX11_years 5 = .ok (.iload_n 1, 1) := by decide +kernel
theorem dX11_years_6 : decode cX11_years 6 = .ok (.iconst 1, 1) := by decide +kernel
theorem dX11_years_7 : decode cX11_years 7 = .ok (.bipush 30, 2) := by decide +kernel
theorem dX11_years_9 : decode cX11_years 9 = .ok (.invokestatic 75, 3) := by decide +kernel
theorem dX11_years_12 : decode cX11_years 12 = .ok (.ifCond .ne 5, 3) := by decide +kernel
theorem dX11_years_17 : decode cX11_years 17 = .ok (.aload_n 0, 1) := by decide +kernel
theorem dX11_years_18 : decode cX11_years 18 = .ok (.getfield 98, 3) := by decide +kernel
theorem dX11_years_21 : decode cX11_years 21 = .ok (.sipush 157, 3) := by decide +kernel
theorem dX11_years_24 : decode cX11_years 24 = .ok (.iaload, 1) := by decide +kernel
theorem dX11_years_25 : decode cX11_years 25 = .ok (.sipush 200, 3) := by decide +kernel
theorem dX11_years_28 : decode cX11_years 28 = .ok (.if_icmp .ne 5, 3) := by decide +kernel
theorem dX11_years_33 : decode cX11_years 33 = .ok (.aload_n 0, 1) := by decide +kernel
theorem dX11_years_34 : decode cX11_years 34 = .ok (.invokevirtual 278, 3) := by decide +kernel
theorem t1803 : Cond.methodLink RX11 278 yX11_snap ∈ GW := gw_mem 1917 (by decide +kernel) (by decide +kernel)
theorem t1805 : Cond.instanceMethod yX11_snap ∈ GW := gw_mem 1919 (by decide +kernel) (by decide +kernel)
theorem s77 : Cond.selects RX11 yX11_snap yX11_snap ∈ GW := gw_mem 77 (by decide +kernel) (by decide +kernel)
theorem cw_X11_278 {R : Room} {s : State} {args : Array Value} {rm : Room} {mc ms : Nat} (hts : ∀ w ∈ GW, w.before args s = true) (hrc : rm.cells = mc) (hrs : rm.slots = ms) (hR : rm.frames + 1 ≤ R.frames ∧ 8 + (2 + 11) + rm.locals ≤ R.locals) : CallW R s args RX11 RX11 278 yX11_snap cX11_snap 2 none (wl yX11_snap cX11_snap 2 none) rm mc ms 0 := cwV 0 hts (gi_V t1803 t1805 s77 t18 t1806) rfl hrc hrs (by decide +kernel) hR
theorem dX11_years_37 : decode cX11_years 37 = .ok (.aload_n 0, 1) := by decide +kernel
theorem dX11_years_38 : decode cX11_years 38 = .ok (.iload_n 1, 1) := by decide +kernel
theorem dX11_years_39 : decode cX11_years 39 = .ok (.invokevirtual 294, 3) := by decide +kernel
theorem t1843 : Cond.methodLink RX11 294 yX11_passYears ∈ GW := gw_mem 1957 (by decide +kernel) (by decide +kernel)
theorem t1845 : Cond.instanceMethod yX11_passYears ∈ GW := gw_mem 1959 (by decide +kernel) (by decide +kernel)
theorem s81 : Cond.selects RX11 yX11_passYears yX11_passYears ∈ GW := gw_mem 81 (by decide +kernel) (by decide +kernel)
theorem cw_X11_294 {R : Room} {s : State} {args : Array Value} {rm : Room} {mc ms : Nat} (hts : ∀ w ∈ GW, w.before args s = true) (hrc : rm.cells = mc) (hrs : rm.slots = ms) (hR : rm.frames + 1 ≤ R.frames ∧ 8 + (4 + 11) + rm.locals ≤ R.locals) : CallW R s args RX11 RX11 294 yX11_passYears cX11_passYears 4 (some .int) (wl yX11_passYears cX11_passYears 4 (some .int)) rm mc ms 1 := cwV 1 hts (gi_V t1843 t1845 s81 t18 t1846) rfl hrc hrs (by decide +kernel) hR
theorem dX11_years_42 : decode cX11_years 42 = .ok (.ireturn, 1) := by decide +kernel
theorem dX11_years_15 : decode cX11_years 15 = .ok (.iconst (-1), 1) := by decide +kernel
theorem dX11_years_16 : decode cX11_years 16 = .ok (.ireturn, 1) := by decide +kernel
set_option maxHeartbeats 4000000 in
set_option maxRecDepth 100000 in
theorem m_years (l : Launch) (dC : Nat → ClassId) (dI : Nat → Nat → Nat) (cy : Nat → ClassId) (sz : Nat) (am : Nat → Nat) (mi : Nat → Nat → Int32) (n0 : Int32) (hn : NowOk (mi 2)) : Met l yX11_years (wl yX11_years cX11_years 2 (some .int)) ({ frames := 3, cells := 0, slots := 0, locals := 192 }) (Pw (dC, dI) vwCl cy [(am 0, .inr (12, [.int 0, .ref (am 1), .int 0, .int 0, .int 0, .int 0, .int 0, .int 0, .int 0, .int 0, .int 0, .int 0, .long 0, .int 0, .ref (am 2), .ref (am 3), .ref (am 4), .ref (am 5), .ref (am 6), .ref (am 7), .ref (am 8), .ref (am 9), .ref (am 10), .ref (am 11), .int 0, .int (-1), .ref (am 12), .ref (am 13), .ref (am 14), .int 0, .ref (am 15), .ref (am 16), .int 0, .int 0, .int 0, .ref (am 17), .int 0, .int 0, .ref (am 18), .ref (am 19), .int 0, .int 0, .ref (am 20), .int 0, .int 0, .int 0, .int 0])), (am 2, .inl (cy 0, 575, .inl (mi 2))), (am 5, .inl (cy 0, 1408, .inl (mi 5)))] sz [.ref (am 0), .int n0] nE) (Qi (dC, dI) vwCl (fun (r : Int32) (u : Unit) => r = yrF n0) (fun (u : Unit) => []) (va_A [(am 0, .inr (12, [.int 0, .ref (am 1), .int 0, .int 0, .int 0, .int 0, .int 0, .int 0, .int 0, .int 0, .int 0, .int 0, .long 0, .int 0, .ref (am 2), .ref (am 3), .ref (am 4), .ref (am 5), .ref (am 6), .ref (am 7), .ref (am 8), .ref (am 9), .ref (am 10), .ref (am 11), .int 0, .int (-1), .ref (am 12), .ref (am 13), .ref (am 14), .int 0, .ref (am 15), .ref (am 16), .int 0, .int 0, .int 0, .ref (am 17), .int 0, .int 0, .ref (am 18), .ref (am 19), .int 0, .int 0, .ref (am 20), .int 0, .int 0, .int 0, .int 0])), (am 2, .inl (cy 0, 575, .inl (mi 2))), (am 5, .inl (cy 0, 1408, .inl (mi 5)))] sz)) 0 0 (va_A [(am 0, .inr (12, [.int 0, .ref (am 1), .int 0, .int 0, .int 0, .int 0, .int 0, .int 0, .int 0, .int 0, .int 0, .int 0, .long 0, .int 0, .ref (am 2), .ref (am 3), .ref (am 4), .ref (am 5), .ref (am 6), .ref (am 7), .ref (am 8), .ref (am 9), .ref (am 10), .ref (am 11), .int 0, .int (-1), .ref (am 12), .ref (am 13), .ref (am 14), .int 0, .ref (am 15), .ref (am 16), .int 0, .int 0, .int 0, .ref (am 17), .int 0, .int 0, .ref (am 18), .ref (am 19), .int 0, .int 0, .ref (am 20), .int 0, .int 0, .int 0, .int 0])), (am 2, .inl (cy 0, 575, .inl (mi 2))), (am 5, .inl (cy 0, 1408, .inl (mi 5)))] sz) := by
  refine mw (Qc := Qi (dC, dI) vwCl (fun (r : Int32) (u : Unit) => r = yrF n0) (fun (u : Unit) => [])) RX11 rfl (by decide +kernel) (Nat.le_of_ble_eq_true rfl) ?_
  intro p e s m below meth c A hx hb hr hlocks av9 hav hts hown hnm hml hK hP hD hA hS hE hAe Q9 hQ9 ls hl
  have hl : lv_has ls 2 [(0, .ref (am 0)), (1, .int n0)] := hl
  refine lv_aload_n hx hb dX11_years_0 rfl (lv_at hl 0 rfl) ?_
  refine lv_iconst (v := 0) hx hb dX11_years_1 (by decide) ?_
  refine pf_X11_1 hx hb hts hown hK hP hD hS 0 rfl rfl rfl (Nat.le_of_ble_eq_true rfl) dX11_years_2 (fun H locs hP hD hS => ?_)
  have hP : va_P (dC, dI) vwCl [(am 0, .inr (12, [.int 0, .ref (am 1), .int 0, .int 0, .int 0, .int 0, .int 0, .int 0, .int 0, .int 0, .int 0, .int 0, .long 0, .int 0, .ref (am 2), .ref (am 3), .ref (am 4), .ref (am 5), .ref (am 6), .ref (am 7), .ref (am 8), .ref (am 9), .ref (am 10), .ref (am 11), .int 0, .int (-1), .ref (am 12), .ref (am 13), .ref (am 14), .int 0, .ref (am 15), .ref (am 16), .int 0, .int 0, .int 0, .ref (am 17), .int 0, .int 0, .ref (am 18), .ref (am 19), .int 0, .int 0, .ref (am 20), .int 0, .int 0, .int 0, .int 0])), (am 2, .inl (cy 0, 575, .inl (mi 2))), (am 5, .inl (cy 0, 1408, .inl (mi 5)))] H := hP
  have hD : va_D A [(am 0, .inr (12, [.int 0, .ref (am 1), .int 0, .int 0, .int 0, .int 0, .int 0, .int 0, .int 0, .int 0, .int 0, .int 0, .long 0, .int 0, .ref (am 2), .ref (am 3), .ref (am 4), .ref (am 5), .ref (am 6), .ref (am 7), .ref (am 8), .ref (am 9), .ref (am 10), .ref (am 11), .int 0, .int (-1), .ref (am 12), .ref (am 13), .ref (am 14), .int 0, .ref (am 15), .ref (am 16), .int 0, .int 0, .int 0, .ref (am 17), .int 0, .int 0, .ref (am 18), .ref (am 19), .int 0, .int 0, .ref (am 20), .int 0, .int 0, .int 0, .int 0])), (am 2, .inl (cy 0, 575, .inl (mi 2))), (am 5, .inl (cy 0, 1408, .inl (mi 5)))] := hD
  refine lv_iload_n hx hb dX11_years_5 rfl (lv_at hl 1 rfl) ?_
  refine lv_iconst (v := 1) hx hb dX11_years_6 (by decide) ?_
  refine lv_bipush (v := 30) hx hb dX11_years_7 (by decide) ?_
  refine jr_i (rSr (As := [.int n0, .int 1, .int 30]) (rest := []) ⟨hx, hb, hml, hown, hts⟩ (m_isIn l dC dI cy n0 1 30 ) (cw_X11_75 hts rfl rfl ⟨Nat.le_of_ble_eq_true rfl, Nat.le_of_ble_eq_true rfl⟩) hP hK [] rfl rfl hl.1 rfl (Nat.le_of_ble_eq_true rfl) dX11_years_9 ⟨Nat.le_of_ble_eq_true rfl, Nat.le_of_ble_eq_true rfl⟩) hP hS (fun r_1 H locs hp_2 hP hS => ?_)
  refine as_i (inF n0 1 30) hp_2 ?_
  refine lv_if_ne (tgt := 17) hx hb dX11_years_12 (by decide) (fun c_3 => ?_) (fun c_3 => ?_)
  · skip
    obtain ⟨K9, hK9, rfl⟩ := in_yr c_3
    refine lv_aload_n hx hb dX11_years_17 rfl (lv_at hl 0 rfl) ?_
    refine gf_X11_98 hx hb hts hown hK hP 0 rfl rfl dX11_years_18 ?_
    refine lv_sipush (v := 157) hx hb dX11_years_21 (by decide) ?_
    refine va_iald hx hb hK hP 1 0 rfl rfl (vp_in_nI (n := 157) (N := 575) (by decide) (by decide)) dX11_years_24 ?_
    refine as_i 0 ((congrArg (mi 2) (show (157 : Int32).toNatClampNeg = 157 from rfl)).trans hn.2.2.2.2.1) ?_
    refine lv_sipush (v := 200) hx hb dX11_years_25 (by decide) ?_
    refine lv_icmp_ne (tgt := 33) hx hb dX11_years_28 (by decide) (fun _ => ?_) (fun c9 => absurd c9 (by decide))
    refine lv_aload_n hx hb dX11_years_33 rfl (lv_at hl 0 rfl) ?_
    refine jn_v (wr := []) (rV (As := []) (rest := []) (ci := 12) ⟨hx, hb, hml, hown, hts⟩ (m_snap l dC dI cy _ am mi ) (cw_X11_278 hts rfl rfl ⟨Nat.le_of_ble_eq_true rfl, Nat.le_of_ble_eq_true rfl⟩) hP hD hK [0, 1, 2] rfl rfl rfl rfl bl0 e0 rfl hl.1 rfl (Nat.le_of_ble_eq_true rfl) dX11_years_34 ⟨Nat.le_of_ble_eq_true rfl, Nat.le_of_ble_eq_true rfl⟩) hP hD hS hA [0, 1, 2] [] rfl rfl rfl (by decide) (fun u_6 H locs hp_5 hP hD hS => ?_)
    obtain ⟨os_7, rfl⟩ : ∃ z, z = u_6 := ⟨_, rfl⟩
    have hp_5 : True := hp_5
    have hP : va_P (dC, dI) vwCl [(am 0, .inr (12, [.int 0, .ref (am 1), .int 0, .int 0, .int 0, .int 0, .int 0, .int 0, .int 0, .int 0, .int 0, .int 0, .long 0, .int 0, .ref (am 2), .ref (am 3), .ref (am 4), .ref (am 5), .ref (am 6), .ref (am 7), .ref (am 8), .ref (am 9), .ref (am 10), .ref (am 11), .int 1, .int (-1), .ref (am 12), .ref (am 13), .ref (am 14), .int 0, .ref (am 15), .ref (am 16), .int 0, .int 0, .int 0, .ref (am 17), .int 0, .int 0, .ref (am 18), .ref (am 19), .int 0, .int 0, .ref (am 20), .int 0, .int 0, .int 0, .int 0])), (am 2, .inl (cy 0, 575, .inl (mi 2))), (am 5, .inl (cy 0, 1408, .inl os_7))] H := hP
    have hD : va_D A [(am 0, .inr (12, [.int 0, .ref (am 1), .int 0, .int 0, .int 0, .int 0, .int 0, .int 0, .int 0, .int 0, .int 0, .int 0, .long 0, .int 0, .ref (am 2), .ref (am 3), .ref (am 4), .ref (am 5), .ref (am 6), .ref (am 7), .ref (am 8), .ref (am 9), .ref (am 10), .ref (am 11), .int 1, .int (-1), .ref (am 12), .ref (am 13), .ref (am 14), .int 0, .ref (am 15), .ref (am 16), .int 0, .int 0, .int 0, .ref (am 17), .int 0, .int 0, .ref (am 18), .ref (am 19), .int 0, .int 0, .ref (am 20), .int 0, .int 0, .int 0, .int 0])), (am 2, .inl (cy 0, 575, .inl (mi 2))), (am 5, .inl (cy 0, 1408, .inl os_7))] := hD
    refine lv_aload_n hx hb dX11_years_37 rfl (lv_at hl 0 rfl) ?_
    refine lv_iload_n hx hb dX11_years_38 rfl (lv_at hl 1 rfl) ?_
    refine jn_i (wr := [(am 5, .inl (cy 0, 1408, .inl os_7))]) (rV (As := [.int (nI K9)]) (rest := []) (ci := 12) ⟨hx, hb, hml, hown, hts⟩ (m_passYears l dC dI cy _ am K9 (mi 2) (by omega) hn.1 hn.2.2.2.2.1) (cw_X11_294 hts rfl rfl ⟨Nat.le_of_ble_eq_true rfl, Nat.le_of_ble_eq_true rfl⟩) hP hD hK [0, 1] rfl rfl rfl rfl bl0 e0 rfl hl.1 rfl (Nat.le_of_ble_eq_true rfl) dX11_years_39 ⟨Nat.le_of_ble_eq_true rfl, Nat.le_of_ble_eq_true rfl⟩) hP hD hS hA [0, 1] [2] rfl rfl rfl (by decide) (fun r_8 u_10 H locs hp_9 hP hD hS => ?_)
    have hp_9 : r_8 = nI K9 := hp_9
    have hP : va_P (dC, dI) vwCl [(am 5, .inl (cy 0, 1408, .inl os_7))] H := hP
    have hD : va_D A [(am 5, .inl (cy 0, 1408, .inl os_7))] := hD
    refine as_i (nI K9) hp_9 ?_
    rw [hQ9]
    exact re_i () hx hb hr hlocks (yr_yes hK9).symm (hP.sub [] rfl) (hD.sub [] rfl rfl) hS dX11_years_42
  · skip
    refine lv_iconst (v := (-1)) hx hb dX11_years_15 (by decide) ?_
    rw [hQ9]
    exact re_i () hx hb hr hlocks (yr_no c_3).symm (hP.sub [] rfl) (hD.sub [] rfl rfl) hS dX11_years_16
abbrev cX11_layAside : ByteArray := prog_13_method_105_code
def yX11_layAside : MethodName := ⟨RX11, "layAside", "()V"⟩
theorem t1974 : Cond.code yX11_layAside cX11_layAside 2 none ∈ GW := gw_mem 2088 (by decide +kernel) (by decide +kernel)
abbrev O_m_layAside (cy : Nat → ClassId) (am : Nat → Nat) (mi : Nat → Nat → Int32) (u : (Nat → Int32)) : va_W := [(am 0, .inr (12, [.int 0, .ref (am 1), .int 0, .int 0, .int 400, .int 0, .int 0, .int 0, .int 0, .int 0, .int 0, .int 0, .long 0, .int 0, .ref (am 2), .ref (am 3), .ref (am 4), .ref (am 5), .ref (am 6), .ref (am 7), .ref (am 8), .ref (am 9), .ref (am 10), .ref (am 11), .int 0, .int (-1), .ref (am 12), .ref (am 13), .ref (am 14), .int 0, .ref (am 15), .ref (am 16), .int 0, .int 0, .int 0, .ref (am 17), .int 0, .int 0, .ref (am 18), .ref (am 19), .int 0, .int 0, .ref (am 20), .int 0, .int 0, .int 0, .int 0])), (am 2, .inl (cy 0, 575, .inl (mi 2))), (am 6, .inl (cy 0, 176, .inl u))]
theorem dX11_layAside_0 : decode cX11_layAside 0 = .ok (.iconst 0, 1) := by decide +kernel
theorem dX11_layAside_1 : decode cX11_layAside 1 = .ok (.istore_n 1, 1) := by decide +kernel
theorem dX11_layAside_2 : decode cX11_layAside 2 = .ok (.iload_n 1, 1) := by decide +kernel
theorem dX11_layAside_3 : decode cX11_layAside 3 = .ok (.sipush 176, 3) := by decide +kernel
theorem dX11_layAside_6 : decode cX11_layAside 6 = .ok (.if_icmp .ge 25, 3) := by decide +kernel
theorem dX11_layAside_31 : decode cX11_layAside 31 = .ok (.return_, 1) := by decide +kernel
theorem dX11_layAside_9 : decode cX11_layAside 9 = .ok (.aload_n 0, 1) := by decide +kernel
theorem dX11_layAside_10 : decode cX11_layAside 10 = .ok (.getfield 110, 3) := by decide +kernel
theorem t1464 : Cond.fieldLink RX11 110 "LikenessPoundModel" "aside" "[I" ∈ GW := gw_mem 1578 (by decide +kernel) (by decide +kernel)
theorem gf_X11_110 {p : Program} {l : Launch} {e : Env} {R : Room} {s : State} {m : MethodId} {args : Array Value} {below : List Frame} {meth : Method} {c : Code} {H : Heap} {locs : List Loc} {cells slots : Nat} {Q : State → Prop} {cc : ByteArray} {pc : Nat} {ls : Array Slot} {rest : List Value} {D : va_G} {a : Nat} {tys : List (ClassId × FieldType)} {ws : va_W} (hx : p.tables.exec = Jvm.exec) (hb : c.code = cc) (hts : ∀ w ∈ GW, w.before args s = true) (hown : s.vm.findClass RX11 = some m.cls) (hK : va_K D vwCl tys s) (hP : va_P D vwCl ws H) (q0 : Nat) {fs : List Value} (he : ws[q0]? = some (a, .inr (12, fs))) {v : Value} (hv : fs[18]? = some v) (hdg : decode cc pc = .ok (.getfield 110, 3)) (kk : W p l e R s m args below meth c H locs cells slots Q (F0 m (pc + 3) ls (v :: rest))) : W p l e R s m args below meth c H locs cells slots Q (F0 m pc ls (.ref a :: rest)) := va_get (C := RX11) (T := TX11) (N := 47) (ci := 12) hx hb hts inX11 hown hK hP q0 he rfl 18 (by decide) (hts _ t1464) (fun _ h => h) hv hdg kk
theorem dX11_layAside_13 : decode cX11_layAside 13 = .ok (.iload_n 1, 1) := by decide +kernel
theorem dX11_layAside_14 : decode cX11_layAside 14 = .ok (.aload_n 0, 1) := by decide +kernel
theorem dX11_layAside_15 : decode cX11_layAside 15 = .ok (.getfield 98, 3) := by decide +kernel
theorem dX11_layAside_18 : decode cX11_layAside 18 = .ok (.sipush 157, 3) := by decide +kernel
theorem dX11_layAside_21 : decode cX11_layAside 21 = .ok (.iload_n 1, 1) := by decide +kernel
theorem dX11_layAside_22 : decode cX11_layAside 22 = .ok (.iadd, 1) := by decide +kernel
theorem dX11_layAside_23 : decode cX11_layAside 23 = .ok (.iaload, 1) := by decide +kernel
theorem dX11_layAside_24 : decode cX11_layAside 24 = .ok (.iastore, 1) := by decide +kernel
theorem dX11_layAside_25 : decode cX11_layAside 25 = .ok (.iinc 1 1, 3) := by decide +kernel
theorem dX11_layAside_28 : decode cX11_layAside 28 = .ok (.goto (-26), 3) := by decide +kernel
set_option maxHeartbeats 4000000 in
set_option maxRecDepth 100000 in
theorem m_layAside (l : Launch) (dC : Nat → ClassId) (dI : Nat → Nat → Nat) (cy : Nat → ClassId) (sz : Nat) (am : Nat → Nat) (mi : Nat → Nat → Int32)  : Met l yX11_layAside (wl yX11_layAside cX11_layAside 2 none) ({ frames := 0, cells := 0, slots := 0, locals := 0 }) (Pw (dC, dI) vwCl cy [(am 0, .inr (12, [.int 0, .ref (am 1), .int 0, .int 0, .int 400, .int 0, .int 0, .int 0, .int 0, .int 0, .int 0, .int 0, .long 0, .int 0, .ref (am 2), .ref (am 3), .ref (am 4), .ref (am 5), .ref (am 6), .ref (am 7), .ref (am 8), .ref (am 9), .ref (am 10), .ref (am 11), .int 0, .int (-1), .ref (am 12), .ref (am 13), .ref (am 14), .int 0, .ref (am 15), .ref (am 16), .int 0, .int 0, .int 0, .ref (am 17), .int 0, .int 0, .ref (am 18), .ref (am 19), .int 0, .int 0, .ref (am 20), .int 0, .int 0, .int 0, .int 0])), (am 2, .inl (cy 0, 575, .inl (mi 2))), (am 6, .inl (cy 0, 176, .inl (mi 6)))] sz [.ref (am 0)] nE) (Qv (dC, dI) vwCl (fun (u : (Nat → Int32)) => True) (O_m_layAside cy am mi) (va_A [(am 0, .inr (12, [.int 0, .ref (am 1), .int 0, .int 0, .int 400, .int 0, .int 0, .int 0, .int 0, .int 0, .int 0, .int 0, .long 0, .int 0, .ref (am 2), .ref (am 3), .ref (am 4), .ref (am 5), .ref (am 6), .ref (am 7), .ref (am 8), .ref (am 9), .ref (am 10), .ref (am 11), .int 0, .int (-1), .ref (am 12), .ref (am 13), .ref (am 14), .int 0, .ref (am 15), .ref (am 16), .int 0, .int 0, .int 0, .ref (am 17), .int 0, .int 0, .ref (am 18), .ref (am 19), .int 0, .int 0, .ref (am 20), .int 0, .int 0, .int 0, .int 0])), (am 2, .inl (cy 0, 575, .inl (mi 2))), (am 6, .inl (cy 0, 176, .inl (mi 6)))] sz)) 0 0 (va_A [(am 0, .inr (12, [.int 0, .ref (am 1), .int 0, .int 0, .int 400, .int 0, .int 0, .int 0, .int 0, .int 0, .int 0, .int 0, .long 0, .int 0, .ref (am 2), .ref (am 3), .ref (am 4), .ref (am 5), .ref (am 6), .ref (am 7), .ref (am 8), .ref (am 9), .ref (am 10), .ref (am 11), .int 0, .int (-1), .ref (am 12), .ref (am 13), .ref (am 14), .int 0, .ref (am 15), .ref (am 16), .int 0, .int 0, .int 0, .ref (am 17), .int 0, .int 0, .ref (am 18), .ref (am 19), .int 0, .int 0, .ref (am 20), .int 0, .int 0, .int 0, .int 0])), (am 2, .inl (cy 0, 575, .inl (mi 2))), (am 6, .inl (cy 0, 176, .inl (mi 6)))] sz) := by
  refine mw (Qc := Qv (dC, dI) vwCl (fun (u : (Nat → Int32)) => True) (O_m_layAside cy am mi)) RX11 rfl (by decide +kernel) (Nat.le_of_ble_eq_true rfl) ?_
  intro p e s m below meth c A hx hb hr hlocks av9 hav hts hown hnm hml hK hP hD hA hS hE hAe Q9 hQ9 ls hl
  have hl : lv_has ls 2 [(0, .ref (am 0))] := hl
  refine lv_iconst (v := 0) hx hb dX11_layAside_0 (by decide) ?_
  refine lv_istore_n (lv' := [(1, .int 0), (0, .ref (am 0))]) hx hb dX11_layAside_1 rfl hl (by decide) rfl (fun ls hl => ?_)
  have loop1 : ∀ (n1_ i1 : Nat) (g_2 : Nat → Int32) , i1 + n1_ = 176 → ∀ (H : Heap) (locs : List Loc), va_P (dC, dI) vwCl [(am 0, .inr (12, [.int 0, .ref (am 1), .int 0, .int 0, .int 400, .int 0, .int 0, .int 0, .int 0, .int 0, .int 0, .int 0, .long 0, .int 0, .ref (am 2), .ref (am 3), .ref (am 4), .ref (am 5), .ref (am 6), .ref (am 7), .ref (am 8), .ref (am 9), .ref (am 10), .ref (am 11), .int 0, .int (-1), .ref (am 12), .ref (am 13), .ref (am 14), .int 0, .ref (am 15), .ref (am 16), .int 0, .int 0, .int 0, .ref (am 17), .int 0, .int 0, .ref (am 18), .ref (am 19), .int 0, .int 0, .ref (am 20), .int 0, .int 0, .int 0, .int 0])), (am 2, .inl (cy 0, 575, .inl (mi 2))), (am 6, .inl (cy 0, 176, .inl g_2))] H → va_D A [(am 0, .inr (12, [.int 0, .ref (am 1), .int 0, .int 0, .int 400, .int 0, .int 0, .int 0, .int 0, .int 0, .int 0, .int 0, .long 0, .int 0, .ref (am 2), .ref (am 3), .ref (am 4), .ref (am 5), .ref (am 6), .ref (am 7), .ref (am 8), .ref (am 9), .ref (am 10), .ref (am 11), .int 0, .int (-1), .ref (am 12), .ref (am 13), .ref (am 14), .int 0, .ref (am 15), .ref (am 16), .int 0, .int 0, .int 0, .ref (am 17), .int 0, .int 0, .ref (am 18), .ref (am 19), .int 0, .int 0, .ref (am 20), .int 0, .int 0, .int 0, .int 0])), (am 2, .inl (cy 0, 575, .inl (mi 2))), (am 6, .inl (cy 0, 176, .inl g_2))] → va_S A s.heap H locs → ∀ ls : Array Slot, lv_has ls 2 [(0, .ref (am 0)), (1, .int (nI i1))] → W p l e ({ frames := 0, cells := 0, slots := 0, locals := 0 }) s m av9 below meth c H locs 0 0 Q9 (F0 m 2 ls []) := by
    intro n1_
    induction n1_ with
    | zero =>
      intro i1 g_2  hn1 H locs hP hD hS ls hl
      obtain rfl : i1 = 176 := by omega
      have hl : lv_has ls 2 [(0, .ref (am 0)), (1, .int 176)] := hl
      have hP : va_P (dC, dI) vwCl [(am 0, .inr (12, [.int 0, .ref (am 1), .int 0, .int 0, .int 400, .int 0, .int 0, .int 0, .int 0, .int 0, .int 0, .int 0, .long 0, .int 0, .ref (am 2), .ref (am 3), .ref (am 4), .ref (am 5), .ref (am 6), .ref (am 7), .ref (am 8), .ref (am 9), .ref (am 10), .ref (am 11), .int 0, .int (-1), .ref (am 12), .ref (am 13), .ref (am 14), .int 0, .ref (am 15), .ref (am 16), .int 0, .int 0, .int 0, .ref (am 17), .int 0, .int 0, .ref (am 18), .ref (am 19), .int 0, .int 0, .ref (am 20), .int 0, .int 0, .int 0, .int 0])), (am 2, .inl (cy 0, 575, .inl (mi 2))), (am 6, .inl (cy 0, 176, .inl g_2))] H := hP
      have hD : va_D A [(am 0, .inr (12, [.int 0, .ref (am 1), .int 0, .int 0, .int 400, .int 0, .int 0, .int 0, .int 0, .int 0, .int 0, .int 0, .long 0, .int 0, .ref (am 2), .ref (am 3), .ref (am 4), .ref (am 5), .ref (am 6), .ref (am 7), .ref (am 8), .ref (am 9), .ref (am 10), .ref (am 11), .int 0, .int (-1), .ref (am 12), .ref (am 13), .ref (am 14), .int 0, .ref (am 15), .ref (am 16), .int 0, .int 0, .int 0, .ref (am 17), .int 0, .int 0, .ref (am 18), .ref (am 19), .int 0, .int 0, .ref (am 20), .int 0, .int 0, .int 0, .int 0])), (am 2, .inl (cy 0, 575, .inl (mi 2))), (am 6, .inl (cy 0, 176, .inl g_2))] := hD
      refine lv_iload_n hx hb dX11_layAside_2 rfl (lv_at hl 1 rfl) ?_
      refine lv_sipush (v := 176) hx hb dX11_layAside_3 (by decide) ?_
      refine lv_icmp_ge (tgt := 31) hx hb dX11_layAside_6 (by decide) (fun _ => ?_) (fun c9 => absurd (by decide) c9)
      rw [hQ9]
      exact re_v g_2 hx hb hr hlocks trivial (hP.sub [0, 1, 2] rfl) (hD.sub [0, 1, 2] rfl rfl) hS dX11_layAside_31
    | succ n1_ ih1 =>
      intro i1 g_2  hn1 H locs hP hD hS ls hl
      refine lv_iload_n hx hb dX11_layAside_2 rfl (lv_at hl 1 rfl) ?_
      refine lv_sipush (v := 176) hx hb dX11_layAside_3 (by decide) ?_
      refine lv_icmp_ge (tgt := 31) hx hb dX11_layAside_6 (by decide) (fun c9 => absurd c9 (nI_ge (a := i1) (b := 176) (by omega) (by omega))) (fun _ => ?_)
      refine lv_aload_n hx hb dX11_layAside_9 rfl (lv_at hl 0 rfl) ?_
      refine gf_X11_110 hx hb hts hown hK hP 0 rfl rfl dX11_layAside_10 ?_
      refine lv_iload_n hx hb dX11_layAside_13 rfl (lv_at hl 1 rfl) ?_
      refine lv_aload_n hx hb dX11_layAside_14 rfl (lv_at hl 0 rfl) ?_
      refine gf_X11_98 hx hb hts hown hK hP 0 rfl rfl dX11_layAside_15 ?_
      refine lv_sipush (v := 157) hx hb dX11_layAside_18 (by decide) ?_
      refine lv_iload_n hx hb dX11_layAside_21 rfl (lv_at hl 1 rfl) ?_
      refine lv_iadd hx hb dX11_layAside_22 ?_
      refine as_i (nI (157 + i1)) (nI_add 157 i1) ?_
      refine va_iald hx hb hK hP 1 0 rfl rfl (vp_in_nI (n := (157 + i1)) (N := 575) (by omega) (by omega)) dX11_layAside_23 ?_
      refine as_i ((mi 2) (157 + i1)) (congrArg (mi 2) (nI_clamp (n := (157 + i1)) (by omega))) ?_
      refine va_iast hx hb hK hP hD hS 2 0 rfl rfl (vp_in_nI (n := i1) (N := 176) (by omega) (by omega)) dX11_layAside_24 (fun H locs hP hD hS => ?_)
      obtain ⟨f_3, ef_3⟩ : ∃ z : Nat → Int32, z = upd g_2 (Int32.toNatClampNeg (nI i1)) ((mi 2) (157 + i1)) := ⟨_, rfl⟩
      have hP : va_P (dC, dI) vwCl [(am 0, .inr (12, [.int 0, .ref (am 1), .int 0, .int 0, .int 400, .int 0, .int 0, .int 0, .int 0, .int 0, .int 0, .int 0, .long 0, .int 0, .ref (am 2), .ref (am 3), .ref (am 4), .ref (am 5), .ref (am 6), .ref (am 7), .ref (am 8), .ref (am 9), .ref (am 10), .ref (am 11), .int 0, .int (-1), .ref (am 12), .ref (am 13), .ref (am 14), .int 0, .ref (am 15), .ref (am 16), .int 0, .int 0, .int 0, .ref (am 17), .int 0, .int 0, .ref (am 18), .ref (am 19), .int 0, .int 0, .ref (am 20), .int 0, .int 0, .int 0, .int 0])), (am 2, .inl (cy 0, 575, .inl (mi 2))), (am 6, .inl (cy 0, 176, .inl f_3))] H := by rw [ef_3]; exact hP
      have hD : va_D A [(am 0, .inr (12, [.int 0, .ref (am 1), .int 0, .int 0, .int 400, .int 0, .int 0, .int 0, .int 0, .int 0, .int 0, .int 0, .long 0, .int 0, .ref (am 2), .ref (am 3), .ref (am 4), .ref (am 5), .ref (am 6), .ref (am 7), .ref (am 8), .ref (am 9), .ref (am 10), .ref (am 11), .int 0, .int (-1), .ref (am 12), .ref (am 13), .ref (am 14), .int 0, .ref (am 15), .ref (am 16), .int 0, .int 0, .int 0, .ref (am 17), .int 0, .int 0, .ref (am 18), .ref (am 19), .int 0, .int 0, .ref (am 20), .int 0, .int 0, .int 0, .int 0])), (am 2, .inl (cy 0, 575, .inl (mi 2))), (am 6, .inl (cy 0, 176, .inl f_3))] := by rw [ef_3]; exact hD
      rw [(nI_clamp (n := i1) (by omega))] at ef_3
      refine lv_iinc (v := nI (i1 + 1)) (lv' := [(1, .int (nI (i1 + 1))), (0, .ref (am 0))]) hx hb dX11_layAside_25 hl (k := 1) rfl (nI_add i1 1) (by decide) rfl (fun ls hl => ?_)
      refine lv_goto (tgt := 2) hx hb dX11_layAside_28 (by decide) ?_
      exact ih1 (i1 + 1) f_3  (by omega) _ _ (hP.sub [0, 1, 2] rfl) (hD.sub [0, 1, 2] rfl rfl) hS ls (lv_sub hl [1, 0] rfl)
  exact loop1 176 0 (mi 6)  (by omega) _ _ hP hD hS ls (lv_sub hl [1, 0] rfl)
set_option maxHeartbeats 4000000 in
set_option maxRecDepth 100000 in
theorem m_those4 (l : Launch) (dC : Nat → ClassId) (dI : Nat → Nat → Nat) (cy : Nat → ClassId) (am : Nat → Nat) (mi : Nat → Nat → Int32) (n0 : Int32) (hn : NowOk (mi 2)) : Met l yX11_those (wl yX11_those cX11_those 4 (some .int)) ({ frames := 1, cells := 0, slots := 0, locals := 64 }) (Pr (dC, dI) vwCl cy [(am 0, .inr (12, [.int 0, .ref (am 1), .int 0, .int 0, .int 400, .int 0, .int 0, .int 0, .int 0, .int 0, .int 0, .int 0, .long 0, .int 0, .ref (am 2), .ref (am 3), .ref (am 4), .ref (am 5), .ref (am 6), .ref (am 7), .ref (am 8), .ref (am 9), .ref (am 10), .ref (am 11), .int 0, .int (-1), .ref (am 12), .ref (am 13), .ref (am 14), .int 0, .ref (am 15), .ref (am 16), .int 0, .int 0, .int 0, .ref (am 17), .int 0, .int 0, .ref (am 18), .ref (am 19), .int 0, .int 0, .ref (am 20), .int 0, .int 0, .int 0, .int 0])), (am 2, .inl (cy 0, 575, .inl (mi 2)))] [.ref (am 0), .int n0]) (Ri (fun r => r = 0)) 0 0 (fun _ => False) := by
  refine mr RX11 rfl (by decide +kernel) (Nat.le_of_ble_eq_true rfl) ?_
  intro p e s m below meth c hx hb hr hlocks av9 hav hts hown hml hK hP hS Q9 hQ9 ls hl
  have hl : lv_has ls 4 [(0, .ref (am 0)), (1, .int n0)] := hl
  refine lv_iconst (v := 0) hx hb dX11_those_0 (by decide) ?_
  refine lv_istore_n (lv' := [(2, .int 0), (0, .ref (am 0)), (1, .int n0)]) hx hb dX11_those_1 rfl hl (by decide) rfl (fun ls hl => ?_)
  refine lv_iconst (v := 0) hx hb dX11_those_2 (by decide) ?_
  refine lv_istore_n (lv' := [(3, .int 0), (2, .int 0), (0, .ref (am 0)), (1, .int n0)]) hx hb dX11_those_3 rfl hl (by decide) rfl (fun ls hl => ?_)
  refine lv_iload_n hx hb dX11_those_4 rfl (lv_at hl 0 rfl) ?_
  refine lv_aload_n hx hb dX11_those_5 rfl (lv_at hl 2 rfl) ?_
  refine gf_X11_98 hx hb hts hown hK hP 0 rfl rfl dX11_those_6 ?_
  refine lv_iconst (v := 0) hx hb dX11_those_9 (by decide) ?_
  refine va_iald hx hb hK hP 1 0 rfl rfl (vp_in_nI (n := 0) (N := 575) (by decide) (by decide)) dX11_those_10 ?_
  refine as_i 0 ((congrArg (mi 2) (show (0 : Int32).toNatClampNeg = 0 from rfl)).trans hn.1) ?_
  refine lv_icmp_ge (tgt := 35) hx hb dX11_those_11 (by decide) (fun _ => ?_) (fun c9 => absurd (by decide) c9)
  refine lv_iload_n hx hb dX11_those_35 rfl (lv_at hl 1 rfl) ?_
  rw [hQ9]
  exact rr_i hx hb hr hlocks rfl hS dX11_those_36
abbrev cX11_stay : ByteArray := prog_13_method_116_code
def yX11_stay : MethodName := ⟨RX11, "stay", "(Z)V"⟩
theorem t2014 : Cond.code yX11_stay cX11_stay 4 none ∈ GW := gw_mem 2128 (by decide +kernel) (by decide +kernel)
theorem dX11_stay_0 : decode cX11_stay 0 = .ok (.iconst 0, 1) := by decide +kernel
theorem dX11_stay_1 : decode cX11_stay 1 = .ok (.istore_n 2, 1) := by decide +kernel
theorem dX11_stay_2 : decode cX11_stay 2 = .ok (.iload_n 2, 1) := by decide +kernel
theorem dX11_stay_3 : decode cX11_stay 3 = .ok (.sipush 176, 3) := by decide +kernel
theorem dX11_stay_6 : decode cX11_stay 6 = .ok (.if_icmp .ge 43, 3) := by decide +kernel
theorem dX11_stay_49 : decode cX11_stay 49 = .ok (.iload_n 1, 1) := by decide +kernel
theorem dX11_stay_50 : decode cX11_stay 50 = .ok (.ifCond .ne 4, 3) := by decide +kernel
theorem dX11_stay_53 : decode cX11_stay 53 = .ok (.return_, 1) := by decide +kernel
theorem dX11_stay_9 : decode cX11_stay 9 = .ok (.aload_n 0, 1) := by decide +kernel
theorem dX11_stay_10 : decode cX11_stay 10 = .ok (.getfield 98, 3) := by decide +kernel
theorem dX11_stay_13 : decode cX11_stay 13 = .ok (.sipush 157, 3) := by decide +kernel
theorem dX11_stay_16 : decode cX11_stay 16 = .ok (.iload_n 2, 1) := by decide +kernel
theorem dX11_stay_17 : decode cX11_stay 17 = .ok (.iadd, 1) := by decide +kernel
theorem dX11_stay_18 : decode cX11_stay 18 = .ok (.iaload, 1) := by decide +kernel
theorem dX11_stay_19 : decode cX11_stay 19 = .ok (.istore_n 3, 1) := by decide +kernel
theorem dX11_stay_20 : decode cX11_stay 20 = .ok (.aload_n 0, 1) := by decide +kernel
theorem dX11_stay_21 : decode cX11_stay 21 = .ok (.getfield 98, 3) := by decide +kernel
theorem dX11_stay_24 : decode cX11_stay 24 = .ok (.sipush 157, 3) := by decide +kernel
theorem dX11_stay_27 : decode cX11_stay 27 = .ok (.iload_n 2, 1) := by decide +kernel
theorem dX11_stay_28 : decode cX11_stay 28 = .ok (.iadd, 1) := by decide +kernel
theorem dX11_stay_29 : decode cX11_stay 29 = .ok (.aload_n 0, 1) := by decide +kernel
theorem dX11_stay_30 : decode cX11_stay 30 = .ok (.getfield 110, 3) := by decide +kernel
theorem dX11_stay_33 : decode cX11_stay 33 = .ok (.iload_n 2, 1) := by decide +kernel
theorem dX11_stay_34 : decode cX11_stay 34 = .ok (.iaload, 1) := by decide +kernel
theorem dX11_stay_35 : decode cX11_stay 35 = .ok (.iastore, 1) := by decide +kernel
theorem dX11_stay_36 : decode cX11_stay 36 = .ok (.aload_n 0, 1) := by decide +kernel
theorem dX11_stay_37 : decode cX11_stay 37 = .ok (.getfield 110, 3) := by decide +kernel
theorem dX11_stay_40 : decode cX11_stay 40 = .ok (.iload_n 2, 1) := by decide +kernel
theorem dX11_stay_41 : decode cX11_stay 41 = .ok (.iload_n 3, 1) := by decide +kernel
theorem dX11_stay_42 : decode cX11_stay 42 = .ok (.iastore, 1) := by decide +kernel
theorem dX11_stay_43 : decode cX11_stay 43 = .ok (.iinc 2 1, 3) := by decide +kernel
theorem dX11_stay_46 : decode cX11_stay 46 = .ok (.goto (-44), 3) := by decide +kernel
set_option maxHeartbeats 4000000 in
set_option maxRecDepth 100000 in
theorem m_stay (l : Launch) (dC : Nat → ClassId) (dI : Nat → Nat → Nat) (cy : Nat → ClassId) (sz : Nat) (am : Nat → Nat) (mi : Nat → Nat → Int32) (fa : Nat → Int32)  : Met l yX11_stay (wl yX11_stay cX11_stay 4 none) ({ frames := 1, cells := 0, slots := 0, locals := 64 }) (Pw (dC, dI) vwCl cy [(am 0, .inr (12, [.int 0, .ref (am 1), .int 0, .int 0, .int 400, .int 0, .int 0, .int 0, .int 0, .int 0, .int 0, .int 0, .long 0, .int 0, .ref (am 2), .ref (am 3), .ref (am 4), .ref (am 5), .ref (am 6), .ref (am 7), .ref (am 8), .ref (am 9), .ref (am 10), .ref (am 11), .int 0, .int (-1), .ref (am 12), .ref (am 13), .ref (am 14), .int 0, .ref (am 15), .ref (am 16), .int 0, .int 0, .int 0, .ref (am 17), .int 0, .int 0, .ref (am 18), .ref (am 19), .int 0, .int 1, .ref (am 20), .int 0, .int 0, .int 0, .int 0])), (am 2, .inl (cy 0, 575, .inl (mi 2))), (am 6, .inl (cy 0, 176, .inl fa))] sz [.ref (am 0), .int 0] nE) (Qv (dC, dI) vwCl (fun (u : Unit) => True) (fun (u : Unit) => []) (va_A [(am 0, .inr (12, [.int 0, .ref (am 1), .int 0, .int 0, .int 400, .int 0, .int 0, .int 0, .int 0, .int 0, .int 0, .int 0, .long 0, .int 0, .ref (am 2), .ref (am 3), .ref (am 4), .ref (am 5), .ref (am 6), .ref (am 7), .ref (am 8), .ref (am 9), .ref (am 10), .ref (am 11), .int 0, .int (-1), .ref (am 12), .ref (am 13), .ref (am 14), .int 0, .ref (am 15), .ref (am 16), .int 0, .int 0, .int 0, .ref (am 17), .int 0, .int 0, .ref (am 18), .ref (am 19), .int 0, .int 1, .ref (am 20), .int 0, .int 0, .int 0, .int 0])), (am 2, .inl (cy 0, 575, .inl (mi 2))), (am 6, .inl (cy 0, 176, .inl fa))] sz)) 0 0 (va_A [(am 0, .inr (12, [.int 0, .ref (am 1), .int 0, .int 0, .int 400, .int 0, .int 0, .int 0, .int 0, .int 0, .int 0, .int 0, .long 0, .int 0, .ref (am 2), .ref (am 3), .ref (am 4), .ref (am 5), .ref (am 6), .ref (am 7), .ref (am 8), .ref (am 9), .ref (am 10), .ref (am 11), .int 0, .int (-1), .ref (am 12), .ref (am 13), .ref (am 14), .int 0, .ref (am 15), .ref (am 16), .int 0, .int 0, .int 0, .ref (am 17), .int 0, .int 0, .ref (am 18), .ref (am 19), .int 0, .int 1, .ref (am 20), .int 0, .int 0, .int 0, .int 0])), (am 2, .inl (cy 0, 575, .inl (mi 2))), (am 6, .inl (cy 0, 176, .inl fa))] sz) := by
  refine mw (Qc := Qv (dC, dI) vwCl (fun (u : Unit) => True) (fun (u : Unit) => [])) RX11 rfl (by decide +kernel) (Nat.le_of_ble_eq_true rfl) ?_
  intro p e s m below meth c A hx hb hr hlocks av9 hav hts hown hnm hml hK hP hD hA hS hE hAe Q9 hQ9 ls hl
  have hl : lv_has ls 4 [(0, .ref (am 0)), (1, .int 0)] := hl
  refine lv_iconst (v := 0) hx hb dX11_stay_0 (by decide) ?_
  refine lv_istore_n (lv' := [(2, .int 0), (0, .ref (am 0)), (1, .int 0)]) hx hb dX11_stay_1 rfl hl (by decide) rfl (fun ls hl => ?_)
  have loop1 : ∀ (n1_ i1 : Nat) (g_2 : Nat → Int32) (g_3 : Nat → Int32) , i1 + n1_ = 176 → ∀ (H : Heap) (locs : List Loc), va_P (dC, dI) vwCl [(am 0, .inr (12, [.int 0, .ref (am 1), .int 0, .int 0, .int 400, .int 0, .int 0, .int 0, .int 0, .int 0, .int 0, .int 0, .long 0, .int 0, .ref (am 2), .ref (am 3), .ref (am 4), .ref (am 5), .ref (am 6), .ref (am 7), .ref (am 8), .ref (am 9), .ref (am 10), .ref (am 11), .int 0, .int (-1), .ref (am 12), .ref (am 13), .ref (am 14), .int 0, .ref (am 15), .ref (am 16), .int 0, .int 0, .int 0, .ref (am 17), .int 0, .int 0, .ref (am 18), .ref (am 19), .int 0, .int 1, .ref (am 20), .int 0, .int 0, .int 0, .int 0])), (am 2, .inl (cy 0, 575, .inl g_2)), (am 6, .inl (cy 0, 176, .inl g_3))] H → va_D A [(am 0, .inr (12, [.int 0, .ref (am 1), .int 0, .int 0, .int 400, .int 0, .int 0, .int 0, .int 0, .int 0, .int 0, .int 0, .long 0, .int 0, .ref (am 2), .ref (am 3), .ref (am 4), .ref (am 5), .ref (am 6), .ref (am 7), .ref (am 8), .ref (am 9), .ref (am 10), .ref (am 11), .int 0, .int (-1), .ref (am 12), .ref (am 13), .ref (am 14), .int 0, .ref (am 15), .ref (am 16), .int 0, .int 0, .int 0, .ref (am 17), .int 0, .int 0, .ref (am 18), .ref (am 19), .int 0, .int 1, .ref (am 20), .int 0, .int 0, .int 0, .int 0])), (am 2, .inl (cy 0, 575, .inl g_2)), (am 6, .inl (cy 0, 176, .inl g_3))] → va_S A s.heap H locs → ∀ ls : Array Slot, lv_has ls 4 [(0, .ref (am 0)), (1, .int 0), (2, .int (nI i1))] → W p l e ({ frames := 1, cells := 0, slots := 0, locals := 64 }) s m av9 below meth c H locs 0 0 Q9 (F0 m 2 ls []) := by
    intro n1_
    induction n1_ with
    | zero =>
      intro i1 g_2 g_3  hn1 H locs hP hD hS ls hl
      obtain rfl : i1 = 176 := by omega
      have hl : lv_has ls 4 [(0, .ref (am 0)), (1, .int 0), (2, .int 176)] := hl
      have hP : va_P (dC, dI) vwCl [(am 0, .inr (12, [.int 0, .ref (am 1), .int 0, .int 0, .int 400, .int 0, .int 0, .int 0, .int 0, .int 0, .int 0, .int 0, .long 0, .int 0, .ref (am 2), .ref (am 3), .ref (am 4), .ref (am 5), .ref (am 6), .ref (am 7), .ref (am 8), .ref (am 9), .ref (am 10), .ref (am 11), .int 0, .int (-1), .ref (am 12), .ref (am 13), .ref (am 14), .int 0, .ref (am 15), .ref (am 16), .int 0, .int 0, .int 0, .ref (am 17), .int 0, .int 0, .ref (am 18), .ref (am 19), .int 0, .int 1, .ref (am 20), .int 0, .int 0, .int 0, .int 0])), (am 2, .inl (cy 0, 575, .inl g_2)), (am 6, .inl (cy 0, 176, .inl g_3))] H := hP
      have hD : va_D A [(am 0, .inr (12, [.int 0, .ref (am 1), .int 0, .int 0, .int 400, .int 0, .int 0, .int 0, .int 0, .int 0, .int 0, .int 0, .long 0, .int 0, .ref (am 2), .ref (am 3), .ref (am 4), .ref (am 5), .ref (am 6), .ref (am 7), .ref (am 8), .ref (am 9), .ref (am 10), .ref (am 11), .int 0, .int (-1), .ref (am 12), .ref (am 13), .ref (am 14), .int 0, .ref (am 15), .ref (am 16), .int 0, .int 0, .int 0, .ref (am 17), .int 0, .int 0, .ref (am 18), .ref (am 19), .int 0, .int 1, .ref (am 20), .int 0, .int 0, .int 0, .int 0])), (am 2, .inl (cy 0, 575, .inl g_2)), (am 6, .inl (cy 0, 176, .inl g_3))] := hD
      refine lv_iload_n hx hb dX11_stay_2 rfl (lv_at hl 2 rfl) ?_
      refine lv_sipush (v := 176) hx hb dX11_stay_3 (by decide) ?_
      refine lv_icmp_ge (tgt := 49) hx hb dX11_stay_6 (by decide) (fun _ => ?_) (fun c9 => absurd (by decide) c9)
      refine lv_iload_n hx hb dX11_stay_49 rfl (lv_at hl 1 rfl) ?_
      refine lv_if_ne (tgt := 54) hx hb dX11_stay_50 (by decide) (fun c9 => absurd c9 (by decide)) (fun _ => ?_)
      rw [hQ9]
      exact re_v () hx hb hr hlocks trivial (hP.sub [] rfl) (hD.sub [] rfl rfl) hS dX11_stay_53
    | succ n1_ ih1 =>
      intro i1 g_2 g_3  hn1 H locs hP hD hS ls hl
      refine lv_iload_n hx hb dX11_stay_2 rfl (lv_at hl 2 rfl) ?_
      refine lv_sipush (v := 176) hx hb dX11_stay_3 (by decide) ?_
      refine lv_icmp_ge (tgt := 49) hx hb dX11_stay_6 (by decide) (fun c9 => absurd c9 (nI_ge (a := i1) (b := 176) (by omega) (by omega))) (fun _ => ?_)
      refine lv_aload_n hx hb dX11_stay_9 rfl (lv_at hl 0 rfl) ?_
      refine gf_X11_98 hx hb hts hown hK hP 0 rfl rfl dX11_stay_10 ?_
      refine lv_sipush (v := 157) hx hb dX11_stay_13 (by decide) ?_
      refine lv_iload_n hx hb dX11_stay_16 rfl (lv_at hl 2 rfl) ?_
      refine lv_iadd hx hb dX11_stay_17 ?_
      refine as_i (nI (157 + i1)) (nI_add 157 i1) ?_
      refine va_iald hx hb hK hP 1 0 rfl rfl (vp_in_nI (n := (157 + i1)) (N := 575) (by omega) (by omega)) dX11_stay_18 ?_
      refine as_i (g_2 (157 + i1)) (congrArg g_2 (nI_clamp (n := (157 + i1)) (by omega))) ?_
      refine lv_istore_n (lv' := [(3, .int (g_2 (157 + i1))), (0, .ref (am 0)), (1, .int 0), (2, .int (nI i1))]) hx hb dX11_stay_19 rfl hl (by decide) rfl (fun ls hl => ?_)
      refine lv_aload_n hx hb dX11_stay_20 rfl (lv_at hl 1 rfl) ?_
      refine gf_X11_98 hx hb hts hown hK hP 0 rfl rfl dX11_stay_21 ?_
      refine lv_sipush (v := 157) hx hb dX11_stay_24 (by decide) ?_
      refine lv_iload_n hx hb dX11_stay_27 rfl (lv_at hl 3 rfl) ?_
      refine lv_iadd hx hb dX11_stay_28 ?_
      refine as_i (nI (157 + i1)) (nI_add 157 i1) ?_
      refine lv_aload_n hx hb dX11_stay_29 rfl (lv_at hl 1 rfl) ?_
      refine gf_X11_110 hx hb hts hown hK hP 0 rfl rfl dX11_stay_30 ?_
      refine lv_iload_n hx hb dX11_stay_33 rfl (lv_at hl 3 rfl) ?_
      refine va_iald hx hb hK hP 2 0 rfl rfl (vp_in_nI (n := i1) (N := 176) (by omega) (by omega)) dX11_stay_34 ?_
      refine as_i (g_3 i1) (congrArg g_3 (nI_clamp (n := i1) (by omega))) ?_
      refine va_iast hx hb hK hP hD hS 1 0 rfl rfl (vp_in_nI (n := (157 + i1)) (N := 575) (by omega) (by omega)) dX11_stay_35 (fun H locs hP hD hS => ?_)
      obtain ⟨f_4, ef_4⟩ : ∃ z : Nat → Int32, z = upd g_2 (Int32.toNatClampNeg (nI (157 + i1))) (g_3 i1) := ⟨_, rfl⟩
      have hP : va_P (dC, dI) vwCl [(am 0, .inr (12, [.int 0, .ref (am 1), .int 0, .int 0, .int 400, .int 0, .int 0, .int 0, .int 0, .int 0, .int 0, .int 0, .long 0, .int 0, .ref (am 2), .ref (am 3), .ref (am 4), .ref (am 5), .ref (am 6), .ref (am 7), .ref (am 8), .ref (am 9), .ref (am 10), .ref (am 11), .int 0, .int (-1), .ref (am 12), .ref (am 13), .ref (am 14), .int 0, .ref (am 15), .ref (am 16), .int 0, .int 0, .int 0, .ref (am 17), .int 0, .int 0, .ref (am 18), .ref (am 19), .int 0, .int 1, .ref (am 20), .int 0, .int 0, .int 0, .int 0])), (am 2, .inl (cy 0, 575, .inl f_4)), (am 6, .inl (cy 0, 176, .inl g_3))] H := by rw [ef_4]; exact hP
      have hD : va_D A [(am 0, .inr (12, [.int 0, .ref (am 1), .int 0, .int 0, .int 400, .int 0, .int 0, .int 0, .int 0, .int 0, .int 0, .int 0, .long 0, .int 0, .ref (am 2), .ref (am 3), .ref (am 4), .ref (am 5), .ref (am 6), .ref (am 7), .ref (am 8), .ref (am 9), .ref (am 10), .ref (am 11), .int 0, .int (-1), .ref (am 12), .ref (am 13), .ref (am 14), .int 0, .ref (am 15), .ref (am 16), .int 0, .int 0, .int 0, .ref (am 17), .int 0, .int 0, .ref (am 18), .ref (am 19), .int 0, .int 1, .ref (am 20), .int 0, .int 0, .int 0, .int 0])), (am 2, .inl (cy 0, 575, .inl f_4)), (am 6, .inl (cy 0, 176, .inl g_3))] := by rw [ef_4]; exact hD
      rw [(nI_clamp (n := (157 + i1)) (by omega))] at ef_4
      refine lv_aload_n hx hb dX11_stay_36 rfl (lv_at hl 1 rfl) ?_
      refine gf_X11_110 hx hb hts hown hK hP 0 rfl rfl dX11_stay_37 ?_
      refine lv_iload_n hx hb dX11_stay_40 rfl (lv_at hl 3 rfl) ?_
      refine lv_iload_n hx hb dX11_stay_41 rfl (lv_at hl 0 rfl) ?_
      refine va_iast hx hb hK hP hD hS 2 0 rfl rfl (vp_in_nI (n := i1) (N := 176) (by omega) (by omega)) dX11_stay_42 (fun H locs hP hD hS => ?_)
      obtain ⟨f_5, ef_5⟩ : ∃ z : Nat → Int32, z = upd g_3 (Int32.toNatClampNeg (nI i1)) (g_2 (157 + i1)) := ⟨_, rfl⟩
      have hP : va_P (dC, dI) vwCl [(am 0, .inr (12, [.int 0, .ref (am 1), .int 0, .int 0, .int 400, .int 0, .int 0, .int 0, .int 0, .int 0, .int 0, .int 0, .long 0, .int 0, .ref (am 2), .ref (am 3), .ref (am 4), .ref (am 5), .ref (am 6), .ref (am 7), .ref (am 8), .ref (am 9), .ref (am 10), .ref (am 11), .int 0, .int (-1), .ref (am 12), .ref (am 13), .ref (am 14), .int 0, .ref (am 15), .ref (am 16), .int 0, .int 0, .int 0, .ref (am 17), .int 0, .int 0, .ref (am 18), .ref (am 19), .int 0, .int 1, .ref (am 20), .int 0, .int 0, .int 0, .int 0])), (am 2, .inl (cy 0, 575, .inl f_4)), (am 6, .inl (cy 0, 176, .inl f_5))] H := by rw [ef_5]; exact hP
      have hD : va_D A [(am 0, .inr (12, [.int 0, .ref (am 1), .int 0, .int 0, .int 400, .int 0, .int 0, .int 0, .int 0, .int 0, .int 0, .int 0, .long 0, .int 0, .ref (am 2), .ref (am 3), .ref (am 4), .ref (am 5), .ref (am 6), .ref (am 7), .ref (am 8), .ref (am 9), .ref (am 10), .ref (am 11), .int 0, .int (-1), .ref (am 12), .ref (am 13), .ref (am 14), .int 0, .ref (am 15), .ref (am 16), .int 0, .int 0, .int 0, .ref (am 17), .int 0, .int 0, .ref (am 18), .ref (am 19), .int 0, .int 1, .ref (am 20), .int 0, .int 0, .int 0, .int 0])), (am 2, .inl (cy 0, 575, .inl f_4)), (am 6, .inl (cy 0, 176, .inl f_5))] := by rw [ef_5]; exact hD
      rw [(nI_clamp (n := i1) (by omega))] at ef_5
      refine lv_iinc (v := nI (i1 + 1)) (lv' := [(2, .int (nI (i1 + 1))), (3, .int (g_2 (157 + i1))), (0, .ref (am 0)), (1, .int 0)]) hx hb dX11_stay_43 hl (k := 3) rfl (nI_add i1 1) (by decide) rfl (fun ls hl => ?_)
      refine lv_goto (tgt := 2) hx hb dX11_stay_46 (by decide) ?_
      exact ih1 (i1 + 1) f_4 f_5  (by omega) _ _ (hP.sub [0, 1, 2] rfl) (hD.sub [0, 1, 2] rfl rfl) hS ls (lv_sub hl [2, 3, 0] rfl)
  exact loop1 176 0 (mi 2) fa  (by omega) _ _ hP hD hS ls (lv_sub hl [1, 2, 0] rfl)
abbrev cX11_book : ByteArray := prog_13_method_115_code
def yX11_book : MethodName := ⟨RX11, "book", "(I)I"⟩
theorem t1982 : Cond.code yX11_book cX11_book 4 (some .int) ∈ GW := gw_mem 2096 (by decide +kernel) (by decide +kernel)
theorem dX11_book_0 : decode cX11_book 0 = .ok (.aload_n 0, 1) := by decide +kernel
theorem dX11_book_1 : decode cX11_book 1 = .ok (.iconst 0, 1) := by decide +kernel
theorem dX11_book_2 : decode cX11_book 2 = .ok (.putfield 1, 3) := by decide +kernel
theorem dX11_book_5 : decode cX11_book 5 = .ok (.iload_n 1, 1) := by decide +kernel
theorem dX11_book_6 : decode cX11_book 6 = .ok (.iconst 0, 1) := by decide +kernel
theorem dX11_book_7 : decode cX11_book 7 = .ok (.iconst 1, 1) := by decide +kernel
theorem dX11_book_8 : decode cX11_book 8 = .ok (.invokestatic 75, 3) := by decide +kernel
theorem dX11_book_11 : decode cX11_book 11 = .ok (.ifCond .ne 7, 3) := by decide +kernel
theorem dX11_book_18 : decode cX11_book 18 = .ok (.aload_n 0, 1) := by decide +kernel
theorem dX11_book_19 : decode cX11_book 19 = .ok (.sipush 400, 3) := by decide +kernel
theorem dX11_book_22 : decode cX11_book 22 = .ok (.invokevirtual 216, 3) := by decide +kernel
theorem dX11_book_25 : decode cX11_book 25 = .ok (.aload_n 0, 1) := by decide +kernel
theorem dX11_book_26 : decode cX11_book 26 = .ok (.iconst 0, 1) := by decide +kernel
theorem dX11_book_27 : decode cX11_book 27 = .ok (.putfield 382, 3) := by decide +kernel
theorem t1486 : Cond.fieldLink RX11 382 "LikenessPoundModel" "lineMany" "I" ∈ GW := gw_mem 1600 (by decide +kernel) (by decide +kernel)
theorem pf_X11_382 {p : Program} {l : Launch} {e : Env} {R : Room} {s : State} {m : MethodId} {args : Array Value} {below : List Frame} {meth : Method} {c : Code} {H : Heap} {locs : List Loc} {cells slots : Nat} {Q : State → Prop} {cc : ByteArray} {pc : Nat} {ls : Array Slot} {rest : List Value} {D : va_G} {A : Nat → Prop} {a : Nat} {tys : List (ClassId × FieldType)} {ws : va_W} {H0 : Heap} (hx : p.tables.exec = Jvm.exec) (hb : c.code = cc) (hts : ∀ w ∈ GW, w.before args s = true) (hown : s.vm.findClass RX11 = some m.cls) (hK : va_K D vwCl tys s) (hP : va_P D vwCl ws H) (hD : va_D A ws) (hS0 : va_S A H0 H locs) (q0 : Nat) {fs : List Value} (he : ws[q0]? = some (a, .inr (12, fs))) {v : Value} (hn : narrow (tyX11 40) v = v) (hfit : fits (tyX11 40) v = true) (hl : 40 < fs.length) (hdg : decode cc pc = .ok (.putfield 382, 3)) (kk : ∀ (H1 : Heap) (locs1 : List Loc), va_P D vwCl (ws.set q0 (a, .inr (12, fs.set 40 v))) H1 → va_D A (ws.set q0 (a, .inr (12, fs.set 40 v))) → va_S A H0 H1 locs1 → W p l e R s m args below meth c H1 locs1 cells slots Q (F0 m (pc + 3) ls rest)) : W p l e R s m args below meth c H locs cells slots Q (F0 m pc ls (v :: .ref a :: rest)) := va_put (C := RX11) (T := TX11) (N := 47) (ci := 12) hx hb hts inX11 tyX11 tkX11 nmX11 hown hK hP hD hS0 q0 he rfl 40 (by decide) (hts _ t1486) (fun _ h => h) rfl (tkX11 40 (by decide)) hn hfit hl hdg kk
theorem dX11_book_30 : decode cX11_book 30 = .ok (.aload_n 0, 1) := by decide +kernel
theorem dX11_book_31 : decode cX11_book 31 = .ok (.getfield 30, 3) := by decide +kernel
theorem dX11_book_34 : decode cX11_book 34 = .ok (.ifCond .eq 31, 3) := by decide +kernel
theorem dX11_book_65 : decode cX11_book 65 = .ok (.aload_n 0, 1) := by decide +kernel
theorem dX11_book_66 : decode cX11_book 66 = .ok (.invokevirtual 364, 3) := by decide +kernel
theorem t1971 : Cond.methodLink RX11 364 yX11_layAside ∈ GW := gw_mem 2085 (by decide +kernel) (by decide +kernel)
theorem t1973 : Cond.instanceMethod yX11_layAside ∈ GW := gw_mem 2087 (by decide +kernel) (by decide +kernel)
theorem s95 : Cond.selects RX11 yX11_layAside yX11_layAside ∈ GW := gw_mem 95 (by decide +kernel) (by decide +kernel)
theorem cw_X11_364 {R : Room} {s : State} {args : Array Value} {rm : Room} {mc ms : Nat} (hts : ∀ w ∈ GW, w.before args s = true) (hrc : rm.cells = mc) (hrs : rm.slots = ms) (hR : rm.frames + 1 ≤ R.frames ∧ 8 + (2 + 11) + rm.locals ≤ R.locals) : CallW R s args RX11 RX11 364 yX11_layAside cX11_layAside 2 none (wl yX11_layAside cX11_layAside 2 none) rm mc ms 0 := cwV 0 hts (gi_V t1971 t1973 s95 t18 t1974) rfl hrc hrs (by decide +kernel) hR
theorem dX11_book_69 : decode cX11_book 69 = .ok (.iconst 0, 1) := by decide +kernel
theorem dX11_book_70 : decode cX11_book 70 = .ok (.istore_n 2, 1) := by decide +kernel
theorem dX11_book_71 : decode cX11_book 71 = .ok (.iconst 0, 1) := by decide +kernel
theorem dX11_book_72 : decode cX11_book 72 = .ok (.istore_n 3, 1) := by decide +kernel
theorem dX11_book_73 : decode cX11_book 73 = .ok (.iload_n 2, 1) := by decide +kernel
theorem dX11_book_74 : decode cX11_book 74 = .ok (.aload_n 0, 1) := by decide +kernel
theorem dX11_book_75 : decode cX11_book 75 = .ok (.getfield 382, 3) := by decide +kernel
theorem gf_X11_382 {p : Program} {l : Launch} {e : Env} {R : Room} {s : State} {m : MethodId} {args : Array Value} {below : List Frame} {meth : Method} {c : Code} {H : Heap} {locs : List Loc} {cells slots : Nat} {Q : State → Prop} {cc : ByteArray} {pc : Nat} {ls : Array Slot} {rest : List Value} {D : va_G} {a : Nat} {tys : List (ClassId × FieldType)} {ws : va_W} (hx : p.tables.exec = Jvm.exec) (hb : c.code = cc) (hts : ∀ w ∈ GW, w.before args s = true) (hown : s.vm.findClass RX11 = some m.cls) (hK : va_K D vwCl tys s) (hP : va_P D vwCl ws H) (q0 : Nat) {fs : List Value} (he : ws[q0]? = some (a, .inr (12, fs))) {v : Value} (hv : fs[40]? = some v) (hdg : decode cc pc = .ok (.getfield 382, 3)) (kk : W p l e R s m args below meth c H locs cells slots Q (F0 m (pc + 3) ls (v :: rest))) : W p l e R s m args below meth c H locs cells slots Q (F0 m pc ls (.ref a :: rest)) := va_get (C := RX11) (T := TX11) (N := 47) (ci := 12) hx hb hts inX11 hown hK hP q0 he rfl 40 (by decide) (hts _ t1486) (fun _ h => h) hv hdg kk
theorem dX11_book_78 : decode cX11_book 78 = .ok (.if_icmp .ge 25, 3) := by decide +kernel
theorem dX11_book_103 : decode cX11_book 103 = .ok (.aload_n 0, 1) := by decide +kernel
theorem dX11_book_104 : decode cX11_book 104 = .ok (.getfield 154, 3) := by decide +kernel
theorem t1485 : Cond.fieldLink RX11 154 "LikenessPoundModel" "written" "[I" ∈ GW := gw_mem 1599 (by decide +kernel) (by decide +kernel)
theorem gf_X11_154 {p : Program} {l : Launch} {e : Env} {R : Room} {s : State} {m : MethodId} {args : Array Value} {below : List Frame} {meth : Method} {c : Code} {H : Heap} {locs : List Loc} {cells slots : Nat} {Q : State → Prop} {cc : ByteArray} {pc : Nat} {ls : Array Slot} {rest : List Value} {D : va_G} {a : Nat} {tys : List (ClassId × FieldType)} {ws : va_W} (hx : p.tables.exec = Jvm.exec) (hb : c.code = cc) (hts : ∀ w ∈ GW, w.before args s = true) (hown : s.vm.findClass RX11 = some m.cls) (hK : va_K D vwCl tys s) (hP : va_P D vwCl ws H) (q0 : Nat) {fs : List Value} (he : ws[q0]? = some (a, .inr (12, fs))) {v : Value} (hv : fs[39]? = some v) (hdg : decode cc pc = .ok (.getfield 154, 3)) (kk : W p l e R s m args below meth c H locs cells slots Q (F0 m (pc + 3) ls (v :: rest))) : W p l e R s m args below meth c H locs cells slots Q (F0 m pc ls (.ref a :: rest)) := va_get (C := RX11) (T := TX11) (N := 47) (ci := 12) hx hb hts inX11 hown hK hP q0 he rfl 39 (by decide) (hts _ t1485) (fun _ h => h) hv hdg kk
theorem dX11_book_107 : decode cX11_book 107 = .ok (.iconst 0, 1) := by decide +kernel
theorem dX11_book_108 : decode cX11_book 108 = .ok (.iload_n 3, 1) := by decide +kernel
theorem dX11_book_109 : decode cX11_book 109 = .ok (.iastore, 1) := by decide +kernel
theorem dX11_book_110 : decode cX11_book 110 = .ok (.aload_n 0, 1) := by decide +kernel
theorem dX11_book_111 : decode cX11_book 111 = .ok (.getfield 154, 3) := by decide +kernel
theorem dX11_book_114 : decode cX11_book 114 = .ok (.iconst 1, 1) := by decide +kernel
theorem dX11_book_115 : decode cX11_book 115 = .ok (.iload_n 2, 1) := by decide +kernel
theorem dX11_book_116 : decode cX11_book 116 = .ok (.iastore, 1) := by decide +kernel
theorem dX11_book_117 : decode cX11_book 117 = .ok (.aload_n 0, 1) := by decide +kernel
theorem dX11_book_118 : decode cX11_book 118 = .ok (.getfield 154, 3) := by decide +kernel
theorem dX11_book_121 : decode cX11_book 121 = .ok (.iconst 2, 1) := by decide +kernel
theorem dX11_book_122 : decode cX11_book 122 = .ok (.aload_n 0, 1) := by decide +kernel
theorem dX11_book_123 : decode cX11_book 123 = .ok (.getfield 98, 3) := by decide +kernel
theorem dX11_book_126 : decode cX11_book 126 = .ok (.sipush 157, 3) := by decide +kernel
theorem dX11_book_129 : decode cX11_book 129 = .ok (.iaload, 1) := by decide +kernel
theorem dX11_book_130 : decode cX11_book 130 = .ok (.iastore, 1) := by decide +kernel
theorem dX11_book_131 : decode cX11_book 131 = .ok (.aload_n 0, 1) := by decide +kernel
theorem dX11_book_132 : decode cX11_book 132 = .ok (.getfield 154, 3) := by decide +kernel
theorem dX11_book_135 : decode cX11_book 135 = .ok (.iconst 3, 1) := by decide +kernel
theorem dX11_book_136 : decode cX11_book 136 = .ok (.aload_n 0, 1) := by decide +kernel
theorem dX11_book_137 : decode cX11_book 137 = .ok (.iconst 1, 1) := by decide +kernel
theorem dX11_book_138 : decode cX11_book 138 = .ok (.invokevirtual 262, 3) := by decide +kernel
theorem dX11_book_141 : decode cX11_book 141 = .ok (.iastore, 1) := by decide +kernel
theorem dX11_book_142 : decode cX11_book 142 = .ok (.aload_n 0, 1) := by decide +kernel
theorem dX11_book_143 : decode cX11_book 143 = .ok (.iconst 1, 1) := by decide +kernel
theorem dX11_book_144 : decode cX11_book 144 = .ok (.putfield 394, 3) := by decide +kernel
theorem pf_X11_394 {p : Program} {l : Launch} {e : Env} {R : Room} {s : State} {m : MethodId} {args : Array Value} {below : List Frame} {meth : Method} {c : Code} {H : Heap} {locs : List Loc} {cells slots : Nat} {Q : State → Prop} {cc : ByteArray} {pc : Nat} {ls : Array Slot} {rest : List Value} {D : va_G} {A : Nat → Prop} {a : Nat} {tys : List (ClassId × FieldType)} {ws : va_W} {H0 : Heap} (hx : p.tables.exec = Jvm.exec) (hb : c.code = cc) (hts : ∀ w ∈ GW, w.before args s = true) (hown : s.vm.findClass RX11 = some m.cls) (hK : va_K D vwCl tys s) (hP : va_P D vwCl ws H) (hD : va_D A ws) (hS0 : va_S A H0 H locs) (q0 : Nat) {fs : List Value} (he : ws[q0]? = some (a, .inr (12, fs))) {v : Value} (hn : narrow (tyX11 41) v = v) (hfit : fits (tyX11 41) v = true) (hl : 41 < fs.length) (hdg : decode cc pc = .ok (.putfield 394, 3)) (kk : ∀ (H1 : Heap) (locs1 : List Loc), va_P D vwCl (ws.set q0 (a, .inr (12, fs.set 41 v))) H1 → va_D A (ws.set q0 (a, .inr (12, fs.set 41 v))) → va_S A H0 H1 locs1 → W p l e R s m args below meth c H1 locs1 cells slots Q (F0 m (pc + 3) ls rest)) : W p l e R s m args below meth c H locs cells slots Q (F0 m pc ls (v :: .ref a :: rest)) := va_put (C := RX11) (T := TX11) (N := 47) (ci := 12) hx hb hts inX11 tyX11 tkX11 nmX11 hown hK hP hD hS0 q0 he rfl 41 (by decide) (hts _ t1487) (fun _ h => h) rfl (tkX11 41 (by decide)) hn hfit hl hdg kk
theorem dX11_book_147 : decode cX11_book 147 = .ok (.aload_n 0, 1) := by decide +kernel
theorem dX11_book_148 : decode cX11_book 148 = .ok (.iload_n 1, 1) := by decide +kernel
theorem dX11_book_149 : decode cX11_book 149 = .ok (.iconst 1, 1) := by decide +kernel
theorem dX11_book_150 : decode cX11_book 150 = .ok (.if_icmp .ne 11, 3) := by decide +kernel
theorem dX11_book_161 : decode cX11_book 161 = .ok (.iconst 0, 1) := by decide +kernel
theorem dX11_book_162 : decode cX11_book 162 = .ok (.invokevirtual 398, 3) := by decide +kernel
theorem t2011 : Cond.methodLink RX11 398 yX11_stay ∈ GW := gw_mem 2125 (by decide +kernel) (by decide +kernel)
theorem t2013 : Cond.instanceMethod yX11_stay ∈ GW := gw_mem 2127 (by decide +kernel) (by decide +kernel)
theorem s104 : Cond.selects RX11 yX11_stay yX11_stay ∈ GW := gw_mem 104 (by decide +kernel) (by decide +kernel)
theorem cw_X11_398 {R : Room} {s : State} {args : Array Value} {rm : Room} {mc ms : Nat} (hts : ∀ w ∈ GW, w.before args s = true) (hrc : rm.cells = mc) (hrs : rm.slots = ms) (hR : rm.frames + 1 ≤ R.frames ∧ 8 + (4 + 11) + rm.locals ≤ R.locals) : CallW R s args RX11 RX11 398 yX11_stay cX11_stay 4 none (wl yX11_stay cX11_stay 4 none) rm mc ms 1 := cwV 1 hts (gi_V t2011 t2013 s104 t18 t2014) rfl hrc hrs (by decide +kernel) hR
theorem dX11_book_165 : decode cX11_book 165 = .ok (.iload_n 3, 1) := by decide +kernel
theorem dX11_book_166 : decode cX11_book 166 = .ok (.ifCond .ne 7, 3) := by decide +kernel
theorem dX11_book_169 : decode cX11_book 169 = .ok (.iconst (-1), 1) := by decide +kernel
theorem dX11_book_170 : decode cX11_book 170 = .ok (.goto 4, 3) := by decide +kernel
theorem dX11_book_174 : decode cX11_book 174 = .ok (.ireturn, 1) := by decide +kernel
theorem dX11_book_153 : decode cX11_book 153 = .ok (.iload_n 2, 1) := by decide +kernel
theorem dX11_book_154 : decode cX11_book 154 = .ok (.ifCond .le 7, 3) := by decide +kernel
theorem dX11_book_14 : decode cX11_book 14 = .ok (.sipush (-1000), 3) := by decide +kernel
theorem dX11_book_17 : decode cX11_book 17 = .ok (.ireturn, 1) := by decide +kernel
set_option maxHeartbeats 4000000 in
set_option maxRecDepth 100000 in
theorem m_book (l : Launch) (dC : Nat → ClassId) (dI : Nat → Nat → Nat) (cy : Nat → ClassId) (sz : Nat) (am : Nat → Nat) (mi : Nat → Nat → Int32) (n0 : Int32) (hn : NowOk (mi 2)) : Met l yX11_book (wl yX11_book cX11_book 4 (some .int)) ({ frames := 3, cells := 0, slots := 0, locals := 192 }) (Pw (dC, dI) vwCl cy [(am 0, .inr (12, [.int 0, .ref (am 1), .int 0, .int 0, .int 0, .int 0, .int 0, .int 0, .int 0, .int 0, .int 0, .int 0, .long 0, .int 0, .ref (am 2), .ref (am 3), .ref (am 4), .ref (am 5), .ref (am 6), .ref (am 7), .ref (am 8), .ref (am 9), .ref (am 10), .ref (am 11), .int 0, .int (-1), .ref (am 12), .ref (am 13), .ref (am 14), .int 0, .ref (am 15), .ref (am 16), .int 0, .int 0, .int 0, .ref (am 17), .int 0, .int 0, .ref (am 18), .ref (am 19), .int 0, .int 0, .ref (am 20), .int 0, .int 0, .int 0, .int 0])), (am 2, .inl (cy 0, 575, .inl (mi 2))), (am 6, .inl (cy 0, 176, .inl (mi 6))), (am 19, .inl (cy 0, 4, .inl (mi 19)))] sz [.ref (am 0), .int n0] nE) (Qi (dC, dI) vwCl (fun (r : Int32) (u : Unit) => r = bkF n0) (fun (u : Unit) => []) (va_A [(am 0, .inr (12, [.int 0, .ref (am 1), .int 0, .int 0, .int 0, .int 0, .int 0, .int 0, .int 0, .int 0, .int 0, .int 0, .long 0, .int 0, .ref (am 2), .ref (am 3), .ref (am 4), .ref (am 5), .ref (am 6), .ref (am 7), .ref (am 8), .ref (am 9), .ref (am 10), .ref (am 11), .int 0, .int (-1), .ref (am 12), .ref (am 13), .ref (am 14), .int 0, .ref (am 15), .ref (am 16), .int 0, .int 0, .int 0, .ref (am 17), .int 0, .int 0, .ref (am 18), .ref (am 19), .int 0, .int 0, .ref (am 20), .int 0, .int 0, .int 0, .int 0])), (am 2, .inl (cy 0, 575, .inl (mi 2))), (am 6, .inl (cy 0, 176, .inl (mi 6))), (am 19, .inl (cy 0, 4, .inl (mi 19)))] sz)) 0 0 (va_A [(am 0, .inr (12, [.int 0, .ref (am 1), .int 0, .int 0, .int 0, .int 0, .int 0, .int 0, .int 0, .int 0, .int 0, .int 0, .long 0, .int 0, .ref (am 2), .ref (am 3), .ref (am 4), .ref (am 5), .ref (am 6), .ref (am 7), .ref (am 8), .ref (am 9), .ref (am 10), .ref (am 11), .int 0, .int (-1), .ref (am 12), .ref (am 13), .ref (am 14), .int 0, .ref (am 15), .ref (am 16), .int 0, .int 0, .int 0, .ref (am 17), .int 0, .int 0, .ref (am 18), .ref (am 19), .int 0, .int 0, .ref (am 20), .int 0, .int 0, .int 0, .int 0])), (am 2, .inl (cy 0, 575, .inl (mi 2))), (am 6, .inl (cy 0, 176, .inl (mi 6))), (am 19, .inl (cy 0, 4, .inl (mi 19)))] sz) := by
  refine mw (Qc := Qi (dC, dI) vwCl (fun (r : Int32) (u : Unit) => r = bkF n0) (fun (u : Unit) => [])) RX11 rfl (by decide +kernel) (Nat.le_of_ble_eq_true rfl) ?_
  intro p e s m below meth c A hx hb hr hlocks av9 hav hts hown hnm hml hK hP hD hA hS hE hAe Q9 hQ9 ls hl
  have hl : lv_has ls 4 [(0, .ref (am 0)), (1, .int n0)] := hl
  refine lv_aload_n hx hb dX11_book_0 rfl (lv_at hl 0 rfl) ?_
  refine lv_iconst (v := 0) hx hb dX11_book_1 (by decide) ?_
  refine pf_X11_1 hx hb hts hown hK hP hD hS 0 rfl rfl rfl (Nat.le_of_ble_eq_true rfl) dX11_book_2 (fun H locs hP hD hS => ?_)
  have hP : va_P (dC, dI) vwCl [(am 0, .inr (12, [.int 0, .ref (am 1), .int 0, .int 0, .int 0, .int 0, .int 0, .int 0, .int 0, .int 0, .int 0, .int 0, .long 0, .int 0, .ref (am 2), .ref (am 3), .ref (am 4), .ref (am 5), .ref (am 6), .ref (am 7), .ref (am 8), .ref (am 9), .ref (am 10), .ref (am 11), .int 0, .int (-1), .ref (am 12), .ref (am 13), .ref (am 14), .int 0, .ref (am 15), .ref (am 16), .int 0, .int 0, .int 0, .ref (am 17), .int 0, .int 0, .ref (am 18), .ref (am 19), .int 0, .int 0, .ref (am 20), .int 0, .int 0, .int 0, .int 0])), (am 2, .inl (cy 0, 575, .inl (mi 2))), (am 6, .inl (cy 0, 176, .inl (mi 6))), (am 19, .inl (cy 0, 4, .inl (mi 19)))] H := hP
  have hD : va_D A [(am 0, .inr (12, [.int 0, .ref (am 1), .int 0, .int 0, .int 0, .int 0, .int 0, .int 0, .int 0, .int 0, .int 0, .int 0, .long 0, .int 0, .ref (am 2), .ref (am 3), .ref (am 4), .ref (am 5), .ref (am 6), .ref (am 7), .ref (am 8), .ref (am 9), .ref (am 10), .ref (am 11), .int 0, .int (-1), .ref (am 12), .ref (am 13), .ref (am 14), .int 0, .ref (am 15), .ref (am 16), .int 0, .int 0, .int 0, .ref (am 17), .int 0, .int 0, .ref (am 18), .ref (am 19), .int 0, .int 0, .ref (am 20), .int 0, .int 0, .int 0, .int 0])), (am 2, .inl (cy 0, 575, .inl (mi 2))), (am 6, .inl (cy 0, 176, .inl (mi 6))), (am 19, .inl (cy 0, 4, .inl (mi 19)))] := hD
  refine lv_iload_n hx hb dX11_book_5 rfl (lv_at hl 1 rfl) ?_
  refine lv_iconst (v := 0) hx hb dX11_book_6 (by decide) ?_
  refine lv_iconst (v := 1) hx hb dX11_book_7 (by decide) ?_
  refine jr_i (rSr (As := [.int n0, .int 0, .int 1]) (rest := []) ⟨hx, hb, hml, hown, hts⟩ (m_isIn l dC dI cy n0 0 1 ) (cw_X11_75 hts rfl rfl ⟨Nat.le_of_ble_eq_true rfl, Nat.le_of_ble_eq_true rfl⟩) hP hK [] rfl rfl hl.1 rfl (Nat.le_of_ble_eq_true rfl) dX11_book_8 ⟨Nat.le_of_ble_eq_true rfl, Nat.le_of_ble_eq_true rfl⟩) hP hS (fun r_1 H locs hp_2 hP hS => ?_)
  refine as_i (inF n0 0 1) hp_2 ?_
  refine lv_if_ne (tgt := 18) hx hb dX11_book_11 (by decide) (fun c_3 => ?_) (fun c_3 => ?_)
  · skip
    have h9 : n0 = 0 ∨ n0 = 1 := inF_01 c_3
    rcases h9 with rfl | rfl
    · skip
      refine lv_aload_n hx hb dX11_book_18 rfl (lv_at hl 0 rfl) ?_
      refine lv_sipush (v := 400) hx hb dX11_book_19 (by decide) ?_
      refine jn_v (wr := [(am 2, .inl (cy 0, 575, .inl (mi 2))), (am 6, .inl (cy 0, 176, .inl (mi 6))), (am 19, .inl (cy 0, 4, .inl (mi 19)))]) (rV (As := [.int 400]) (rest := []) (ci := 12) ⟨hx, hb, hml, hown, hts⟩ (m_begin400 l dC dI cy _ am ) (cw_X11_216 hts rfl rfl ⟨Nat.le_of_ble_eq_true rfl, Nat.le_of_ble_eq_true rfl⟩) hP hD hK [0] rfl rfl rfl rfl bl0 e0 rfl hl.1 rfl (Nat.le_of_ble_eq_true rfl) dX11_book_22 ⟨Nat.le_of_ble_eq_true rfl, Nat.le_of_ble_eq_true rfl⟩) hP hD hS hA [0] [1, 2, 3] rfl rfl rfl (by decide) (fun u_6 H locs hp_5 hP hD hS => ?_)
      have hp_5 : True := hp_5
      have hP : va_P (dC, dI) vwCl [(am 2, .inl (cy 0, 575, .inl (mi 2))), (am 6, .inl (cy 0, 176, .inl (mi 6))), (am 19, .inl (cy 0, 4, .inl (mi 19))), (am 0, .inr (12, [.int 0, .ref (am 1), .int 0, .int 0, .int 400, .int 0, .int 0, .int 0, .int 0, .int 0, .int 0, .int 0, .long 0, .int 0, .ref (am 2), .ref (am 3), .ref (am 4), .ref (am 5), .ref (am 6), .ref (am 7), .ref (am 8), .ref (am 9), .ref (am 10), .ref (am 11), .int 0, .int (-1), .ref (am 12), .ref (am 13), .ref (am 14), .int 0, .ref (am 15), .ref (am 16), .int 0, .int 0, .int 0, .ref (am 17), .int 0, .int 0, .ref (am 18), .ref (am 19), .int 0, .int 0, .ref (am 20), .int 0, .int 0, .int 0, .int 0]))] H := hP
      have hD : va_D A [(am 2, .inl (cy 0, 575, .inl (mi 2))), (am 6, .inl (cy 0, 176, .inl (mi 6))), (am 19, .inl (cy 0, 4, .inl (mi 19))), (am 0, .inr (12, [.int 0, .ref (am 1), .int 0, .int 0, .int 400, .int 0, .int 0, .int 0, .int 0, .int 0, .int 0, .int 0, .long 0, .int 0, .ref (am 2), .ref (am 3), .ref (am 4), .ref (am 5), .ref (am 6), .ref (am 7), .ref (am 8), .ref (am 9), .ref (am 10), .ref (am 11), .int 0, .int (-1), .ref (am 12), .ref (am 13), .ref (am 14), .int 0, .ref (am 15), .ref (am 16), .int 0, .int 0, .int 0, .ref (am 17), .int 0, .int 0, .ref (am 18), .ref (am 19), .int 0, .int 0, .ref (am 20), .int 0, .int 0, .int 0, .int 0]))] := hD
      refine lv_aload_n hx hb dX11_book_25 rfl (lv_at hl 0 rfl) ?_
      refine lv_iconst (v := 0) hx hb dX11_book_26 (by decide) ?_
      refine pf_X11_382 hx hb hts hown hK hP hD hS 3 rfl rfl rfl (Nat.le_of_ble_eq_true rfl) dX11_book_27 (fun H locs hP hD hS => ?_)
      have hP : va_P (dC, dI) vwCl [(am 2, .inl (cy 0, 575, .inl (mi 2))), (am 6, .inl (cy 0, 176, .inl (mi 6))), (am 19, .inl (cy 0, 4, .inl (mi 19))), (am 0, .inr (12, [.int 0, .ref (am 1), .int 0, .int 0, .int 400, .int 0, .int 0, .int 0, .int 0, .int 0, .int 0, .int 0, .long 0, .int 0, .ref (am 2), .ref (am 3), .ref (am 4), .ref (am 5), .ref (am 6), .ref (am 7), .ref (am 8), .ref (am 9), .ref (am 10), .ref (am 11), .int 0, .int (-1), .ref (am 12), .ref (am 13), .ref (am 14), .int 0, .ref (am 15), .ref (am 16), .int 0, .int 0, .int 0, .ref (am 17), .int 0, .int 0, .ref (am 18), .ref (am 19), .int 0, .int 0, .ref (am 20), .int 0, .int 0, .int 0, .int 0]))] H := hP
      have hD : va_D A [(am 2, .inl (cy 0, 575, .inl (mi 2))), (am 6, .inl (cy 0, 176, .inl (mi 6))), (am 19, .inl (cy 0, 4, .inl (mi 19))), (am 0, .inr (12, [.int 0, .ref (am 1), .int 0, .int 0, .int 400, .int 0, .int 0, .int 0, .int 0, .int 0, .int 0, .int 0, .long 0, .int 0, .ref (am 2), .ref (am 3), .ref (am 4), .ref (am 5), .ref (am 6), .ref (am 7), .ref (am 8), .ref (am 9), .ref (am 10), .ref (am 11), .int 0, .int (-1), .ref (am 12), .ref (am 13), .ref (am 14), .int 0, .ref (am 15), .ref (am 16), .int 0, .int 0, .int 0, .ref (am 17), .int 0, .int 0, .ref (am 18), .ref (am 19), .int 0, .int 0, .ref (am 20), .int 0, .int 0, .int 0, .int 0]))] := hD
      refine lv_aload_n hx hb dX11_book_30 rfl (lv_at hl 0 rfl) ?_
      refine gf_X11_30 hx hb hts hown hK hP 3 rfl rfl dX11_book_31 ?_
      refine lv_if_eq (tgt := 65) hx hb dX11_book_34 (by decide) (fun _ => ?_) (fun c9 => absurd (by decide) c9)
      refine lv_aload_n hx hb dX11_book_65 rfl (lv_at hl 0 rfl) ?_
      refine jn_v (wr := [(am 19, .inl (cy 0, 4, .inl (mi 19)))]) (rV (As := []) (rest := []) (ci := 12) ⟨hx, hb, hml, hown, hts⟩ (m_layAside l dC dI cy _ am mi ) (cw_X11_364 hts rfl rfl ⟨Nat.le_of_ble_eq_true rfl, Nat.le_of_ble_eq_true rfl⟩) hP hD hK [3, 0, 1] rfl rfl rfl rfl bl0 e0 rfl hl.1 rfl (Nat.le_of_ble_eq_true rfl) dX11_book_66 ⟨Nat.le_of_ble_eq_true rfl, Nat.le_of_ble_eq_true rfl⟩) hP hD hS hA [3, 0, 1] [2] rfl rfl rfl (by decide) (fun u_9 H locs hp_8 hP hD hS => ?_)
      obtain ⟨os_10, rfl⟩ : ∃ z, z = u_9 := ⟨_, rfl⟩
      have hp_8 : True := hp_8
      have hP : va_P (dC, dI) vwCl [(am 19, .inl (cy 0, 4, .inl (mi 19))), (am 0, .inr (12, [.int 0, .ref (am 1), .int 0, .int 0, .int 400, .int 0, .int 0, .int 0, .int 0, .int 0, .int 0, .int 0, .long 0, .int 0, .ref (am 2), .ref (am 3), .ref (am 4), .ref (am 5), .ref (am 6), .ref (am 7), .ref (am 8), .ref (am 9), .ref (am 10), .ref (am 11), .int 0, .int (-1), .ref (am 12), .ref (am 13), .ref (am 14), .int 0, .ref (am 15), .ref (am 16), .int 0, .int 0, .int 0, .ref (am 17), .int 0, .int 0, .ref (am 18), .ref (am 19), .int 0, .int 0, .ref (am 20), .int 0, .int 0, .int 0, .int 0])), (am 2, .inl (cy 0, 575, .inl (mi 2))), (am 6, .inl (cy 0, 176, .inl os_10))] H := hP
      have hD : va_D A [(am 19, .inl (cy 0, 4, .inl (mi 19))), (am 0, .inr (12, [.int 0, .ref (am 1), .int 0, .int 0, .int 400, .int 0, .int 0, .int 0, .int 0, .int 0, .int 0, .int 0, .long 0, .int 0, .ref (am 2), .ref (am 3), .ref (am 4), .ref (am 5), .ref (am 6), .ref (am 7), .ref (am 8), .ref (am 9), .ref (am 10), .ref (am 11), .int 0, .int (-1), .ref (am 12), .ref (am 13), .ref (am 14), .int 0, .ref (am 15), .ref (am 16), .int 0, .int 0, .int 0, .ref (am 17), .int 0, .int 0, .ref (am 18), .ref (am 19), .int 0, .int 0, .ref (am 20), .int 0, .int 0, .int 0, .int 0])), (am 2, .inl (cy 0, 575, .inl (mi 2))), (am 6, .inl (cy 0, 176, .inl os_10))] := hD
      refine lv_iconst (v := 0) hx hb dX11_book_69 (by decide) ?_
      refine lv_istore_n (lv' := [(2, .int 0), (0, .ref (am 0)), (1, .int 0)]) hx hb dX11_book_70 rfl hl (by decide) rfl (fun ls hl => ?_)
      refine lv_iconst (v := 0) hx hb dX11_book_71 (by decide) ?_
      refine lv_istore_n (lv' := [(3, .int 0), (2, .int 0), (0, .ref (am 0)), (1, .int 0)]) hx hb dX11_book_72 rfl hl (by decide) rfl (fun ls hl => ?_)
      refine lv_iload_n hx hb dX11_book_73 rfl (lv_at hl 1 rfl) ?_
      refine lv_aload_n hx hb dX11_book_74 rfl (lv_at hl 2 rfl) ?_
      refine gf_X11_382 hx hb hts hown hK hP 1 rfl rfl dX11_book_75 ?_
      refine lv_icmp_ge (tgt := 103) hx hb dX11_book_78 (by decide) (fun _ => ?_) (fun c9 => absurd (by decide) c9)
      refine lv_aload_n hx hb dX11_book_103 rfl (lv_at hl 2 rfl) ?_
      refine gf_X11_154 hx hb hts hown hK hP 1 rfl rfl dX11_book_104 ?_
      refine lv_iconst (v := 0) hx hb dX11_book_107 (by decide) ?_
      refine lv_iload_n hx hb dX11_book_108 rfl (lv_at hl 0 rfl) ?_
      refine va_iast hx hb hK hP hD hS 0 0 rfl rfl (vp_in_nI (n := 0) (N := 4) (by decide) (by decide)) dX11_book_109 (fun H locs hP hD hS => ?_)
      obtain ⟨f_11, ef_11⟩ : ∃ z : Nat → Int32, z = upd (mi 19) (Int32.toNatClampNeg 0) 0 := ⟨_, rfl⟩
      have hP : va_P (dC, dI) vwCl [(am 19, .inl (cy 0, 4, .inl f_11)), (am 0, .inr (12, [.int 0, .ref (am 1), .int 0, .int 0, .int 400, .int 0, .int 0, .int 0, .int 0, .int 0, .int 0, .int 0, .long 0, .int 0, .ref (am 2), .ref (am 3), .ref (am 4), .ref (am 5), .ref (am 6), .ref (am 7), .ref (am 8), .ref (am 9), .ref (am 10), .ref (am 11), .int 0, .int (-1), .ref (am 12), .ref (am 13), .ref (am 14), .int 0, .ref (am 15), .ref (am 16), .int 0, .int 0, .int 0, .ref (am 17), .int 0, .int 0, .ref (am 18), .ref (am 19), .int 0, .int 0, .ref (am 20), .int 0, .int 0, .int 0, .int 0])), (am 2, .inl (cy 0, 575, .inl (mi 2))), (am 6, .inl (cy 0, 176, .inl os_10))] H := by rw [ef_11]; exact hP
      have hD : va_D A [(am 19, .inl (cy 0, 4, .inl f_11)), (am 0, .inr (12, [.int 0, .ref (am 1), .int 0, .int 0, .int 400, .int 0, .int 0, .int 0, .int 0, .int 0, .int 0, .int 0, .long 0, .int 0, .ref (am 2), .ref (am 3), .ref (am 4), .ref (am 5), .ref (am 6), .ref (am 7), .ref (am 8), .ref (am 9), .ref (am 10), .ref (am 11), .int 0, .int (-1), .ref (am 12), .ref (am 13), .ref (am 14), .int 0, .ref (am 15), .ref (am 16), .int 0, .int 0, .int 0, .ref (am 17), .int 0, .int 0, .ref (am 18), .ref (am 19), .int 0, .int 0, .ref (am 20), .int 0, .int 0, .int 0, .int 0])), (am 2, .inl (cy 0, 575, .inl (mi 2))), (am 6, .inl (cy 0, 176, .inl os_10))] := by rw [ef_11]; exact hD
      rw [show (0 : Int32).toNatClampNeg = 0 from rfl] at ef_11
      refine lv_aload_n hx hb dX11_book_110 rfl (lv_at hl 2 rfl) ?_
      refine gf_X11_154 hx hb hts hown hK hP 1 rfl rfl dX11_book_111 ?_
      refine lv_iconst (v := 1) hx hb dX11_book_114 (by decide) ?_
      refine lv_iload_n hx hb dX11_book_115 rfl (lv_at hl 1 rfl) ?_
      refine va_iast hx hb hK hP hD hS 0 0 rfl rfl (vp_in_nI (n := 1) (N := 4) (by decide) (by decide)) dX11_book_116 (fun H locs hP hD hS => ?_)
      obtain ⟨f_12, ef_12⟩ : ∃ z : Nat → Int32, z = upd f_11 (Int32.toNatClampNeg 1) 0 := ⟨_, rfl⟩
      have hP : va_P (dC, dI) vwCl [(am 19, .inl (cy 0, 4, .inl f_12)), (am 0, .inr (12, [.int 0, .ref (am 1), .int 0, .int 0, .int 400, .int 0, .int 0, .int 0, .int 0, .int 0, .int 0, .int 0, .long 0, .int 0, .ref (am 2), .ref (am 3), .ref (am 4), .ref (am 5), .ref (am 6), .ref (am 7), .ref (am 8), .ref (am 9), .ref (am 10), .ref (am 11), .int 0, .int (-1), .ref (am 12), .ref (am 13), .ref (am 14), .int 0, .ref (am 15), .ref (am 16), .int 0, .int 0, .int 0, .ref (am 17), .int 0, .int 0, .ref (am 18), .ref (am 19), .int 0, .int 0, .ref (am 20), .int 0, .int 0, .int 0, .int 0])), (am 2, .inl (cy 0, 575, .inl (mi 2))), (am 6, .inl (cy 0, 176, .inl os_10))] H := by rw [ef_12]; exact hP
      have hD : va_D A [(am 19, .inl (cy 0, 4, .inl f_12)), (am 0, .inr (12, [.int 0, .ref (am 1), .int 0, .int 0, .int 400, .int 0, .int 0, .int 0, .int 0, .int 0, .int 0, .int 0, .long 0, .int 0, .ref (am 2), .ref (am 3), .ref (am 4), .ref (am 5), .ref (am 6), .ref (am 7), .ref (am 8), .ref (am 9), .ref (am 10), .ref (am 11), .int 0, .int (-1), .ref (am 12), .ref (am 13), .ref (am 14), .int 0, .ref (am 15), .ref (am 16), .int 0, .int 0, .int 0, .ref (am 17), .int 0, .int 0, .ref (am 18), .ref (am 19), .int 0, .int 0, .ref (am 20), .int 0, .int 0, .int 0, .int 0])), (am 2, .inl (cy 0, 575, .inl (mi 2))), (am 6, .inl (cy 0, 176, .inl os_10))] := by rw [ef_12]; exact hD
      rw [show (1 : Int32).toNatClampNeg = 1 from rfl] at ef_12
      refine lv_aload_n hx hb dX11_book_117 rfl (lv_at hl 2 rfl) ?_
      refine gf_X11_154 hx hb hts hown hK hP 1 rfl rfl dX11_book_118 ?_
      refine lv_iconst (v := 2) hx hb dX11_book_121 (by decide) ?_
      refine lv_aload_n hx hb dX11_book_122 rfl (lv_at hl 2 rfl) ?_
      refine gf_X11_98 hx hb hts hown hK hP 1 rfl rfl dX11_book_123 ?_
      refine lv_sipush (v := 157) hx hb dX11_book_126 (by decide) ?_
      refine va_iald hx hb hK hP 2 0 rfl rfl (vp_in_nI (n := 157) (N := 575) (by decide) (by decide)) dX11_book_129 ?_
      refine as_i 0 ((congrArg (mi 2) (show (157 : Int32).toNatClampNeg = 157 from rfl)).trans hn.2.2.2.2.1) ?_
      refine va_iast hx hb hK hP hD hS 0 0 rfl rfl (vp_in_nI (n := 2) (N := 4) (by decide) (by decide)) dX11_book_130 (fun H locs hP hD hS => ?_)
      obtain ⟨f_13, ef_13⟩ : ∃ z : Nat → Int32, z = upd f_12 (Int32.toNatClampNeg 2) 0 := ⟨_, rfl⟩
      have hP : va_P (dC, dI) vwCl [(am 19, .inl (cy 0, 4, .inl f_13)), (am 0, .inr (12, [.int 0, .ref (am 1), .int 0, .int 0, .int 400, .int 0, .int 0, .int 0, .int 0, .int 0, .int 0, .int 0, .long 0, .int 0, .ref (am 2), .ref (am 3), .ref (am 4), .ref (am 5), .ref (am 6), .ref (am 7), .ref (am 8), .ref (am 9), .ref (am 10), .ref (am 11), .int 0, .int (-1), .ref (am 12), .ref (am 13), .ref (am 14), .int 0, .ref (am 15), .ref (am 16), .int 0, .int 0, .int 0, .ref (am 17), .int 0, .int 0, .ref (am 18), .ref (am 19), .int 0, .int 0, .ref (am 20), .int 0, .int 0, .int 0, .int 0])), (am 2, .inl (cy 0, 575, .inl (mi 2))), (am 6, .inl (cy 0, 176, .inl os_10))] H := by rw [ef_13]; exact hP
      have hD : va_D A [(am 19, .inl (cy 0, 4, .inl f_13)), (am 0, .inr (12, [.int 0, .ref (am 1), .int 0, .int 0, .int 400, .int 0, .int 0, .int 0, .int 0, .int 0, .int 0, .int 0, .long 0, .int 0, .ref (am 2), .ref (am 3), .ref (am 4), .ref (am 5), .ref (am 6), .ref (am 7), .ref (am 8), .ref (am 9), .ref (am 10), .ref (am 11), .int 0, .int (-1), .ref (am 12), .ref (am 13), .ref (am 14), .int 0, .ref (am 15), .ref (am 16), .int 0, .int 0, .int 0, .ref (am 17), .int 0, .int 0, .ref (am 18), .ref (am 19), .int 0, .int 0, .ref (am 20), .int 0, .int 0, .int 0, .int 0])), (am 2, .inl (cy 0, 575, .inl (mi 2))), (am 6, .inl (cy 0, 176, .inl os_10))] := by rw [ef_13]; exact hD
      rw [show (2 : Int32).toNatClampNeg = 2 from rfl] at ef_13
      refine lv_aload_n hx hb dX11_book_131 rfl (lv_at hl 2 rfl) ?_
      refine gf_X11_154 hx hb hts hown hK hP 1 rfl rfl dX11_book_132 ?_
      refine lv_iconst (v := 3) hx hb dX11_book_135 (by decide) ?_
      refine lv_aload_n hx hb dX11_book_136 rfl (lv_at hl 2 rfl) ?_
      refine lv_iconst (v := 1) hx hb dX11_book_137 (by decide) ?_
      refine jr_i (rVr (As := [.int 1]) (rest := [.int 3, .ref (am 19)]) (ci := 12) ⟨hx, hb, hml, hown, hts⟩ (m_those4 l dC dI cy am mi 1 hn) (cw_X11_262 hts rfl rfl ⟨Nat.le_of_ble_eq_true rfl, Nat.le_of_ble_eq_true rfl⟩) hP hK [1, 2] rfl rfl rfl rfl hl.1 rfl (Nat.le_of_ble_eq_true rfl) dX11_book_138 ⟨Nat.le_of_ble_eq_true rfl, Nat.le_of_ble_eq_true rfl⟩) hP hS (fun r_14 H locs hp_15 hP hS => ?_)
      refine as_i 0 hp_15 ?_
      refine va_iast hx hb hK hP hD hS 0 0 rfl rfl (vp_in_nI (n := 3) (N := 4) (by decide) (by decide)) dX11_book_141 (fun H locs hP hD hS => ?_)
      obtain ⟨f_16, ef_16⟩ : ∃ z : Nat → Int32, z = upd f_13 (Int32.toNatClampNeg 3) 0 := ⟨_, rfl⟩
      have hP : va_P (dC, dI) vwCl [(am 19, .inl (cy 0, 4, .inl f_16)), (am 0, .inr (12, [.int 0, .ref (am 1), .int 0, .int 0, .int 400, .int 0, .int 0, .int 0, .int 0, .int 0, .int 0, .int 0, .long 0, .int 0, .ref (am 2), .ref (am 3), .ref (am 4), .ref (am 5), .ref (am 6), .ref (am 7), .ref (am 8), .ref (am 9), .ref (am 10), .ref (am 11), .int 0, .int (-1), .ref (am 12), .ref (am 13), .ref (am 14), .int 0, .ref (am 15), .ref (am 16), .int 0, .int 0, .int 0, .ref (am 17), .int 0, .int 0, .ref (am 18), .ref (am 19), .int 0, .int 0, .ref (am 20), .int 0, .int 0, .int 0, .int 0])), (am 2, .inl (cy 0, 575, .inl (mi 2))), (am 6, .inl (cy 0, 176, .inl os_10))] H := by rw [ef_16]; exact hP
      have hD : va_D A [(am 19, .inl (cy 0, 4, .inl f_16)), (am 0, .inr (12, [.int 0, .ref (am 1), .int 0, .int 0, .int 400, .int 0, .int 0, .int 0, .int 0, .int 0, .int 0, .int 0, .long 0, .int 0, .ref (am 2), .ref (am 3), .ref (am 4), .ref (am 5), .ref (am 6), .ref (am 7), .ref (am 8), .ref (am 9), .ref (am 10), .ref (am 11), .int 0, .int (-1), .ref (am 12), .ref (am 13), .ref (am 14), .int 0, .ref (am 15), .ref (am 16), .int 0, .int 0, .int 0, .ref (am 17), .int 0, .int 0, .ref (am 18), .ref (am 19), .int 0, .int 0, .ref (am 20), .int 0, .int 0, .int 0, .int 0])), (am 2, .inl (cy 0, 575, .inl (mi 2))), (am 6, .inl (cy 0, 176, .inl os_10))] := by rw [ef_16]; exact hD
      rw [show (3 : Int32).toNatClampNeg = 3 from rfl] at ef_16
      refine lv_aload_n hx hb dX11_book_142 rfl (lv_at hl 2 rfl) ?_
      refine lv_iconst (v := 1) hx hb dX11_book_143 (by decide) ?_
      refine pf_X11_394 hx hb hts hown hK hP hD hS 1 rfl rfl rfl (Nat.le_of_ble_eq_true rfl) dX11_book_144 (fun H locs hP hD hS => ?_)
      have hP : va_P (dC, dI) vwCl [(am 19, .inl (cy 0, 4, .inl f_16)), (am 0, .inr (12, [.int 0, .ref (am 1), .int 0, .int 0, .int 400, .int 0, .int 0, .int 0, .int 0, .int 0, .int 0, .int 0, .long 0, .int 0, .ref (am 2), .ref (am 3), .ref (am 4), .ref (am 5), .ref (am 6), .ref (am 7), .ref (am 8), .ref (am 9), .ref (am 10), .ref (am 11), .int 0, .int (-1), .ref (am 12), .ref (am 13), .ref (am 14), .int 0, .ref (am 15), .ref (am 16), .int 0, .int 0, .int 0, .ref (am 17), .int 0, .int 0, .ref (am 18), .ref (am 19), .int 0, .int 1, .ref (am 20), .int 0, .int 0, .int 0, .int 0])), (am 2, .inl (cy 0, 575, .inl (mi 2))), (am 6, .inl (cy 0, 176, .inl os_10))] H := hP
      have hD : va_D A [(am 19, .inl (cy 0, 4, .inl f_16)), (am 0, .inr (12, [.int 0, .ref (am 1), .int 0, .int 0, .int 400, .int 0, .int 0, .int 0, .int 0, .int 0, .int 0, .int 0, .long 0, .int 0, .ref (am 2), .ref (am 3), .ref (am 4), .ref (am 5), .ref (am 6), .ref (am 7), .ref (am 8), .ref (am 9), .ref (am 10), .ref (am 11), .int 0, .int (-1), .ref (am 12), .ref (am 13), .ref (am 14), .int 0, .ref (am 15), .ref (am 16), .int 0, .int 0, .int 0, .ref (am 17), .int 0, .int 0, .ref (am 18), .ref (am 19), .int 0, .int 1, .ref (am 20), .int 0, .int 0, .int 0, .int 0])), (am 2, .inl (cy 0, 575, .inl (mi 2))), (am 6, .inl (cy 0, 176, .inl os_10))] := hD
      refine lv_aload_n hx hb dX11_book_147 rfl (lv_at hl 2 rfl) ?_
      refine lv_iload_n hx hb dX11_book_148 rfl (lv_at hl 3 rfl) ?_
      refine lv_iconst (v := 1) hx hb dX11_book_149 (by decide) ?_
      refine lv_icmp_ne (tgt := 161) hx hb dX11_book_150 (by decide) (fun _ => ?_) (fun c9 => absurd c9 (by decide))
      refine lv_iconst (v := 0) hx hb dX11_book_161 (by decide) ?_
      refine jn_v (wr := [(am 19, .inl (cy 0, 4, .inl f_16))]) (rV (As := [.int 0]) (rest := []) (ci := 12) ⟨hx, hb, hml, hown, hts⟩ (m_stay l dC dI cy _ am mi os_10 ) (cw_X11_398 hts rfl rfl ⟨Nat.le_of_ble_eq_true rfl, Nat.le_of_ble_eq_true rfl⟩) hP hD hK [1, 2, 3] rfl rfl rfl rfl bl0 e0 rfl hl.1 rfl (Nat.le_of_ble_eq_true rfl) dX11_book_162 ⟨Nat.le_of_ble_eq_true rfl, Nat.le_of_ble_eq_true rfl⟩) hP hD hS hA [1, 2, 3] [0] rfl rfl rfl (by decide) (fun u_19 H locs hp_18 hP hD hS => ?_)
      have hp_18 : True := hp_18
      have hP : va_P (dC, dI) vwCl [(am 19, .inl (cy 0, 4, .inl f_16))] H := hP
      have hD : va_D A [(am 19, .inl (cy 0, 4, .inl f_16))] := hD
      refine lv_iload_n hx hb dX11_book_165 rfl (lv_at hl 0 rfl) ?_
      refine lv_if_ne (tgt := 173) hx hb dX11_book_166 (by decide) (fun c9 => absurd c9 (by decide)) (fun _ => ?_)
      refine lv_iconst (v := (-1)) hx hb dX11_book_169 (by decide) ?_
      refine lv_goto (tgt := 174) hx hb dX11_book_170 (by decide) ?_
      rw [hQ9]
      exact re_i () hx hb hr hlocks (show _ = bkF _ by decide) (hP.sub [] rfl) (hD.sub [] rfl rfl) hS dX11_book_174
    · skip
      refine lv_aload_n hx hb dX11_book_18 rfl (lv_at hl 0 rfl) ?_
      refine lv_sipush (v := 400) hx hb dX11_book_19 (by decide) ?_
      refine jn_v (wr := [(am 2, .inl (cy 0, 575, .inl (mi 2))), (am 6, .inl (cy 0, 176, .inl (mi 6))), (am 19, .inl (cy 0, 4, .inl (mi 19)))]) (rV (As := [.int 400]) (rest := []) (ci := 12) ⟨hx, hb, hml, hown, hts⟩ (m_begin400 l dC dI cy _ am ) (cw_X11_216 hts rfl rfl ⟨Nat.le_of_ble_eq_true rfl, Nat.le_of_ble_eq_true rfl⟩) hP hD hK [0] rfl rfl rfl rfl bl0 e0 rfl hl.1 rfl (Nat.le_of_ble_eq_true rfl) dX11_book_22 ⟨Nat.le_of_ble_eq_true rfl, Nat.le_of_ble_eq_true rfl⟩) hP hD hS hA [0] [1, 2, 3] rfl rfl rfl (by decide) (fun u_22 H locs hp_21 hP hD hS => ?_)
      have hp_21 : True := hp_21
      have hP : va_P (dC, dI) vwCl [(am 2, .inl (cy 0, 575, .inl (mi 2))), (am 6, .inl (cy 0, 176, .inl (mi 6))), (am 19, .inl (cy 0, 4, .inl (mi 19))), (am 0, .inr (12, [.int 0, .ref (am 1), .int 0, .int 0, .int 400, .int 0, .int 0, .int 0, .int 0, .int 0, .int 0, .int 0, .long 0, .int 0, .ref (am 2), .ref (am 3), .ref (am 4), .ref (am 5), .ref (am 6), .ref (am 7), .ref (am 8), .ref (am 9), .ref (am 10), .ref (am 11), .int 0, .int (-1), .ref (am 12), .ref (am 13), .ref (am 14), .int 0, .ref (am 15), .ref (am 16), .int 0, .int 0, .int 0, .ref (am 17), .int 0, .int 0, .ref (am 18), .ref (am 19), .int 0, .int 0, .ref (am 20), .int 0, .int 0, .int 0, .int 0]))] H := hP
      have hD : va_D A [(am 2, .inl (cy 0, 575, .inl (mi 2))), (am 6, .inl (cy 0, 176, .inl (mi 6))), (am 19, .inl (cy 0, 4, .inl (mi 19))), (am 0, .inr (12, [.int 0, .ref (am 1), .int 0, .int 0, .int 400, .int 0, .int 0, .int 0, .int 0, .int 0, .int 0, .int 0, .long 0, .int 0, .ref (am 2), .ref (am 3), .ref (am 4), .ref (am 5), .ref (am 6), .ref (am 7), .ref (am 8), .ref (am 9), .ref (am 10), .ref (am 11), .int 0, .int (-1), .ref (am 12), .ref (am 13), .ref (am 14), .int 0, .ref (am 15), .ref (am 16), .int 0, .int 0, .int 0, .ref (am 17), .int 0, .int 0, .ref (am 18), .ref (am 19), .int 0, .int 0, .ref (am 20), .int 0, .int 0, .int 0, .int 0]))] := hD
      refine lv_aload_n hx hb dX11_book_25 rfl (lv_at hl 0 rfl) ?_
      refine lv_iconst (v := 0) hx hb dX11_book_26 (by decide) ?_
      refine pf_X11_382 hx hb hts hown hK hP hD hS 3 rfl rfl rfl (Nat.le_of_ble_eq_true rfl) dX11_book_27 (fun H locs hP hD hS => ?_)
      have hP : va_P (dC, dI) vwCl [(am 2, .inl (cy 0, 575, .inl (mi 2))), (am 6, .inl (cy 0, 176, .inl (mi 6))), (am 19, .inl (cy 0, 4, .inl (mi 19))), (am 0, .inr (12, [.int 0, .ref (am 1), .int 0, .int 0, .int 400, .int 0, .int 0, .int 0, .int 0, .int 0, .int 0, .int 0, .long 0, .int 0, .ref (am 2), .ref (am 3), .ref (am 4), .ref (am 5), .ref (am 6), .ref (am 7), .ref (am 8), .ref (am 9), .ref (am 10), .ref (am 11), .int 0, .int (-1), .ref (am 12), .ref (am 13), .ref (am 14), .int 0, .ref (am 15), .ref (am 16), .int 0, .int 0, .int 0, .ref (am 17), .int 0, .int 0, .ref (am 18), .ref (am 19), .int 0, .int 0, .ref (am 20), .int 0, .int 0, .int 0, .int 0]))] H := hP
      have hD : va_D A [(am 2, .inl (cy 0, 575, .inl (mi 2))), (am 6, .inl (cy 0, 176, .inl (mi 6))), (am 19, .inl (cy 0, 4, .inl (mi 19))), (am 0, .inr (12, [.int 0, .ref (am 1), .int 0, .int 0, .int 400, .int 0, .int 0, .int 0, .int 0, .int 0, .int 0, .int 0, .long 0, .int 0, .ref (am 2), .ref (am 3), .ref (am 4), .ref (am 5), .ref (am 6), .ref (am 7), .ref (am 8), .ref (am 9), .ref (am 10), .ref (am 11), .int 0, .int (-1), .ref (am 12), .ref (am 13), .ref (am 14), .int 0, .ref (am 15), .ref (am 16), .int 0, .int 0, .int 0, .ref (am 17), .int 0, .int 0, .ref (am 18), .ref (am 19), .int 0, .int 0, .ref (am 20), .int 0, .int 0, .int 0, .int 0]))] := hD
      refine lv_aload_n hx hb dX11_book_30 rfl (lv_at hl 0 rfl) ?_
      refine gf_X11_30 hx hb hts hown hK hP 3 rfl rfl dX11_book_31 ?_
      refine lv_if_eq (tgt := 65) hx hb dX11_book_34 (by decide) (fun _ => ?_) (fun c9 => absurd (by decide) c9)
      refine lv_aload_n hx hb dX11_book_65 rfl (lv_at hl 0 rfl) ?_
      refine jn_v (wr := [(am 19, .inl (cy 0, 4, .inl (mi 19)))]) (rV (As := []) (rest := []) (ci := 12) ⟨hx, hb, hml, hown, hts⟩ (m_layAside l dC dI cy _ am mi ) (cw_X11_364 hts rfl rfl ⟨Nat.le_of_ble_eq_true rfl, Nat.le_of_ble_eq_true rfl⟩) hP hD hK [3, 0, 1] rfl rfl rfl rfl bl0 e0 rfl hl.1 rfl (Nat.le_of_ble_eq_true rfl) dX11_book_66 ⟨Nat.le_of_ble_eq_true rfl, Nat.le_of_ble_eq_true rfl⟩) hP hD hS hA [3, 0, 1] [2] rfl rfl rfl (by decide) (fun u_25 H locs hp_24 hP hD hS => ?_)
      obtain ⟨os_26, rfl⟩ : ∃ z, z = u_25 := ⟨_, rfl⟩
      have hp_24 : True := hp_24
      have hP : va_P (dC, dI) vwCl [(am 19, .inl (cy 0, 4, .inl (mi 19))), (am 0, .inr (12, [.int 0, .ref (am 1), .int 0, .int 0, .int 400, .int 0, .int 0, .int 0, .int 0, .int 0, .int 0, .int 0, .long 0, .int 0, .ref (am 2), .ref (am 3), .ref (am 4), .ref (am 5), .ref (am 6), .ref (am 7), .ref (am 8), .ref (am 9), .ref (am 10), .ref (am 11), .int 0, .int (-1), .ref (am 12), .ref (am 13), .ref (am 14), .int 0, .ref (am 15), .ref (am 16), .int 0, .int 0, .int 0, .ref (am 17), .int 0, .int 0, .ref (am 18), .ref (am 19), .int 0, .int 0, .ref (am 20), .int 0, .int 0, .int 0, .int 0])), (am 2, .inl (cy 0, 575, .inl (mi 2))), (am 6, .inl (cy 0, 176, .inl os_26))] H := hP
      have hD : va_D A [(am 19, .inl (cy 0, 4, .inl (mi 19))), (am 0, .inr (12, [.int 0, .ref (am 1), .int 0, .int 0, .int 400, .int 0, .int 0, .int 0, .int 0, .int 0, .int 0, .int 0, .long 0, .int 0, .ref (am 2), .ref (am 3), .ref (am 4), .ref (am 5), .ref (am 6), .ref (am 7), .ref (am 8), .ref (am 9), .ref (am 10), .ref (am 11), .int 0, .int (-1), .ref (am 12), .ref (am 13), .ref (am 14), .int 0, .ref (am 15), .ref (am 16), .int 0, .int 0, .int 0, .ref (am 17), .int 0, .int 0, .ref (am 18), .ref (am 19), .int 0, .int 0, .ref (am 20), .int 0, .int 0, .int 0, .int 0])), (am 2, .inl (cy 0, 575, .inl (mi 2))), (am 6, .inl (cy 0, 176, .inl os_26))] := hD
      refine lv_iconst (v := 0) hx hb dX11_book_69 (by decide) ?_
      refine lv_istore_n (lv' := [(2, .int 0), (0, .ref (am 0)), (1, .int 1)]) hx hb dX11_book_70 rfl hl (by decide) rfl (fun ls hl => ?_)
      refine lv_iconst (v := 0) hx hb dX11_book_71 (by decide) ?_
      refine lv_istore_n (lv' := [(3, .int 0), (2, .int 0), (0, .ref (am 0)), (1, .int 1)]) hx hb dX11_book_72 rfl hl (by decide) rfl (fun ls hl => ?_)
      refine lv_iload_n hx hb dX11_book_73 rfl (lv_at hl 1 rfl) ?_
      refine lv_aload_n hx hb dX11_book_74 rfl (lv_at hl 2 rfl) ?_
      refine gf_X11_382 hx hb hts hown hK hP 1 rfl rfl dX11_book_75 ?_
      refine lv_icmp_ge (tgt := 103) hx hb dX11_book_78 (by decide) (fun _ => ?_) (fun c9 => absurd (by decide) c9)
      refine lv_aload_n hx hb dX11_book_103 rfl (lv_at hl 2 rfl) ?_
      refine gf_X11_154 hx hb hts hown hK hP 1 rfl rfl dX11_book_104 ?_
      refine lv_iconst (v := 0) hx hb dX11_book_107 (by decide) ?_
      refine lv_iload_n hx hb dX11_book_108 rfl (lv_at hl 0 rfl) ?_
      refine va_iast hx hb hK hP hD hS 0 0 rfl rfl (vp_in_nI (n := 0) (N := 4) (by decide) (by decide)) dX11_book_109 (fun H locs hP hD hS => ?_)
      obtain ⟨f_27, ef_27⟩ : ∃ z : Nat → Int32, z = upd (mi 19) (Int32.toNatClampNeg 0) 0 := ⟨_, rfl⟩
      have hP : va_P (dC, dI) vwCl [(am 19, .inl (cy 0, 4, .inl f_27)), (am 0, .inr (12, [.int 0, .ref (am 1), .int 0, .int 0, .int 400, .int 0, .int 0, .int 0, .int 0, .int 0, .int 0, .int 0, .long 0, .int 0, .ref (am 2), .ref (am 3), .ref (am 4), .ref (am 5), .ref (am 6), .ref (am 7), .ref (am 8), .ref (am 9), .ref (am 10), .ref (am 11), .int 0, .int (-1), .ref (am 12), .ref (am 13), .ref (am 14), .int 0, .ref (am 15), .ref (am 16), .int 0, .int 0, .int 0, .ref (am 17), .int 0, .int 0, .ref (am 18), .ref (am 19), .int 0, .int 0, .ref (am 20), .int 0, .int 0, .int 0, .int 0])), (am 2, .inl (cy 0, 575, .inl (mi 2))), (am 6, .inl (cy 0, 176, .inl os_26))] H := by rw [ef_27]; exact hP
      have hD : va_D A [(am 19, .inl (cy 0, 4, .inl f_27)), (am 0, .inr (12, [.int 0, .ref (am 1), .int 0, .int 0, .int 400, .int 0, .int 0, .int 0, .int 0, .int 0, .int 0, .int 0, .long 0, .int 0, .ref (am 2), .ref (am 3), .ref (am 4), .ref (am 5), .ref (am 6), .ref (am 7), .ref (am 8), .ref (am 9), .ref (am 10), .ref (am 11), .int 0, .int (-1), .ref (am 12), .ref (am 13), .ref (am 14), .int 0, .ref (am 15), .ref (am 16), .int 0, .int 0, .int 0, .ref (am 17), .int 0, .int 0, .ref (am 18), .ref (am 19), .int 0, .int 0, .ref (am 20), .int 0, .int 0, .int 0, .int 0])), (am 2, .inl (cy 0, 575, .inl (mi 2))), (am 6, .inl (cy 0, 176, .inl os_26))] := by rw [ef_27]; exact hD
      rw [show (0 : Int32).toNatClampNeg = 0 from rfl] at ef_27
      refine lv_aload_n hx hb dX11_book_110 rfl (lv_at hl 2 rfl) ?_
      refine gf_X11_154 hx hb hts hown hK hP 1 rfl rfl dX11_book_111 ?_
      refine lv_iconst (v := 1) hx hb dX11_book_114 (by decide) ?_
      refine lv_iload_n hx hb dX11_book_115 rfl (lv_at hl 1 rfl) ?_
      refine va_iast hx hb hK hP hD hS 0 0 rfl rfl (vp_in_nI (n := 1) (N := 4) (by decide) (by decide)) dX11_book_116 (fun H locs hP hD hS => ?_)
      obtain ⟨f_28, ef_28⟩ : ∃ z : Nat → Int32, z = upd f_27 (Int32.toNatClampNeg 1) 0 := ⟨_, rfl⟩
      have hP : va_P (dC, dI) vwCl [(am 19, .inl (cy 0, 4, .inl f_28)), (am 0, .inr (12, [.int 0, .ref (am 1), .int 0, .int 0, .int 400, .int 0, .int 0, .int 0, .int 0, .int 0, .int 0, .int 0, .long 0, .int 0, .ref (am 2), .ref (am 3), .ref (am 4), .ref (am 5), .ref (am 6), .ref (am 7), .ref (am 8), .ref (am 9), .ref (am 10), .ref (am 11), .int 0, .int (-1), .ref (am 12), .ref (am 13), .ref (am 14), .int 0, .ref (am 15), .ref (am 16), .int 0, .int 0, .int 0, .ref (am 17), .int 0, .int 0, .ref (am 18), .ref (am 19), .int 0, .int 0, .ref (am 20), .int 0, .int 0, .int 0, .int 0])), (am 2, .inl (cy 0, 575, .inl (mi 2))), (am 6, .inl (cy 0, 176, .inl os_26))] H := by rw [ef_28]; exact hP
      have hD : va_D A [(am 19, .inl (cy 0, 4, .inl f_28)), (am 0, .inr (12, [.int 0, .ref (am 1), .int 0, .int 0, .int 400, .int 0, .int 0, .int 0, .int 0, .int 0, .int 0, .int 0, .long 0, .int 0, .ref (am 2), .ref (am 3), .ref (am 4), .ref (am 5), .ref (am 6), .ref (am 7), .ref (am 8), .ref (am 9), .ref (am 10), .ref (am 11), .int 0, .int (-1), .ref (am 12), .ref (am 13), .ref (am 14), .int 0, .ref (am 15), .ref (am 16), .int 0, .int 0, .int 0, .ref (am 17), .int 0, .int 0, .ref (am 18), .ref (am 19), .int 0, .int 0, .ref (am 20), .int 0, .int 0, .int 0, .int 0])), (am 2, .inl (cy 0, 575, .inl (mi 2))), (am 6, .inl (cy 0, 176, .inl os_26))] := by rw [ef_28]; exact hD
      rw [show (1 : Int32).toNatClampNeg = 1 from rfl] at ef_28
      refine lv_aload_n hx hb dX11_book_117 rfl (lv_at hl 2 rfl) ?_
      refine gf_X11_154 hx hb hts hown hK hP 1 rfl rfl dX11_book_118 ?_
      refine lv_iconst (v := 2) hx hb dX11_book_121 (by decide) ?_
      refine lv_aload_n hx hb dX11_book_122 rfl (lv_at hl 2 rfl) ?_
      refine gf_X11_98 hx hb hts hown hK hP 1 rfl rfl dX11_book_123 ?_
      refine lv_sipush (v := 157) hx hb dX11_book_126 (by decide) ?_
      refine va_iald hx hb hK hP 2 0 rfl rfl (vp_in_nI (n := 157) (N := 575) (by decide) (by decide)) dX11_book_129 ?_
      refine as_i 0 ((congrArg (mi 2) (show (157 : Int32).toNatClampNeg = 157 from rfl)).trans hn.2.2.2.2.1) ?_
      refine va_iast hx hb hK hP hD hS 0 0 rfl rfl (vp_in_nI (n := 2) (N := 4) (by decide) (by decide)) dX11_book_130 (fun H locs hP hD hS => ?_)
      obtain ⟨f_29, ef_29⟩ : ∃ z : Nat → Int32, z = upd f_28 (Int32.toNatClampNeg 2) 0 := ⟨_, rfl⟩
      have hP : va_P (dC, dI) vwCl [(am 19, .inl (cy 0, 4, .inl f_29)), (am 0, .inr (12, [.int 0, .ref (am 1), .int 0, .int 0, .int 400, .int 0, .int 0, .int 0, .int 0, .int 0, .int 0, .int 0, .long 0, .int 0, .ref (am 2), .ref (am 3), .ref (am 4), .ref (am 5), .ref (am 6), .ref (am 7), .ref (am 8), .ref (am 9), .ref (am 10), .ref (am 11), .int 0, .int (-1), .ref (am 12), .ref (am 13), .ref (am 14), .int 0, .ref (am 15), .ref (am 16), .int 0, .int 0, .int 0, .ref (am 17), .int 0, .int 0, .ref (am 18), .ref (am 19), .int 0, .int 0, .ref (am 20), .int 0, .int 0, .int 0, .int 0])), (am 2, .inl (cy 0, 575, .inl (mi 2))), (am 6, .inl (cy 0, 176, .inl os_26))] H := by rw [ef_29]; exact hP
      have hD : va_D A [(am 19, .inl (cy 0, 4, .inl f_29)), (am 0, .inr (12, [.int 0, .ref (am 1), .int 0, .int 0, .int 400, .int 0, .int 0, .int 0, .int 0, .int 0, .int 0, .int 0, .long 0, .int 0, .ref (am 2), .ref (am 3), .ref (am 4), .ref (am 5), .ref (am 6), .ref (am 7), .ref (am 8), .ref (am 9), .ref (am 10), .ref (am 11), .int 0, .int (-1), .ref (am 12), .ref (am 13), .ref (am 14), .int 0, .ref (am 15), .ref (am 16), .int 0, .int 0, .int 0, .ref (am 17), .int 0, .int 0, .ref (am 18), .ref (am 19), .int 0, .int 0, .ref (am 20), .int 0, .int 0, .int 0, .int 0])), (am 2, .inl (cy 0, 575, .inl (mi 2))), (am 6, .inl (cy 0, 176, .inl os_26))] := by rw [ef_29]; exact hD
      rw [show (2 : Int32).toNatClampNeg = 2 from rfl] at ef_29
      refine lv_aload_n hx hb dX11_book_131 rfl (lv_at hl 2 rfl) ?_
      refine gf_X11_154 hx hb hts hown hK hP 1 rfl rfl dX11_book_132 ?_
      refine lv_iconst (v := 3) hx hb dX11_book_135 (by decide) ?_
      refine lv_aload_n hx hb dX11_book_136 rfl (lv_at hl 2 rfl) ?_
      refine lv_iconst (v := 1) hx hb dX11_book_137 (by decide) ?_
      refine jr_i (rVr (As := [.int 1]) (rest := [.int 3, .ref (am 19)]) (ci := 12) ⟨hx, hb, hml, hown, hts⟩ (m_those4 l dC dI cy am mi 1 hn) (cw_X11_262 hts rfl rfl ⟨Nat.le_of_ble_eq_true rfl, Nat.le_of_ble_eq_true rfl⟩) hP hK [1, 2] rfl rfl rfl rfl hl.1 rfl (Nat.le_of_ble_eq_true rfl) dX11_book_138 ⟨Nat.le_of_ble_eq_true rfl, Nat.le_of_ble_eq_true rfl⟩) hP hS (fun r_30 H locs hp_31 hP hS => ?_)
      refine as_i 0 hp_31 ?_
      refine va_iast hx hb hK hP hD hS 0 0 rfl rfl (vp_in_nI (n := 3) (N := 4) (by decide) (by decide)) dX11_book_141 (fun H locs hP hD hS => ?_)
      obtain ⟨f_32, ef_32⟩ : ∃ z : Nat → Int32, z = upd f_29 (Int32.toNatClampNeg 3) 0 := ⟨_, rfl⟩
      have hP : va_P (dC, dI) vwCl [(am 19, .inl (cy 0, 4, .inl f_32)), (am 0, .inr (12, [.int 0, .ref (am 1), .int 0, .int 0, .int 400, .int 0, .int 0, .int 0, .int 0, .int 0, .int 0, .int 0, .long 0, .int 0, .ref (am 2), .ref (am 3), .ref (am 4), .ref (am 5), .ref (am 6), .ref (am 7), .ref (am 8), .ref (am 9), .ref (am 10), .ref (am 11), .int 0, .int (-1), .ref (am 12), .ref (am 13), .ref (am 14), .int 0, .ref (am 15), .ref (am 16), .int 0, .int 0, .int 0, .ref (am 17), .int 0, .int 0, .ref (am 18), .ref (am 19), .int 0, .int 0, .ref (am 20), .int 0, .int 0, .int 0, .int 0])), (am 2, .inl (cy 0, 575, .inl (mi 2))), (am 6, .inl (cy 0, 176, .inl os_26))] H := by rw [ef_32]; exact hP
      have hD : va_D A [(am 19, .inl (cy 0, 4, .inl f_32)), (am 0, .inr (12, [.int 0, .ref (am 1), .int 0, .int 0, .int 400, .int 0, .int 0, .int 0, .int 0, .int 0, .int 0, .int 0, .long 0, .int 0, .ref (am 2), .ref (am 3), .ref (am 4), .ref (am 5), .ref (am 6), .ref (am 7), .ref (am 8), .ref (am 9), .ref (am 10), .ref (am 11), .int 0, .int (-1), .ref (am 12), .ref (am 13), .ref (am 14), .int 0, .ref (am 15), .ref (am 16), .int 0, .int 0, .int 0, .ref (am 17), .int 0, .int 0, .ref (am 18), .ref (am 19), .int 0, .int 0, .ref (am 20), .int 0, .int 0, .int 0, .int 0])), (am 2, .inl (cy 0, 575, .inl (mi 2))), (am 6, .inl (cy 0, 176, .inl os_26))] := by rw [ef_32]; exact hD
      rw [show (3 : Int32).toNatClampNeg = 3 from rfl] at ef_32
      refine lv_aload_n hx hb dX11_book_142 rfl (lv_at hl 2 rfl) ?_
      refine lv_iconst (v := 1) hx hb dX11_book_143 (by decide) ?_
      refine pf_X11_394 hx hb hts hown hK hP hD hS 1 rfl rfl rfl (Nat.le_of_ble_eq_true rfl) dX11_book_144 (fun H locs hP hD hS => ?_)
      have hP : va_P (dC, dI) vwCl [(am 19, .inl (cy 0, 4, .inl f_32)), (am 0, .inr (12, [.int 0, .ref (am 1), .int 0, .int 0, .int 400, .int 0, .int 0, .int 0, .int 0, .int 0, .int 0, .int 0, .long 0, .int 0, .ref (am 2), .ref (am 3), .ref (am 4), .ref (am 5), .ref (am 6), .ref (am 7), .ref (am 8), .ref (am 9), .ref (am 10), .ref (am 11), .int 0, .int (-1), .ref (am 12), .ref (am 13), .ref (am 14), .int 0, .ref (am 15), .ref (am 16), .int 0, .int 0, .int 0, .ref (am 17), .int 0, .int 0, .ref (am 18), .ref (am 19), .int 0, .int 1, .ref (am 20), .int 0, .int 0, .int 0, .int 0])), (am 2, .inl (cy 0, 575, .inl (mi 2))), (am 6, .inl (cy 0, 176, .inl os_26))] H := hP
      have hD : va_D A [(am 19, .inl (cy 0, 4, .inl f_32)), (am 0, .inr (12, [.int 0, .ref (am 1), .int 0, .int 0, .int 400, .int 0, .int 0, .int 0, .int 0, .int 0, .int 0, .int 0, .long 0, .int 0, .ref (am 2), .ref (am 3), .ref (am 4), .ref (am 5), .ref (am 6), .ref (am 7), .ref (am 8), .ref (am 9), .ref (am 10), .ref (am 11), .int 0, .int (-1), .ref (am 12), .ref (am 13), .ref (am 14), .int 0, .ref (am 15), .ref (am 16), .int 0, .int 0, .int 0, .ref (am 17), .int 0, .int 0, .ref (am 18), .ref (am 19), .int 0, .int 1, .ref (am 20), .int 0, .int 0, .int 0, .int 0])), (am 2, .inl (cy 0, 575, .inl (mi 2))), (am 6, .inl (cy 0, 176, .inl os_26))] := hD
      refine lv_aload_n hx hb dX11_book_147 rfl (lv_at hl 2 rfl) ?_
      refine lv_iload_n hx hb dX11_book_148 rfl (lv_at hl 3 rfl) ?_
      refine lv_iconst (v := 1) hx hb dX11_book_149 (by decide) ?_
      refine lv_icmp_ne (tgt := 161) hx hb dX11_book_150 (by decide) (fun c9 => absurd c9 (by decide)) (fun _ => ?_)
      refine lv_iload_n hx hb dX11_book_153 rfl (lv_at hl 1 rfl) ?_
      refine lv_if_le (tgt := 161) hx hb dX11_book_154 (by decide) (fun _ => ?_) (fun c9 => absurd (by decide) c9)
      refine lv_iconst (v := 0) hx hb dX11_book_161 (by decide) ?_
      refine jn_v (wr := [(am 19, .inl (cy 0, 4, .inl f_32))]) (rV (As := [.int 0]) (rest := []) (ci := 12) ⟨hx, hb, hml, hown, hts⟩ (m_stay l dC dI cy _ am mi os_26 ) (cw_X11_398 hts rfl rfl ⟨Nat.le_of_ble_eq_true rfl, Nat.le_of_ble_eq_true rfl⟩) hP hD hK [1, 2, 3] rfl rfl rfl rfl bl0 e0 rfl hl.1 rfl (Nat.le_of_ble_eq_true rfl) dX11_book_162 ⟨Nat.le_of_ble_eq_true rfl, Nat.le_of_ble_eq_true rfl⟩) hP hD hS hA [1, 2, 3] [0] rfl rfl rfl (by decide) (fun u_35 H locs hp_34 hP hD hS => ?_)
      have hp_34 : True := hp_34
      have hP : va_P (dC, dI) vwCl [(am 19, .inl (cy 0, 4, .inl f_32))] H := hP
      have hD : va_D A [(am 19, .inl (cy 0, 4, .inl f_32))] := hD
      refine lv_iload_n hx hb dX11_book_165 rfl (lv_at hl 0 rfl) ?_
      refine lv_if_ne (tgt := 173) hx hb dX11_book_166 (by decide) (fun c9 => absurd c9 (by decide)) (fun _ => ?_)
      refine lv_iconst (v := (-1)) hx hb dX11_book_169 (by decide) ?_
      refine lv_goto (tgt := 174) hx hb dX11_book_170 (by decide) ?_
      rw [hQ9]
      exact re_i () hx hb hr hlocks (show _ = bkF _ by decide) (hP.sub [] rfl) (hD.sub [] rfl rfl) hS dX11_book_174
  · skip
    refine lv_sipush (v := (-1000)) hx hb dX11_book_14 (by decide) ?_
    rw [hQ9]
    exact re_i () hx hb hr hlocks (bk_no c_3).symm (hP.sub [] rfl) (hD.sub [] rfl rfl) hS dX11_book_17
abbrev cX11_isSign : ByteArray := prog_13_method_20_code
def yX11_isSign : MethodName := ⟨RX11, "isSign", "(I)Z"⟩
theorem t1702 : Cond.code yX11_isSign cX11_isSign 2 (some .boolean) ∈ GW := gw_mem 1816 (by decide +kernel) (by decide +kernel)
theorem dX11_isSign_0 : decode cX11_isSign 0 = .ok (.aload_n 0, 1) := by decide +kernel
theorem dX11_isSign_1 : decode cX11_isSign 1 = .ok (.getfield 30, 3) := by decide +kernel
theorem dX11_isSign_4 : decode cX11_isSign 4 = .ok (.iconst 4, 1) := by decide +kernel
theorem dX11_isSign_5 : decode cX11_isSign 5 = .ok (.if_icmp .ne 15, 3) := by decide +kernel
theorem dX11_isSign_20 : decode cX11_isSign 20 = .ok (.iconst 0, 1) := by decide +kernel
theorem dX11_isSign_21 : decode cX11_isSign 21 = .ok (.ireturn, 1) := by decide +kernel
set_option maxHeartbeats 4000000 in
set_option maxRecDepth 100000 in
theorem m_isSign (l : Launch) (dC : Nat → ClassId) (dI : Nat → Nat → Nat) (cy : Nat → ClassId) (am : Nat → Nat) (n0 : Int32)  : Met l yX11_isSign (wl yX11_isSign cX11_isSign 2 (some .boolean)) ({ frames := 0, cells := 0, slots := 0, locals := 0 }) (Pr (dC, dI) vwCl cy [(am 0, .inr (12, [.int 0, .ref (am 1), .int 0, .int 0, .int 200, .int 0, .int 0, .int 0, .int 0, .int 0, .int 0, .int 0, .long 0, .int 0, .ref (am 2), .ref (am 3), .ref (am 4), .ref (am 5), .ref (am 6), .ref (am 7), .ref (am 8), .ref (am 9), .ref (am 10), .ref (am 11), .int 0, .int (-1), .ref (am 12), .ref (am 13), .ref (am 14), .int 0, .ref (am 15), .ref (am 16), .int 0, .int 0, .int 0, .ref (am 17), .int 0, .int 0, .ref (am 18), .ref (am 19), .int 0, .int 0, .ref (am 20), .int 0, .int 0, .int 0, .int 0]))] [.ref (am 0), .int n0]) (Ri (fun r => r = 0)) 0 0 (fun _ => False) := by
  refine mr RX11 rfl (by decide +kernel) (Nat.le_of_ble_eq_true rfl) ?_
  intro p e s m below meth c hx hb hr hlocks av9 hav hts hown hml hK hP hS Q9 hQ9 ls hl
  have hl : lv_has ls 2 [(0, .ref (am 0)), (1, .int n0)] := hl
  refine lv_aload_n hx hb dX11_isSign_0 rfl (lv_at hl 0 rfl) ?_
  refine gf_X11_30 hx hb hts hown hK hP 0 rfl rfl dX11_isSign_1 ?_
  refine lv_iconst (v := 4) hx hb dX11_isSign_4 (by decide) ?_
  refine lv_icmp_ne (tgt := 20) hx hb dX11_isSign_5 (by decide) (fun _ => ?_) (fun c9 => absurd c9 (by decide))
  refine lv_iconst (v := 0) hx hb dX11_isSign_20 (by decide) ?_
  rw [hQ9]
  exact rr_z hx hb hr hlocks (Or.inl rfl) rfl hS dX11_isSign_21
abbrev cX11_isWord : ByteArray := prog_13_method_19_code
def yX11_isWord : MethodName := ⟨RX11, "isWord", "(I)Z"⟩
theorem t1623 : Cond.code yX11_isWord cX11_isWord 2 (some .boolean) ∈ GW := gw_mem 1737 (by decide +kernel) (by decide +kernel)
theorem dX11_isWord_0 : decode cX11_isWord 0 = .ok (.aload_n 0, 1) := by decide +kernel
theorem dX11_isWord_1 : decode cX11_isWord 1 = .ok (.getfield 30, 3) := by decide +kernel
theorem dX11_isWord_4 : decode cX11_isWord 4 = .ok (.iconst 2, 1) := by decide +kernel
theorem dX11_isWord_5 : decode cX11_isWord 5 = .ok (.if_icmp .ne 19, 3) := by decide +kernel
theorem dX11_isWord_24 : decode cX11_isWord 24 = .ok (.iconst 0, 1) := by decide +kernel
theorem dX11_isWord_25 : decode cX11_isWord 25 = .ok (.ireturn, 1) := by decide +kernel
set_option maxHeartbeats 4000000 in
set_option maxRecDepth 100000 in
theorem m_isWord (l : Launch) (dC : Nat → ClassId) (dI : Nat → Nat → Nat) (cy : Nat → ClassId) (am : Nat → Nat) (n0 : Int32)  : Met l yX11_isWord (wl yX11_isWord cX11_isWord 2 (some .boolean)) ({ frames := 1, cells := 0, slots := 0, locals := 64 }) (Pr (dC, dI) vwCl cy [(am 0, .inr (12, [.int 0, .ref (am 1), .int 0, .int 0, .int 200, .int 0, .int 0, .int 0, .int 0, .int 0, .int 0, .int 0, .long 0, .int 0, .ref (am 2), .ref (am 3), .ref (am 4), .ref (am 5), .ref (am 6), .ref (am 7), .ref (am 8), .ref (am 9), .ref (am 10), .ref (am 11), .int 0, .int (-1), .ref (am 12), .ref (am 13), .ref (am 14), .int 0, .ref (am 15), .ref (am 16), .int 0, .int 0, .int 0, .ref (am 17), .int 0, .int 0, .ref (am 18), .ref (am 19), .int 0, .int 0, .ref (am 20), .int 0, .int 0, .int 0, .int 0]))] [.ref (am 0), .int n0]) (Ri (fun r => r = 0)) 0 0 (fun _ => False) := by
  refine mr RX11 rfl (by decide +kernel) (Nat.le_of_ble_eq_true rfl) ?_
  intro p e s m below meth c hx hb hr hlocks av9 hav hts hown hml hK hP hS Q9 hQ9 ls hl
  have hl : lv_has ls 2 [(0, .ref (am 0)), (1, .int n0)] := hl
  refine lv_aload_n hx hb dX11_isWord_0 rfl (lv_at hl 0 rfl) ?_
  refine gf_X11_30 hx hb hts hown hK hP 0 rfl rfl dX11_isWord_1 ?_
  refine lv_iconst (v := 2) hx hb dX11_isWord_4 (by decide) ?_
  refine lv_icmp_ne (tgt := 24) hx hb dX11_isWord_5 (by decide) (fun _ => ?_) (fun c9 => absurd c9 (by decide))
  refine lv_iconst (v := 0) hx hb dX11_isWord_24 (by decide) ?_
  rw [hQ9]
  exact rr_z hx hb hr hlocks (Or.inl rfl) rfl hS dX11_isWord_25
abbrev cX11_bad : ByteArray := prog_13_method_22_code
def yX11_bad : MethodName := ⟨RX11, "bad", "(I)Z"⟩
theorem t1641 : Cond.code yX11_bad cX11_bad 2 (some .boolean) ∈ GW := gw_mem 1755 (by decide +kernel) (by decide +kernel)
abbrev O_m_bad (cy : Nat → ClassId) (am : Nat → Nat) (u : Unit) : va_W := [(am 0, .inr (12, [.int 0, .ref (am 1), .int 0, .int 0, .int 200, .int 0, .int 0, .int 0, .int 0, .int 0, .int 1, .int 0, .long 0, .int 0, .ref (am 2), .ref (am 3), .ref (am 4), .ref (am 5), .ref (am 6), .ref (am 7), .ref (am 8), .ref (am 9), .ref (am 10), .ref (am 11), .int 0, .int (-1), .ref (am 12), .ref (am 13), .ref (am 14), .int 0, .ref (am 15), .ref (am 16), .int 0, .int 0, .int 0, .ref (am 17), .int 0, .int 0, .ref (am 18), .ref (am 19), .int 0, .int 0, .ref (am 20), .int 0, .int 0, .int 0, .int 0]))]
theorem dX11_bad_0 : decode cX11_bad 0 = .ok (.aload_n 0, 1) := by decide +kernel
theorem dX11_bad_1 : decode cX11_bad 1 = .ok (.aload_n 0, 1) := by decide +kernel
theorem dX11_bad_2 : decode cX11_bad 2 = .ok (.getfield 30, 3) := by decide +kernel
theorem dX11_bad_5 : decode cX11_bad 5 = .ok (.iconst 1, 1) := by decide +kernel
theorem dX11_bad_6 : decode cX11_bad 6 = .ok (.if_icmp .ne 7, 3) := by decide +kernel
theorem dX11_bad_13 : decode cX11_bad 13 = .ok (.iload_n 1, 1) := by decide +kernel
theorem dX11_bad_14 : decode cX11_bad 14 = .ok (.putfield 66, 3) := by decide +kernel
theorem dX11_bad_17 : decode cX11_bad 17 = .ok (.aload_n 0, 1) := by decide +kernel
theorem dX11_bad_18 : decode cX11_bad 18 = .ok (.aload_n 0, 1) := by decide +kernel
theorem dX11_bad_19 : decode cX11_bad 19 = .ok (.getfield 24, 3) := by decide +kernel
theorem gf_X11_24 {p : Program} {l : Launch} {e : Env} {R : Room} {s : State} {m : MethodId} {args : Array Value} {below : List Frame} {meth : Method} {c : Code} {H : Heap} {locs : List Loc} {cells slots : Nat} {Q : State → Prop} {cc : ByteArray} {pc : Nat} {ls : Array Slot} {rest : List Value} {D : va_G} {a : Nat} {tys : List (ClassId × FieldType)} {ws : va_W} (hx : p.tables.exec = Jvm.exec) (hb : c.code = cc) (hts : ∀ w ∈ GW, w.before args s = true) (hown : s.vm.findClass RX11 = some m.cls) (hK : va_K D vwCl tys s) (hP : va_P D vwCl ws H) (q0 : Nat) {fs : List Value} (he : ws[q0]? = some (a, .inr (12, fs))) {v : Value} (hv : fs[6]? = some v) (hdg : decode cc pc = .ok (.getfield 24, 3)) (kk : W p l e R s m args below meth c H locs cells slots Q (F0 m (pc + 3) ls (v :: rest))) : W p l e R s m args below meth c H locs cells slots Q (F0 m pc ls (.ref a :: rest)) := va_get (C := RX11) (T := TX11) (N := 47) (ci := 12) hx hb hts inX11 hown hK hP q0 he rfl 6 (by decide) (hts _ t1452) (fun _ h => h) hv hdg kk
theorem dX11_bad_22 : decode cX11_bad 22 = .ok (.putfield 69, 3) := by decide +kernel
theorem t1457 : Cond.fieldLink RX11 69 "LikenessPoundModel" "place" "I" ∈ GW := gw_mem 1571 (by decide +kernel) (by decide +kernel)
theorem pf_X11_69 {p : Program} {l : Launch} {e : Env} {R : Room} {s : State} {m : MethodId} {args : Array Value} {below : List Frame} {meth : Method} {c : Code} {H : Heap} {locs : List Loc} {cells slots : Nat} {Q : State → Prop} {cc : ByteArray} {pc : Nat} {ls : Array Slot} {rest : List Value} {D : va_G} {A : Nat → Prop} {a : Nat} {tys : List (ClassId × FieldType)} {ws : va_W} {H0 : Heap} (hx : p.tables.exec = Jvm.exec) (hb : c.code = cc) (hts : ∀ w ∈ GW, w.before args s = true) (hown : s.vm.findClass RX11 = some m.cls) (hK : va_K D vwCl tys s) (hP : va_P D vwCl ws H) (hD : va_D A ws) (hS0 : va_S A H0 H locs) (q0 : Nat) {fs : List Value} (he : ws[q0]? = some (a, .inr (12, fs))) {v : Value} (hn : narrow (tyX11 11) v = v) (hfit : fits (tyX11 11) v = true) (hl : 11 < fs.length) (hdg : decode cc pc = .ok (.putfield 69, 3)) (kk : ∀ (H1 : Heap) (locs1 : List Loc), va_P D vwCl (ws.set q0 (a, .inr (12, fs.set 11 v))) H1 → va_D A (ws.set q0 (a, .inr (12, fs.set 11 v))) → va_S A H0 H1 locs1 → W p l e R s m args below meth c H1 locs1 cells slots Q (F0 m (pc + 3) ls rest)) : W p l e R s m args below meth c H locs cells slots Q (F0 m pc ls (v :: .ref a :: rest)) := va_put (C := RX11) (T := TX11) (N := 47) (ci := 12) hx hb hts inX11 tyX11 tkX11 nmX11 hown hK hP hD hS0 q0 he rfl 11 (by decide) (hts _ t1457) (fun _ h => h) rfl (tkX11 11 (by decide)) hn hfit hl hdg kk
theorem dX11_bad_25 : decode cX11_bad 25 = .ok (.iconst 0, 1) := by decide +kernel
theorem dX11_bad_26 : decode cX11_bad 26 = .ok (.ireturn, 1) := by decide +kernel
set_option maxHeartbeats 4000000 in
set_option maxRecDepth 100000 in
theorem m_bad (l : Launch) (dC : Nat → ClassId) (dI : Nat → Nat → Nat) (cy : Nat → ClassId) (sz : Nat) (am : Nat → Nat)  : Met l yX11_bad (wl yX11_bad cX11_bad 2 (some .boolean)) ({ frames := 0, cells := 0, slots := 0, locals := 0 }) (Pw (dC, dI) vwCl cy [(am 0, .inr (12, [.int 0, .ref (am 1), .int 0, .int 0, .int 200, .int 0, .int 0, .int 0, .int 0, .int 0, .int 0, .int 0, .long 0, .int 0, .ref (am 2), .ref (am 3), .ref (am 4), .ref (am 5), .ref (am 6), .ref (am 7), .ref (am 8), .ref (am 9), .ref (am 10), .ref (am 11), .int 0, .int (-1), .ref (am 12), .ref (am 13), .ref (am 14), .int 0, .ref (am 15), .ref (am 16), .int 0, .int 0, .int 0, .ref (am 17), .int 0, .int 0, .ref (am 18), .ref (am 19), .int 0, .int 0, .ref (am 20), .int 0, .int 0, .int 0, .int 0]))] sz [.ref (am 0), .int 1] nE) (Qi (dC, dI) vwCl (fun (r : Int32) (u : Unit) => r = 0) (O_m_bad cy am) (va_A [(am 0, .inr (12, [.int 0, .ref (am 1), .int 0, .int 0, .int 200, .int 0, .int 0, .int 0, .int 0, .int 0, .int 0, .int 0, .long 0, .int 0, .ref (am 2), .ref (am 3), .ref (am 4), .ref (am 5), .ref (am 6), .ref (am 7), .ref (am 8), .ref (am 9), .ref (am 10), .ref (am 11), .int 0, .int (-1), .ref (am 12), .ref (am 13), .ref (am 14), .int 0, .ref (am 15), .ref (am 16), .int 0, .int 0, .int 0, .ref (am 17), .int 0, .int 0, .ref (am 18), .ref (am 19), .int 0, .int 0, .ref (am 20), .int 0, .int 0, .int 0, .int 0]))] sz)) 0 0 (va_A [(am 0, .inr (12, [.int 0, .ref (am 1), .int 0, .int 0, .int 200, .int 0, .int 0, .int 0, .int 0, .int 0, .int 0, .int 0, .long 0, .int 0, .ref (am 2), .ref (am 3), .ref (am 4), .ref (am 5), .ref (am 6), .ref (am 7), .ref (am 8), .ref (am 9), .ref (am 10), .ref (am 11), .int 0, .int (-1), .ref (am 12), .ref (am 13), .ref (am 14), .int 0, .ref (am 15), .ref (am 16), .int 0, .int 0, .int 0, .ref (am 17), .int 0, .int 0, .ref (am 18), .ref (am 19), .int 0, .int 0, .ref (am 20), .int 0, .int 0, .int 0, .int 0]))] sz) := by
  refine mw (Qc := Qi (dC, dI) vwCl (fun (r : Int32) (u : Unit) => r = 0) (O_m_bad cy am)) RX11 rfl (by decide +kernel) (Nat.le_of_ble_eq_true rfl) ?_
  intro p e s m below meth c A hx hb hr hlocks av9 hav hts hown hnm hml hK hP hD hA hS hE hAe Q9 hQ9 ls hl
  have hl : lv_has ls 2 [(0, .ref (am 0)), (1, .int 1)] := hl
  refine lv_aload_n hx hb dX11_bad_0 rfl (lv_at hl 0 rfl) ?_
  refine lv_aload_n hx hb dX11_bad_1 rfl (lv_at hl 0 rfl) ?_
  refine gf_X11_30 hx hb hts hown hK hP 0 rfl rfl dX11_bad_2 ?_
  refine lv_iconst (v := 1) hx hb dX11_bad_5 (by decide) ?_
  refine lv_icmp_ne (tgt := 13) hx hb dX11_bad_6 (by decide) (fun _ => ?_) (fun c9 => absurd c9 (by decide))
  refine lv_iload_n hx hb dX11_bad_13 rfl (lv_at hl 1 rfl) ?_
  refine pf_X11_66 hx hb hts hown hK hP hD hS 0 rfl rfl rfl (Nat.le_of_ble_eq_true rfl) dX11_bad_14 (fun H locs hP hD hS => ?_)
  have hP : va_P (dC, dI) vwCl [(am 0, .inr (12, [.int 0, .ref (am 1), .int 0, .int 0, .int 200, .int 0, .int 0, .int 0, .int 0, .int 0, .int 1, .int 0, .long 0, .int 0, .ref (am 2), .ref (am 3), .ref (am 4), .ref (am 5), .ref (am 6), .ref (am 7), .ref (am 8), .ref (am 9), .ref (am 10), .ref (am 11), .int 0, .int (-1), .ref (am 12), .ref (am 13), .ref (am 14), .int 0, .ref (am 15), .ref (am 16), .int 0, .int 0, .int 0, .ref (am 17), .int 0, .int 0, .ref (am 18), .ref (am 19), .int 0, .int 0, .ref (am 20), .int 0, .int 0, .int 0, .int 0]))] H := hP
  have hD : va_D A [(am 0, .inr (12, [.int 0, .ref (am 1), .int 0, .int 0, .int 200, .int 0, .int 0, .int 0, .int 0, .int 0, .int 1, .int 0, .long 0, .int 0, .ref (am 2), .ref (am 3), .ref (am 4), .ref (am 5), .ref (am 6), .ref (am 7), .ref (am 8), .ref (am 9), .ref (am 10), .ref (am 11), .int 0, .int (-1), .ref (am 12), .ref (am 13), .ref (am 14), .int 0, .ref (am 15), .ref (am 16), .int 0, .int 0, .int 0, .ref (am 17), .int 0, .int 0, .ref (am 18), .ref (am 19), .int 0, .int 0, .ref (am 20), .int 0, .int 0, .int 0, .int 0]))] := hD
  refine lv_aload_n hx hb dX11_bad_17 rfl (lv_at hl 0 rfl) ?_
  refine lv_aload_n hx hb dX11_bad_18 rfl (lv_at hl 0 rfl) ?_
  refine gf_X11_24 hx hb hts hown hK hP 0 rfl rfl dX11_bad_19 ?_
  refine pf_X11_69 hx hb hts hown hK hP hD hS 0 rfl rfl rfl (Nat.le_of_ble_eq_true rfl) dX11_bad_22 (fun H locs hP hD hS => ?_)
  have hP : va_P (dC, dI) vwCl [(am 0, .inr (12, [.int 0, .ref (am 1), .int 0, .int 0, .int 200, .int 0, .int 0, .int 0, .int 0, .int 0, .int 1, .int 0, .long 0, .int 0, .ref (am 2), .ref (am 3), .ref (am 4), .ref (am 5), .ref (am 6), .ref (am 7), .ref (am 8), .ref (am 9), .ref (am 10), .ref (am 11), .int 0, .int (-1), .ref (am 12), .ref (am 13), .ref (am 14), .int 0, .ref (am 15), .ref (am 16), .int 0, .int 0, .int 0, .ref (am 17), .int 0, .int 0, .ref (am 18), .ref (am 19), .int 0, .int 0, .ref (am 20), .int 0, .int 0, .int 0, .int 0]))] H := hP
  have hD : va_D A [(am 0, .inr (12, [.int 0, .ref (am 1), .int 0, .int 0, .int 200, .int 0, .int 0, .int 0, .int 0, .int 0, .int 1, .int 0, .long 0, .int 0, .ref (am 2), .ref (am 3), .ref (am 4), .ref (am 5), .ref (am 6), .ref (am 7), .ref (am 8), .ref (am 9), .ref (am 10), .ref (am 11), .int 0, .int (-1), .ref (am 12), .ref (am 13), .ref (am 14), .int 0, .ref (am 15), .ref (am 16), .int 0, .int 0, .int 0, .ref (am 17), .int 0, .int 0, .ref (am 18), .ref (am 19), .int 0, .int 0, .ref (am 20), .int 0, .int 0, .int 0, .int 0]))] := hD
  refine lv_iconst (v := 0) hx hb dX11_bad_25 (by decide) ?_
  rw [hQ9]
  exact re_z () hx hb hr hlocks (Or.inl rfl) rfl (hP.sub [0] rfl) (hD.sub [0] rfl rfl) hS dX11_bad_26
abbrev cX11_readSaid : ByteArray := prog_13_method_121_code
def yX11_readSaid : MethodName := ⟨RX11, "readSaid", "()Z"⟩
theorem t2034 : Cond.code yX11_readSaid cX11_readSaid 4 (some .boolean) ∈ GW := gw_mem 2148 (by decide +kernel) (by decide +kernel)
abbrev O_m_readSaid (cy : Nat → ClassId) (am : Nat → Nat) (u : Unit) : va_W := [(am 0, .inr (12, [.int 0, .ref (am 1), .int 0, .int 0, .int 200, .int 0, .int 0, .int 0, .int 0, .int 0, .int 1, .int 0, .long 0, .int 0, .ref (am 2), .ref (am 3), .ref (am 4), .ref (am 5), .ref (am 6), .ref (am 7), .ref (am 8), .ref (am 9), .ref (am 10), .ref (am 11), .int 0, .int (-1), .ref (am 12), .ref (am 13), .ref (am 14), .int 0, .ref (am 15), .ref (am 16), .int 0, .int 0, .int 0, .ref (am 17), .int 0, .int 0, .ref (am 18), .ref (am 19), .int 0, .int 0, .ref (am 20), .int 0, .int 0, .int 0, .int 0]))]
theorem dX11_readSaid_0 : decode cX11_readSaid 0 = .ok (.aload_n 0, 1) := by decide +kernel
theorem dX11_readSaid_1 : decode cX11_readSaid 1 = .ok (.bipush 40, 2) := by decide +kernel
theorem dX11_readSaid_3 : decode cX11_readSaid 3 = .ok (.invokevirtual 86, 3) := by decide +kernel
theorem t1699 : Cond.methodLink RX11 86 yX11_isSign ∈ GW := gw_mem 1813 (by decide +kernel) (by decide +kernel)
theorem t1701 : Cond.instanceMethod yX11_isSign ∈ GW := gw_mem 1815 (by decide +kernel) (by decide +kernel)
theorem s61 : Cond.selects RX11 yX11_isSign yX11_isSign ∈ GW := gw_mem 61 (by decide +kernel) (by decide +kernel)
theorem cw_X11_86 {R : Room} {s : State} {args : Array Value} {rm : Room} {mc ms : Nat} (hts : ∀ w ∈ GW, w.before args s = true) (hrc : rm.cells = mc) (hrs : rm.slots = ms) (hR : rm.frames + 1 ≤ R.frames ∧ 8 + (2 + 11) + rm.locals ≤ R.locals) : CallW R s args RX11 RX11 86 yX11_isSign cX11_isSign 2 (some .boolean) (wl yX11_isSign cX11_isSign 2 (some .boolean)) rm mc ms 1 := cwV 1 hts (gi_V t1699 t1701 s61 t18 t1702) rfl hrc hrs (by decide +kernel) hR
theorem dX11_readSaid_6 : decode cX11_readSaid 6 = .ok (.istore_n 1, 1) := by decide +kernel
theorem dX11_readSaid_7 : decode cX11_readSaid 7 = .ok (.bipush 17, 2) := by decide +kernel
theorem dX11_readSaid_9 : decode cX11_readSaid 9 = .ok (.istore_n 2, 1) := by decide +kernel
theorem dX11_readSaid_10 : decode cX11_readSaid 10 = .ok (.iload_n 2, 1) := by decide +kernel
theorem dX11_readSaid_11 : decode cX11_readSaid 11 = .ok (.bipush 28, 2) := by decide +kernel
theorem dX11_readSaid_13 : decode cX11_readSaid 13 = .ok (.if_icmp .gt 17, 3) := by decide +kernel
theorem dX11_readSaid_16 : decode cX11_readSaid 16 = .ok (.aload_n 0, 1) := by decide +kernel
theorem dX11_readSaid_17 : decode cX11_readSaid 17 = .ok (.iload_n 2, 1) := by decide +kernel
theorem dX11_readSaid_18 : decode cX11_readSaid 18 = .ok (.invokevirtual 185, 3) := by decide +kernel
theorem t1620 : Cond.methodLink RX11 185 yX11_isWord ∈ GW := gw_mem 1734 (by decide +kernel) (by decide +kernel)
theorem t1622 : Cond.instanceMethod yX11_isWord ∈ GW := gw_mem 1736 (by decide +kernel) (by decide +kernel)
theorem s45 : Cond.selects RX11 yX11_isWord yX11_isWord ∈ GW := gw_mem 45 (by decide +kernel) (by decide +kernel)
theorem cw_X11_185 {R : Room} {s : State} {args : Array Value} {rm : Room} {mc ms : Nat} (hts : ∀ w ∈ GW, w.before args s = true) (hrc : rm.cells = mc) (hrs : rm.slots = ms) (hR : rm.frames + 1 ≤ R.frames ∧ 8 + (2 + 11) + rm.locals ≤ R.locals) : CallW R s args RX11 RX11 185 yX11_isWord cX11_isWord 2 (some .boolean) (wl yX11_isWord cX11_isWord 2 (some .boolean)) rm mc ms 1 := cwV 1 hts (gi_V t1620 t1622 s45 t18 t1623) rfl hrc hrs (by decide +kernel) hR
theorem dX11_readSaid_21 : decode cX11_readSaid 21 = .ok (.ifCond .ne 9, 3) := by decide +kernel
theorem dX11_readSaid_24 : decode cX11_readSaid 24 = .ok (.iinc 2 1, 3) := by decide +kernel
theorem dX11_readSaid_27 : decode cX11_readSaid 27 = .ok (.goto (-17), 3) := by decide +kernel
theorem dX11_readSaid_30 : decode cX11_readSaid 30 = .ok (.iload_n 1, 1) := by decide +kernel
theorem dX11_readSaid_31 : decode cX11_readSaid 31 = .ok (.ifCond .ne 15, 3) := by decide +kernel
theorem dX11_readSaid_34 : decode cX11_readSaid 34 = .ok (.iload_n 2, 1) := by decide +kernel
theorem dX11_readSaid_35 : decode cX11_readSaid 35 = .ok (.bipush 28, 2) := by decide +kernel
theorem dX11_readSaid_37 : decode cX11_readSaid 37 = .ok (.if_icmp .le 9, 3) := by decide +kernel
theorem dX11_readSaid_40 : decode cX11_readSaid 40 = .ok (.aload_n 0, 1) := by decide +kernel
theorem dX11_readSaid_41 : decode cX11_readSaid 41 = .ok (.iconst 1, 1) := by decide +kernel
theorem dX11_readSaid_42 : decode cX11_readSaid 42 = .ok (.invokevirtual 72, 3) := by decide +kernel
theorem t1638 : Cond.methodLink RX11 72 yX11_bad ∈ GW := gw_mem 1752 (by decide +kernel) (by decide +kernel)
theorem t1640 : Cond.instanceMethod yX11_bad ∈ GW := gw_mem 1754 (by decide +kernel) (by decide +kernel)
theorem s48 : Cond.selects RX11 yX11_bad yX11_bad ∈ GW := gw_mem 48 (by decide +kernel) (by decide +kernel)
theorem cw_X11_72 {R : Room} {s : State} {args : Array Value} {rm : Room} {mc ms : Nat} (hts : ∀ w ∈ GW, w.before args s = true) (hrc : rm.cells = mc) (hrs : rm.slots = ms) (hR : rm.frames + 1 ≤ R.frames ∧ 8 + (2 + 11) + rm.locals ≤ R.locals) : CallW R s args RX11 RX11 72 yX11_bad cX11_bad 2 (some .boolean) (wl yX11_bad cX11_bad 2 (some .boolean)) rm mc ms 1 := cwV 1 hts (gi_V t1638 t1640 s48 t18 t1641) rfl hrc hrs (by decide +kernel) hR
theorem dX11_readSaid_45 : decode cX11_readSaid 45 = .ok (.ireturn, 1) := by decide +kernel
set_option maxHeartbeats 4000000 in
set_option maxRecDepth 100000 in
theorem m_readSaid (l : Launch) (dC : Nat → ClassId) (dI : Nat → Nat → Nat) (cy : Nat → ClassId) (sz : Nat) (am : Nat → Nat)  : Met l yX11_readSaid (wl yX11_readSaid cX11_readSaid 4 (some .boolean)) ({ frames := 2, cells := 0, slots := 0, locals := 128 }) (Pw (dC, dI) vwCl cy [(am 0, .inr (12, [.int 0, .ref (am 1), .int 0, .int 0, .int 200, .int 0, .int 0, .int 0, .int 0, .int 0, .int 0, .int 0, .long 0, .int 0, .ref (am 2), .ref (am 3), .ref (am 4), .ref (am 5), .ref (am 6), .ref (am 7), .ref (am 8), .ref (am 9), .ref (am 10), .ref (am 11), .int 0, .int (-1), .ref (am 12), .ref (am 13), .ref (am 14), .int 0, .ref (am 15), .ref (am 16), .int 0, .int 0, .int 0, .ref (am 17), .int 0, .int 0, .ref (am 18), .ref (am 19), .int 0, .int 0, .ref (am 20), .int 0, .int 0, .int 0, .int 0]))] sz [.ref (am 0)] nE) (Qi (dC, dI) vwCl (fun (r : Int32) (u : Unit) => r = 0) (O_m_readSaid cy am) (va_A [(am 0, .inr (12, [.int 0, .ref (am 1), .int 0, .int 0, .int 200, .int 0, .int 0, .int 0, .int 0, .int 0, .int 0, .int 0, .long 0, .int 0, .ref (am 2), .ref (am 3), .ref (am 4), .ref (am 5), .ref (am 6), .ref (am 7), .ref (am 8), .ref (am 9), .ref (am 10), .ref (am 11), .int 0, .int (-1), .ref (am 12), .ref (am 13), .ref (am 14), .int 0, .ref (am 15), .ref (am 16), .int 0, .int 0, .int 0, .ref (am 17), .int 0, .int 0, .ref (am 18), .ref (am 19), .int 0, .int 0, .ref (am 20), .int 0, .int 0, .int 0, .int 0]))] sz)) 0 0 (va_A [(am 0, .inr (12, [.int 0, .ref (am 1), .int 0, .int 0, .int 200, .int 0, .int 0, .int 0, .int 0, .int 0, .int 0, .int 0, .long 0, .int 0, .ref (am 2), .ref (am 3), .ref (am 4), .ref (am 5), .ref (am 6), .ref (am 7), .ref (am 8), .ref (am 9), .ref (am 10), .ref (am 11), .int 0, .int (-1), .ref (am 12), .ref (am 13), .ref (am 14), .int 0, .ref (am 15), .ref (am 16), .int 0, .int 0, .int 0, .ref (am 17), .int 0, .int 0, .ref (am 18), .ref (am 19), .int 0, .int 0, .ref (am 20), .int 0, .int 0, .int 0, .int 0]))] sz) := by
  refine mw (Qc := Qi (dC, dI) vwCl (fun (r : Int32) (u : Unit) => r = 0) (O_m_readSaid cy am)) RX11 rfl (by decide +kernel) (Nat.le_of_ble_eq_true rfl) ?_
  intro p e s m below meth c A hx hb hr hlocks av9 hav hts hown hnm hml hK hP hD hA hS hE hAe Q9 hQ9 ls hl
  have hl : lv_has ls 4 [(0, .ref (am 0))] := hl
  refine lv_aload_n hx hb dX11_readSaid_0 rfl (lv_at hl 0 rfl) ?_
  refine lv_bipush (v := 40) hx hb dX11_readSaid_1 (by decide) ?_
  refine jr_i (rVr (As := [.int 40]) (rest := []) (ci := 12) ⟨hx, hb, hml, hown, hts⟩ (m_isSign l dC dI cy am 40 ) (cw_X11_86 hts rfl rfl ⟨Nat.le_of_ble_eq_true rfl, Nat.le_of_ble_eq_true rfl⟩) hP hK [0] rfl rfl rfl rfl hl.1 rfl (Nat.le_of_ble_eq_true rfl) dX11_readSaid_3 ⟨Nat.le_of_ble_eq_true rfl, Nat.le_of_ble_eq_true rfl⟩) hP hS (fun r_1 H locs hp_2 hP hS => ?_)
  refine as_i 0 hp_2 ?_
  refine lv_istore_n (lv' := [(1, .int 0), (0, .ref (am 0))]) hx hb dX11_readSaid_6 rfl hl (by decide) rfl (fun ls hl => ?_)
  refine lv_bipush (v := 17) hx hb dX11_readSaid_7 (by decide) ?_
  refine lv_istore_n (lv' := [(2, .int 17), (1, .int 0), (0, .ref (am 0))]) hx hb dX11_readSaid_9 rfl hl (by decide) rfl (fun ls hl => ?_)
  refine lv_iload_n hx hb dX11_readSaid_10 rfl (lv_at hl 0 rfl) ?_
  refine lv_bipush (v := 28) hx hb dX11_readSaid_11 (by decide) ?_
  refine lv_icmp_gt (tgt := 30) hx hb dX11_readSaid_13 (by decide) (fun c9 => absurd c9 (by decide)) (fun _ => ?_)
  refine lv_aload_n hx hb dX11_readSaid_16 rfl (lv_at hl 2 rfl) ?_
  refine lv_iload_n hx hb dX11_readSaid_17 rfl (lv_at hl 0 rfl) ?_
  refine jr_i (rVr (As := [.int 17]) (rest := []) (ci := 12) ⟨hx, hb, hml, hown, hts⟩ (m_isWord l dC dI cy am 17 ) (cw_X11_185 hts rfl rfl ⟨Nat.le_of_ble_eq_true rfl, Nat.le_of_ble_eq_true rfl⟩) hP hK [0] rfl rfl rfl rfl hl.1 rfl (Nat.le_of_ble_eq_true rfl) dX11_readSaid_18 ⟨Nat.le_of_ble_eq_true rfl, Nat.le_of_ble_eq_true rfl⟩) hP hS (fun r_3 H locs hp_4 hP hS => ?_)
  refine as_i 0 hp_4 ?_
  refine lv_if_ne (tgt := 30) hx hb dX11_readSaid_21 (by decide) (fun c9 => absurd c9 (by decide)) (fun _ => ?_)
  refine lv_iinc (v := 18) (lv' := [(2, .int 18), (1, .int 0), (0, .ref (am 0))]) hx hb dX11_readSaid_24 hl (k := 0) rfl (by decide) (by decide) rfl (fun ls hl => ?_)
  refine lv_goto (tgt := 10) hx hb dX11_readSaid_27 (by decide) ?_
  refine lv_iload_n hx hb dX11_readSaid_10 rfl (lv_at hl 0 rfl) ?_
  refine lv_bipush (v := 28) hx hb dX11_readSaid_11 (by decide) ?_
  refine lv_icmp_gt (tgt := 30) hx hb dX11_readSaid_13 (by decide) (fun c9 => absurd c9 (by decide)) (fun _ => ?_)
  refine lv_aload_n hx hb dX11_readSaid_16 rfl (lv_at hl 2 rfl) ?_
  refine lv_iload_n hx hb dX11_readSaid_17 rfl (lv_at hl 0 rfl) ?_
  refine jr_i (rVr (As := [.int 18]) (rest := []) (ci := 12) ⟨hx, hb, hml, hown, hts⟩ (m_isWord l dC dI cy am 18 ) (cw_X11_185 hts rfl rfl ⟨Nat.le_of_ble_eq_true rfl, Nat.le_of_ble_eq_true rfl⟩) hP hK [0] rfl rfl rfl rfl hl.1 rfl (Nat.le_of_ble_eq_true rfl) dX11_readSaid_18 ⟨Nat.le_of_ble_eq_true rfl, Nat.le_of_ble_eq_true rfl⟩) hP hS (fun r_5 H locs hp_6 hP hS => ?_)
  refine as_i 0 hp_6 ?_
  refine lv_if_ne (tgt := 30) hx hb dX11_readSaid_21 (by decide) (fun c9 => absurd c9 (by decide)) (fun _ => ?_)
  refine lv_iinc (v := 19) (lv' := [(2, .int 19), (1, .int 0), (0, .ref (am 0))]) hx hb dX11_readSaid_24 hl (k := 0) rfl (by decide) (by decide) rfl (fun ls hl => ?_)
  refine lv_goto (tgt := 10) hx hb dX11_readSaid_27 (by decide) ?_
  refine lv_iload_n hx hb dX11_readSaid_10 rfl (lv_at hl 0 rfl) ?_
  refine lv_bipush (v := 28) hx hb dX11_readSaid_11 (by decide) ?_
  refine lv_icmp_gt (tgt := 30) hx hb dX11_readSaid_13 (by decide) (fun c9 => absurd c9 (by decide)) (fun _ => ?_)
  refine lv_aload_n hx hb dX11_readSaid_16 rfl (lv_at hl 2 rfl) ?_
  refine lv_iload_n hx hb dX11_readSaid_17 rfl (lv_at hl 0 rfl) ?_
  refine jr_i (rVr (As := [.int 19]) (rest := []) (ci := 12) ⟨hx, hb, hml, hown, hts⟩ (m_isWord l dC dI cy am 19 ) (cw_X11_185 hts rfl rfl ⟨Nat.le_of_ble_eq_true rfl, Nat.le_of_ble_eq_true rfl⟩) hP hK [0] rfl rfl rfl rfl hl.1 rfl (Nat.le_of_ble_eq_true rfl) dX11_readSaid_18 ⟨Nat.le_of_ble_eq_true rfl, Nat.le_of_ble_eq_true rfl⟩) hP hS (fun r_7 H locs hp_8 hP hS => ?_)
  refine as_i 0 hp_8 ?_
  refine lv_if_ne (tgt := 30) hx hb dX11_readSaid_21 (by decide) (fun c9 => absurd c9 (by decide)) (fun _ => ?_)
  refine lv_iinc (v := 20) (lv' := [(2, .int 20), (1, .int 0), (0, .ref (am 0))]) hx hb dX11_readSaid_24 hl (k := 0) rfl (by decide) (by decide) rfl (fun ls hl => ?_)
  refine lv_goto (tgt := 10) hx hb dX11_readSaid_27 (by decide) ?_
  refine lv_iload_n hx hb dX11_readSaid_10 rfl (lv_at hl 0 rfl) ?_
  refine lv_bipush (v := 28) hx hb dX11_readSaid_11 (by decide) ?_
  refine lv_icmp_gt (tgt := 30) hx hb dX11_readSaid_13 (by decide) (fun c9 => absurd c9 (by decide)) (fun _ => ?_)
  refine lv_aload_n hx hb dX11_readSaid_16 rfl (lv_at hl 2 rfl) ?_
  refine lv_iload_n hx hb dX11_readSaid_17 rfl (lv_at hl 0 rfl) ?_
  refine jr_i (rVr (As := [.int 20]) (rest := []) (ci := 12) ⟨hx, hb, hml, hown, hts⟩ (m_isWord l dC dI cy am 20 ) (cw_X11_185 hts rfl rfl ⟨Nat.le_of_ble_eq_true rfl, Nat.le_of_ble_eq_true rfl⟩) hP hK [0] rfl rfl rfl rfl hl.1 rfl (Nat.le_of_ble_eq_true rfl) dX11_readSaid_18 ⟨Nat.le_of_ble_eq_true rfl, Nat.le_of_ble_eq_true rfl⟩) hP hS (fun r_9 H locs hp_10 hP hS => ?_)
  refine as_i 0 hp_10 ?_
  refine lv_if_ne (tgt := 30) hx hb dX11_readSaid_21 (by decide) (fun c9 => absurd c9 (by decide)) (fun _ => ?_)
  refine lv_iinc (v := 21) (lv' := [(2, .int 21), (1, .int 0), (0, .ref (am 0))]) hx hb dX11_readSaid_24 hl (k := 0) rfl (by decide) (by decide) rfl (fun ls hl => ?_)
  refine lv_goto (tgt := 10) hx hb dX11_readSaid_27 (by decide) ?_
  refine lv_iload_n hx hb dX11_readSaid_10 rfl (lv_at hl 0 rfl) ?_
  refine lv_bipush (v := 28) hx hb dX11_readSaid_11 (by decide) ?_
  refine lv_icmp_gt (tgt := 30) hx hb dX11_readSaid_13 (by decide) (fun c9 => absurd c9 (by decide)) (fun _ => ?_)
  refine lv_aload_n hx hb dX11_readSaid_16 rfl (lv_at hl 2 rfl) ?_
  refine lv_iload_n hx hb dX11_readSaid_17 rfl (lv_at hl 0 rfl) ?_
  refine jr_i (rVr (As := [.int 21]) (rest := []) (ci := 12) ⟨hx, hb, hml, hown, hts⟩ (m_isWord l dC dI cy am 21 ) (cw_X11_185 hts rfl rfl ⟨Nat.le_of_ble_eq_true rfl, Nat.le_of_ble_eq_true rfl⟩) hP hK [0] rfl rfl rfl rfl hl.1 rfl (Nat.le_of_ble_eq_true rfl) dX11_readSaid_18 ⟨Nat.le_of_ble_eq_true rfl, Nat.le_of_ble_eq_true rfl⟩) hP hS (fun r_11 H locs hp_12 hP hS => ?_)
  refine as_i 0 hp_12 ?_
  refine lv_if_ne (tgt := 30) hx hb dX11_readSaid_21 (by decide) (fun c9 => absurd c9 (by decide)) (fun _ => ?_)
  refine lv_iinc (v := 22) (lv' := [(2, .int 22), (1, .int 0), (0, .ref (am 0))]) hx hb dX11_readSaid_24 hl (k := 0) rfl (by decide) (by decide) rfl (fun ls hl => ?_)
  refine lv_goto (tgt := 10) hx hb dX11_readSaid_27 (by decide) ?_
  refine lv_iload_n hx hb dX11_readSaid_10 rfl (lv_at hl 0 rfl) ?_
  refine lv_bipush (v := 28) hx hb dX11_readSaid_11 (by decide) ?_
  refine lv_icmp_gt (tgt := 30) hx hb dX11_readSaid_13 (by decide) (fun c9 => absurd c9 (by decide)) (fun _ => ?_)
  refine lv_aload_n hx hb dX11_readSaid_16 rfl (lv_at hl 2 rfl) ?_
  refine lv_iload_n hx hb dX11_readSaid_17 rfl (lv_at hl 0 rfl) ?_
  refine jr_i (rVr (As := [.int 22]) (rest := []) (ci := 12) ⟨hx, hb, hml, hown, hts⟩ (m_isWord l dC dI cy am 22 ) (cw_X11_185 hts rfl rfl ⟨Nat.le_of_ble_eq_true rfl, Nat.le_of_ble_eq_true rfl⟩) hP hK [0] rfl rfl rfl rfl hl.1 rfl (Nat.le_of_ble_eq_true rfl) dX11_readSaid_18 ⟨Nat.le_of_ble_eq_true rfl, Nat.le_of_ble_eq_true rfl⟩) hP hS (fun r_13 H locs hp_14 hP hS => ?_)
  refine as_i 0 hp_14 ?_
  refine lv_if_ne (tgt := 30) hx hb dX11_readSaid_21 (by decide) (fun c9 => absurd c9 (by decide)) (fun _ => ?_)
  refine lv_iinc (v := 23) (lv' := [(2, .int 23), (1, .int 0), (0, .ref (am 0))]) hx hb dX11_readSaid_24 hl (k := 0) rfl (by decide) (by decide) rfl (fun ls hl => ?_)
  refine lv_goto (tgt := 10) hx hb dX11_readSaid_27 (by decide) ?_
  refine lv_iload_n hx hb dX11_readSaid_10 rfl (lv_at hl 0 rfl) ?_
  refine lv_bipush (v := 28) hx hb dX11_readSaid_11 (by decide) ?_
  refine lv_icmp_gt (tgt := 30) hx hb dX11_readSaid_13 (by decide) (fun c9 => absurd c9 (by decide)) (fun _ => ?_)
  refine lv_aload_n hx hb dX11_readSaid_16 rfl (lv_at hl 2 rfl) ?_
  refine lv_iload_n hx hb dX11_readSaid_17 rfl (lv_at hl 0 rfl) ?_
  refine jr_i (rVr (As := [.int 23]) (rest := []) (ci := 12) ⟨hx, hb, hml, hown, hts⟩ (m_isWord l dC dI cy am 23 ) (cw_X11_185 hts rfl rfl ⟨Nat.le_of_ble_eq_true rfl, Nat.le_of_ble_eq_true rfl⟩) hP hK [0] rfl rfl rfl rfl hl.1 rfl (Nat.le_of_ble_eq_true rfl) dX11_readSaid_18 ⟨Nat.le_of_ble_eq_true rfl, Nat.le_of_ble_eq_true rfl⟩) hP hS (fun r_15 H locs hp_16 hP hS => ?_)
  refine as_i 0 hp_16 ?_
  refine lv_if_ne (tgt := 30) hx hb dX11_readSaid_21 (by decide) (fun c9 => absurd c9 (by decide)) (fun _ => ?_)
  refine lv_iinc (v := 24) (lv' := [(2, .int 24), (1, .int 0), (0, .ref (am 0))]) hx hb dX11_readSaid_24 hl (k := 0) rfl (by decide) (by decide) rfl (fun ls hl => ?_)
  refine lv_goto (tgt := 10) hx hb dX11_readSaid_27 (by decide) ?_
  refine lv_iload_n hx hb dX11_readSaid_10 rfl (lv_at hl 0 rfl) ?_
  refine lv_bipush (v := 28) hx hb dX11_readSaid_11 (by decide) ?_
  refine lv_icmp_gt (tgt := 30) hx hb dX11_readSaid_13 (by decide) (fun c9 => absurd c9 (by decide)) (fun _ => ?_)
  refine lv_aload_n hx hb dX11_readSaid_16 rfl (lv_at hl 2 rfl) ?_
  refine lv_iload_n hx hb dX11_readSaid_17 rfl (lv_at hl 0 rfl) ?_
  refine jr_i (rVr (As := [.int 24]) (rest := []) (ci := 12) ⟨hx, hb, hml, hown, hts⟩ (m_isWord l dC dI cy am 24 ) (cw_X11_185 hts rfl rfl ⟨Nat.le_of_ble_eq_true rfl, Nat.le_of_ble_eq_true rfl⟩) hP hK [0] rfl rfl rfl rfl hl.1 rfl (Nat.le_of_ble_eq_true rfl) dX11_readSaid_18 ⟨Nat.le_of_ble_eq_true rfl, Nat.le_of_ble_eq_true rfl⟩) hP hS (fun r_17 H locs hp_18 hP hS => ?_)
  refine as_i 0 hp_18 ?_
  refine lv_if_ne (tgt := 30) hx hb dX11_readSaid_21 (by decide) (fun c9 => absurd c9 (by decide)) (fun _ => ?_)
  refine lv_iinc (v := 25) (lv' := [(2, .int 25), (1, .int 0), (0, .ref (am 0))]) hx hb dX11_readSaid_24 hl (k := 0) rfl (by decide) (by decide) rfl (fun ls hl => ?_)
  refine lv_goto (tgt := 10) hx hb dX11_readSaid_27 (by decide) ?_
  refine lv_iload_n hx hb dX11_readSaid_10 rfl (lv_at hl 0 rfl) ?_
  refine lv_bipush (v := 28) hx hb dX11_readSaid_11 (by decide) ?_
  refine lv_icmp_gt (tgt := 30) hx hb dX11_readSaid_13 (by decide) (fun c9 => absurd c9 (by decide)) (fun _ => ?_)
  refine lv_aload_n hx hb dX11_readSaid_16 rfl (lv_at hl 2 rfl) ?_
  refine lv_iload_n hx hb dX11_readSaid_17 rfl (lv_at hl 0 rfl) ?_
  refine jr_i (rVr (As := [.int 25]) (rest := []) (ci := 12) ⟨hx, hb, hml, hown, hts⟩ (m_isWord l dC dI cy am 25 ) (cw_X11_185 hts rfl rfl ⟨Nat.le_of_ble_eq_true rfl, Nat.le_of_ble_eq_true rfl⟩) hP hK [0] rfl rfl rfl rfl hl.1 rfl (Nat.le_of_ble_eq_true rfl) dX11_readSaid_18 ⟨Nat.le_of_ble_eq_true rfl, Nat.le_of_ble_eq_true rfl⟩) hP hS (fun r_19 H locs hp_20 hP hS => ?_)
  refine as_i 0 hp_20 ?_
  refine lv_if_ne (tgt := 30) hx hb dX11_readSaid_21 (by decide) (fun c9 => absurd c9 (by decide)) (fun _ => ?_)
  refine lv_iinc (v := 26) (lv' := [(2, .int 26), (1, .int 0), (0, .ref (am 0))]) hx hb dX11_readSaid_24 hl (k := 0) rfl (by decide) (by decide) rfl (fun ls hl => ?_)
  refine lv_goto (tgt := 10) hx hb dX11_readSaid_27 (by decide) ?_
  refine lv_iload_n hx hb dX11_readSaid_10 rfl (lv_at hl 0 rfl) ?_
  refine lv_bipush (v := 28) hx hb dX11_readSaid_11 (by decide) ?_
  refine lv_icmp_gt (tgt := 30) hx hb dX11_readSaid_13 (by decide) (fun c9 => absurd c9 (by decide)) (fun _ => ?_)
  refine lv_aload_n hx hb dX11_readSaid_16 rfl (lv_at hl 2 rfl) ?_
  refine lv_iload_n hx hb dX11_readSaid_17 rfl (lv_at hl 0 rfl) ?_
  refine jr_i (rVr (As := [.int 26]) (rest := []) (ci := 12) ⟨hx, hb, hml, hown, hts⟩ (m_isWord l dC dI cy am 26 ) (cw_X11_185 hts rfl rfl ⟨Nat.le_of_ble_eq_true rfl, Nat.le_of_ble_eq_true rfl⟩) hP hK [0] rfl rfl rfl rfl hl.1 rfl (Nat.le_of_ble_eq_true rfl) dX11_readSaid_18 ⟨Nat.le_of_ble_eq_true rfl, Nat.le_of_ble_eq_true rfl⟩) hP hS (fun r_21 H locs hp_22 hP hS => ?_)
  refine as_i 0 hp_22 ?_
  refine lv_if_ne (tgt := 30) hx hb dX11_readSaid_21 (by decide) (fun c9 => absurd c9 (by decide)) (fun _ => ?_)
  refine lv_iinc (v := 27) (lv' := [(2, .int 27), (1, .int 0), (0, .ref (am 0))]) hx hb dX11_readSaid_24 hl (k := 0) rfl (by decide) (by decide) rfl (fun ls hl => ?_)
  refine lv_goto (tgt := 10) hx hb dX11_readSaid_27 (by decide) ?_
  refine lv_iload_n hx hb dX11_readSaid_10 rfl (lv_at hl 0 rfl) ?_
  refine lv_bipush (v := 28) hx hb dX11_readSaid_11 (by decide) ?_
  refine lv_icmp_gt (tgt := 30) hx hb dX11_readSaid_13 (by decide) (fun c9 => absurd c9 (by decide)) (fun _ => ?_)
  refine lv_aload_n hx hb dX11_readSaid_16 rfl (lv_at hl 2 rfl) ?_
  refine lv_iload_n hx hb dX11_readSaid_17 rfl (lv_at hl 0 rfl) ?_
  refine jr_i (rVr (As := [.int 27]) (rest := []) (ci := 12) ⟨hx, hb, hml, hown, hts⟩ (m_isWord l dC dI cy am 27 ) (cw_X11_185 hts rfl rfl ⟨Nat.le_of_ble_eq_true rfl, Nat.le_of_ble_eq_true rfl⟩) hP hK [0] rfl rfl rfl rfl hl.1 rfl (Nat.le_of_ble_eq_true rfl) dX11_readSaid_18 ⟨Nat.le_of_ble_eq_true rfl, Nat.le_of_ble_eq_true rfl⟩) hP hS (fun r_23 H locs hp_24 hP hS => ?_)
  refine as_i 0 hp_24 ?_
  refine lv_if_ne (tgt := 30) hx hb dX11_readSaid_21 (by decide) (fun c9 => absurd c9 (by decide)) (fun _ => ?_)
  refine lv_iinc (v := 28) (lv' := [(2, .int 28), (1, .int 0), (0, .ref (am 0))]) hx hb dX11_readSaid_24 hl (k := 0) rfl (by decide) (by decide) rfl (fun ls hl => ?_)
  refine lv_goto (tgt := 10) hx hb dX11_readSaid_27 (by decide) ?_
  refine lv_iload_n hx hb dX11_readSaid_10 rfl (lv_at hl 0 rfl) ?_
  refine lv_bipush (v := 28) hx hb dX11_readSaid_11 (by decide) ?_
  refine lv_icmp_gt (tgt := 30) hx hb dX11_readSaid_13 (by decide) (fun c9 => absurd c9 (by decide)) (fun _ => ?_)
  refine lv_aload_n hx hb dX11_readSaid_16 rfl (lv_at hl 2 rfl) ?_
  refine lv_iload_n hx hb dX11_readSaid_17 rfl (lv_at hl 0 rfl) ?_
  refine jr_i (rVr (As := [.int 28]) (rest := []) (ci := 12) ⟨hx, hb, hml, hown, hts⟩ (m_isWord l dC dI cy am 28 ) (cw_X11_185 hts rfl rfl ⟨Nat.le_of_ble_eq_true rfl, Nat.le_of_ble_eq_true rfl⟩) hP hK [0] rfl rfl rfl rfl hl.1 rfl (Nat.le_of_ble_eq_true rfl) dX11_readSaid_18 ⟨Nat.le_of_ble_eq_true rfl, Nat.le_of_ble_eq_true rfl⟩) hP hS (fun r_25 H locs hp_26 hP hS => ?_)
  refine as_i 0 hp_26 ?_
  refine lv_if_ne (tgt := 30) hx hb dX11_readSaid_21 (by decide) (fun c9 => absurd c9 (by decide)) (fun _ => ?_)
  refine lv_iinc (v := 29) (lv' := [(2, .int 29), (1, .int 0), (0, .ref (am 0))]) hx hb dX11_readSaid_24 hl (k := 0) rfl (by decide) (by decide) rfl (fun ls hl => ?_)
  refine lv_goto (tgt := 10) hx hb dX11_readSaid_27 (by decide) ?_
  refine lv_iload_n hx hb dX11_readSaid_10 rfl (lv_at hl 0 rfl) ?_
  refine lv_bipush (v := 28) hx hb dX11_readSaid_11 (by decide) ?_
  refine lv_icmp_gt (tgt := 30) hx hb dX11_readSaid_13 (by decide) (fun _ => ?_) (fun c9 => absurd (by decide) c9)
  refine lv_iload_n hx hb dX11_readSaid_30 rfl (lv_at hl 1 rfl) ?_
  refine lv_if_ne (tgt := 46) hx hb dX11_readSaid_31 (by decide) (fun c9 => absurd c9 (by decide)) (fun _ => ?_)
  refine lv_iload_n hx hb dX11_readSaid_34 rfl (lv_at hl 0 rfl) ?_
  refine lv_bipush (v := 28) hx hb dX11_readSaid_35 (by decide) ?_
  refine lv_icmp_le (tgt := 46) hx hb dX11_readSaid_37 (by decide) (fun c9 => absurd c9 (by decide)) (fun _ => ?_)
  refine lv_aload_n hx hb dX11_readSaid_40 rfl (lv_at hl 2 rfl) ?_
  refine lv_iconst (v := 1) hx hb dX11_readSaid_41 (by decide) ?_
  refine jn_i (wr := []) (rV (As := [.int 1]) (rest := []) (ci := 12) ⟨hx, hb, hml, hown, hts⟩ (m_bad l dC dI cy _ am ) (cw_X11_72 hts rfl rfl ⟨Nat.le_of_ble_eq_true rfl, Nat.le_of_ble_eq_true rfl⟩) hP hD hK [0] rfl rfl rfl rfl bl0 e0 rfl hl.1 rfl (Nat.le_of_ble_eq_true rfl) dX11_readSaid_42 ⟨Nat.le_of_ble_eq_true rfl, Nat.le_of_ble_eq_true rfl⟩) hP hD hS hA [0] [] rfl rfl rfl (by decide) (fun r_27 u_29 H locs hp_28 hP hD hS => ?_)
  have hp_28 : r_27 = 0 := hp_28
  have hP : va_P (dC, dI) vwCl [(am 0, .inr (12, [.int 0, .ref (am 1), .int 0, .int 0, .int 200, .int 0, .int 0, .int 0, .int 0, .int 0, .int 1, .int 0, .long 0, .int 0, .ref (am 2), .ref (am 3), .ref (am 4), .ref (am 5), .ref (am 6), .ref (am 7), .ref (am 8), .ref (am 9), .ref (am 10), .ref (am 11), .int 0, .int (-1), .ref (am 12), .ref (am 13), .ref (am 14), .int 0, .ref (am 15), .ref (am 16), .int 0, .int 0, .int 0, .ref (am 17), .int 0, .int 0, .ref (am 18), .ref (am 19), .int 0, .int 0, .ref (am 20), .int 0, .int 0, .int 0, .int 0]))] H := hP
  have hD : va_D A [(am 0, .inr (12, [.int 0, .ref (am 1), .int 0, .int 0, .int 200, .int 0, .int 0, .int 0, .int 0, .int 0, .int 1, .int 0, .long 0, .int 0, .ref (am 2), .ref (am 3), .ref (am 4), .ref (am 5), .ref (am 6), .ref (am 7), .ref (am 8), .ref (am 9), .ref (am 10), .ref (am 11), .int 0, .int (-1), .ref (am 12), .ref (am 13), .ref (am 14), .int 0, .ref (am 15), .ref (am 16), .int 0, .int 0, .int 0, .ref (am 17), .int 0, .int 0, .ref (am 18), .ref (am 19), .int 0, .int 0, .ref (am 20), .int 0, .int 0, .int 0, .int 0]))] := hD
  refine as_i 0 hp_28 ?_
  rw [hQ9]
  exact re_z () hx hb hr hlocks (Or.inl rfl) rfl (hP.sub [0] rfl) (hD.sub [0] rfl rfl) hS dX11_readSaid_45
abbrev cX11_readAnd : ByteArray := prog_13_method_120_code
def yX11_readAnd : MethodName := ⟨RX11, "readAnd", "()Z"⟩
theorem t2030 : Cond.code yX11_readAnd cX11_readAnd 2 (some .boolean) ∈ GW := gw_mem 2144 (by decide +kernel) (by decide +kernel)
abbrev O_m_readAnd (cy : Nat → ClassId) (am : Nat → Nat) (u : Unit) : va_W := [(am 0, .inr (12, [.int 0, .ref (am 1), .int 0, .int 0, .int 200, .int 0, .int 0, .int 0, .int 0, .int 0, .int 1, .int 0, .long 0, .int 0, .ref (am 2), .ref (am 3), .ref (am 4), .ref (am 5), .ref (am 6), .ref (am 7), .ref (am 8), .ref (am 9), .ref (am 10), .ref (am 11), .int 0, .int (-1), .ref (am 12), .ref (am 13), .ref (am 14), .int 0, .ref (am 15), .ref (am 16), .int 0, .int 0, .int 0, .ref (am 17), .int 0, .int 0, .ref (am 18), .ref (am 19), .int 0, .int 0, .ref (am 20), .int 0, .int 0, .int 0, .int 0]))]
theorem dX11_readAnd_0 : decode cX11_readAnd 0 = .ok (.aload_n 0, 1) := by decide +kernel
theorem dX11_readAnd_1 : decode cX11_readAnd 1 = .ok (.invokevirtual 414, 3) := by decide +kernel
theorem t2031 : Cond.methodLink RX11 414 yX11_readSaid ∈ GW := gw_mem 2145 (by decide +kernel) (by decide +kernel)
theorem t2033 : Cond.instanceMethod yX11_readSaid ∈ GW := gw_mem 2147 (by decide +kernel) (by decide +kernel)
theorem s107 : Cond.selects RX11 yX11_readSaid yX11_readSaid ∈ GW := gw_mem 107 (by decide +kernel) (by decide +kernel)
theorem cw_X11_414 {R : Room} {s : State} {args : Array Value} {rm : Room} {mc ms : Nat} (hts : ∀ w ∈ GW, w.before args s = true) (hrc : rm.cells = mc) (hrs : rm.slots = ms) (hR : rm.frames + 1 ≤ R.frames ∧ 8 + (4 + 11) + rm.locals ≤ R.locals) : CallW R s args RX11 RX11 414 yX11_readSaid cX11_readSaid 4 (some .boolean) (wl yX11_readSaid cX11_readSaid 4 (some .boolean)) rm mc ms 0 := cwV 0 hts (gi_V t2031 t2033 s107 t18 t2034) rfl hrc hrs (by decide +kernel) hR
theorem dX11_readAnd_4 : decode cX11_readAnd 4 = .ok (.ifCond .ne 5, 3) := by decide +kernel
theorem dX11_readAnd_7 : decode cX11_readAnd 7 = .ok (.iconst 0, 1) := by decide +kernel
theorem dX11_readAnd_8 : decode cX11_readAnd 8 = .ok (.ireturn, 1) := by decide +kernel
set_option maxHeartbeats 4000000 in
set_option maxRecDepth 100000 in
theorem m_readAnd (l : Launch) (dC : Nat → ClassId) (dI : Nat → Nat → Nat) (cy : Nat → ClassId) (sz : Nat) (am : Nat → Nat)  : Met l yX11_readAnd (wl yX11_readAnd cX11_readAnd 2 (some .boolean)) ({ frames := 3, cells := 0, slots := 0, locals := 192 }) (Pw (dC, dI) vwCl cy [(am 0, .inr (12, [.int 0, .ref (am 1), .int 0, .int 0, .int 200, .int 0, .int 0, .int 0, .int 0, .int 0, .int 0, .int 0, .long 0, .int 0, .ref (am 2), .ref (am 3), .ref (am 4), .ref (am 5), .ref (am 6), .ref (am 7), .ref (am 8), .ref (am 9), .ref (am 10), .ref (am 11), .int 0, .int (-1), .ref (am 12), .ref (am 13), .ref (am 14), .int 0, .ref (am 15), .ref (am 16), .int 0, .int 0, .int 0, .ref (am 17), .int 0, .int 0, .ref (am 18), .ref (am 19), .int 0, .int 0, .ref (am 20), .int 0, .int 0, .int 0, .int 0]))] sz [.ref (am 0)] nE) (Qi (dC, dI) vwCl (fun (r : Int32) (u : Unit) => r = 0) (O_m_readAnd cy am) (va_A [(am 0, .inr (12, [.int 0, .ref (am 1), .int 0, .int 0, .int 200, .int 0, .int 0, .int 0, .int 0, .int 0, .int 0, .int 0, .long 0, .int 0, .ref (am 2), .ref (am 3), .ref (am 4), .ref (am 5), .ref (am 6), .ref (am 7), .ref (am 8), .ref (am 9), .ref (am 10), .ref (am 11), .int 0, .int (-1), .ref (am 12), .ref (am 13), .ref (am 14), .int 0, .ref (am 15), .ref (am 16), .int 0, .int 0, .int 0, .ref (am 17), .int 0, .int 0, .ref (am 18), .ref (am 19), .int 0, .int 0, .ref (am 20), .int 0, .int 0, .int 0, .int 0]))] sz)) 0 0 (va_A [(am 0, .inr (12, [.int 0, .ref (am 1), .int 0, .int 0, .int 200, .int 0, .int 0, .int 0, .int 0, .int 0, .int 0, .int 0, .long 0, .int 0, .ref (am 2), .ref (am 3), .ref (am 4), .ref (am 5), .ref (am 6), .ref (am 7), .ref (am 8), .ref (am 9), .ref (am 10), .ref (am 11), .int 0, .int (-1), .ref (am 12), .ref (am 13), .ref (am 14), .int 0, .ref (am 15), .ref (am 16), .int 0, .int 0, .int 0, .ref (am 17), .int 0, .int 0, .ref (am 18), .ref (am 19), .int 0, .int 0, .ref (am 20), .int 0, .int 0, .int 0, .int 0]))] sz) := by
  refine mw (Qc := Qi (dC, dI) vwCl (fun (r : Int32) (u : Unit) => r = 0) (O_m_readAnd cy am)) RX11 rfl (by decide +kernel) (Nat.le_of_ble_eq_true rfl) ?_
  intro p e s m below meth c A hx hb hr hlocks av9 hav hts hown hnm hml hK hP hD hA hS hE hAe Q9 hQ9 ls hl
  have hl : lv_has ls 2 [(0, .ref (am 0))] := hl
  refine lv_aload_n hx hb dX11_readAnd_0 rfl (lv_at hl 0 rfl) ?_
  refine jn_i (wr := []) (rV (As := []) (rest := []) (ci := 12) ⟨hx, hb, hml, hown, hts⟩ (m_readSaid l dC dI cy _ am ) (cw_X11_414 hts rfl rfl ⟨Nat.le_of_ble_eq_true rfl, Nat.le_of_ble_eq_true rfl⟩) hP hD hK [0] rfl rfl rfl rfl bl0 e0 rfl hl.1 rfl (Nat.le_of_ble_eq_true rfl) dX11_readAnd_1 ⟨Nat.le_of_ble_eq_true rfl, Nat.le_of_ble_eq_true rfl⟩) hP hD hS hA [0] [] rfl rfl rfl (by decide) (fun r_1 u_3 H locs hp_2 hP hD hS => ?_)
  have hp_2 : r_1 = 0 := hp_2
  have hP : va_P (dC, dI) vwCl [(am 0, .inr (12, [.int 0, .ref (am 1), .int 0, .int 0, .int 200, .int 0, .int 0, .int 0, .int 0, .int 0, .int 1, .int 0, .long 0, .int 0, .ref (am 2), .ref (am 3), .ref (am 4), .ref (am 5), .ref (am 6), .ref (am 7), .ref (am 8), .ref (am 9), .ref (am 10), .ref (am 11), .int 0, .int (-1), .ref (am 12), .ref (am 13), .ref (am 14), .int 0, .ref (am 15), .ref (am 16), .int 0, .int 0, .int 0, .ref (am 17), .int 0, .int 0, .ref (am 18), .ref (am 19), .int 0, .int 0, .ref (am 20), .int 0, .int 0, .int 0, .int 0]))] H := hP
  have hD : va_D A [(am 0, .inr (12, [.int 0, .ref (am 1), .int 0, .int 0, .int 200, .int 0, .int 0, .int 0, .int 0, .int 0, .int 1, .int 0, .long 0, .int 0, .ref (am 2), .ref (am 3), .ref (am 4), .ref (am 5), .ref (am 6), .ref (am 7), .ref (am 8), .ref (am 9), .ref (am 10), .ref (am 11), .int 0, .int (-1), .ref (am 12), .ref (am 13), .ref (am 14), .int 0, .ref (am 15), .ref (am 16), .int 0, .int 0, .int 0, .ref (am 17), .int 0, .int 0, .ref (am 18), .ref (am 19), .int 0, .int 0, .ref (am 20), .int 0, .int 0, .int 0, .int 0]))] := hD
  refine as_i 0 hp_2 ?_
  refine lv_if_ne (tgt := 9) hx hb dX11_readAnd_4 (by decide) (fun c9 => absurd c9 (by decide)) (fun _ => ?_)
  refine lv_iconst (v := 0) hx hb dX11_readAnd_7 (by decide) ?_
  rw [hQ9]
  exact re_z () hx hb hr hlocks (Or.inl rfl) rfl (hP.sub [0] rfl) (hD.sub [0] rfl rfl) hS dX11_readAnd_8
abbrev cX11_readOr : ByteArray := prog_13_method_119_code
def yX11_readOr : MethodName := ⟨RX11, "readOr", "()Z"⟩
theorem t2026 : Cond.code yX11_readOr cX11_readOr 2 (some .boolean) ∈ GW := gw_mem 2140 (by decide +kernel) (by decide +kernel)
abbrev O_m_readOr (cy : Nat → ClassId) (am : Nat → Nat) (u : Unit) : va_W := [(am 0, .inr (12, [.int 0, .ref (am 1), .int 0, .int 0, .int 200, .int 0, .int 0, .int 0, .int 0, .int 0, .int 1, .int 0, .long 0, .int 0, .ref (am 2), .ref (am 3), .ref (am 4), .ref (am 5), .ref (am 6), .ref (am 7), .ref (am 8), .ref (am 9), .ref (am 10), .ref (am 11), .int 0, .int (-1), .ref (am 12), .ref (am 13), .ref (am 14), .int 0, .ref (am 15), .ref (am 16), .int 0, .int 0, .int 0, .ref (am 17), .int 0, .int 0, .ref (am 18), .ref (am 19), .int 0, .int 0, .ref (am 20), .int 0, .int 0, .int 0, .int 0]))]
theorem dX11_readOr_0 : decode cX11_readOr 0 = .ok (.aload_n 0, 1) := by decide +kernel
theorem dX11_readOr_1 : decode cX11_readOr 1 = .ok (.invokevirtual 405, 3) := by decide +kernel
theorem t2027 : Cond.methodLink RX11 405 yX11_readAnd ∈ GW := gw_mem 2141 (by decide +kernel) (by decide +kernel)
theorem t2029 : Cond.instanceMethod yX11_readAnd ∈ GW := gw_mem 2143 (by decide +kernel) (by decide +kernel)
theorem s106 : Cond.selects RX11 yX11_readAnd yX11_readAnd ∈ GW := gw_mem 106 (by decide +kernel) (by decide +kernel)
theorem cw_X11_405 {R : Room} {s : State} {args : Array Value} {rm : Room} {mc ms : Nat} (hts : ∀ w ∈ GW, w.before args s = true) (hrc : rm.cells = mc) (hrs : rm.slots = ms) (hR : rm.frames + 1 ≤ R.frames ∧ 8 + (2 + 11) + rm.locals ≤ R.locals) : CallW R s args RX11 RX11 405 yX11_readAnd cX11_readAnd 2 (some .boolean) (wl yX11_readAnd cX11_readAnd 2 (some .boolean)) rm mc ms 0 := cwV 0 hts (gi_V t2027 t2029 s106 t18 t2030) rfl hrc hrs (by decide +kernel) hR
theorem dX11_readOr_4 : decode cX11_readOr 4 = .ok (.ifCond .ne 5, 3) := by decide +kernel
theorem dX11_readOr_7 : decode cX11_readOr 7 = .ok (.iconst 0, 1) := by decide +kernel
theorem dX11_readOr_8 : decode cX11_readOr 8 = .ok (.ireturn, 1) := by decide +kernel
set_option maxHeartbeats 4000000 in
set_option maxRecDepth 100000 in
theorem m_readOr (l : Launch) (dC : Nat → ClassId) (dI : Nat → Nat → Nat) (cy : Nat → ClassId) (sz : Nat) (am : Nat → Nat)  : Met l yX11_readOr (wl yX11_readOr cX11_readOr 2 (some .boolean)) ({ frames := 4, cells := 0, slots := 0, locals := 256 }) (Pw (dC, dI) vwCl cy [(am 0, .inr (12, [.int 0, .ref (am 1), .int 0, .int 0, .int 200, .int 0, .int 0, .int 0, .int 0, .int 0, .int 0, .int 0, .long 0, .int 0, .ref (am 2), .ref (am 3), .ref (am 4), .ref (am 5), .ref (am 6), .ref (am 7), .ref (am 8), .ref (am 9), .ref (am 10), .ref (am 11), .int 0, .int (-1), .ref (am 12), .ref (am 13), .ref (am 14), .int 0, .ref (am 15), .ref (am 16), .int 0, .int 0, .int 0, .ref (am 17), .int 0, .int 0, .ref (am 18), .ref (am 19), .int 0, .int 0, .ref (am 20), .int 0, .int 0, .int 0, .int 0]))] sz [.ref (am 0)] nE) (Qi (dC, dI) vwCl (fun (r : Int32) (u : Unit) => r = 0) (O_m_readOr cy am) (va_A [(am 0, .inr (12, [.int 0, .ref (am 1), .int 0, .int 0, .int 200, .int 0, .int 0, .int 0, .int 0, .int 0, .int 0, .int 0, .long 0, .int 0, .ref (am 2), .ref (am 3), .ref (am 4), .ref (am 5), .ref (am 6), .ref (am 7), .ref (am 8), .ref (am 9), .ref (am 10), .ref (am 11), .int 0, .int (-1), .ref (am 12), .ref (am 13), .ref (am 14), .int 0, .ref (am 15), .ref (am 16), .int 0, .int 0, .int 0, .ref (am 17), .int 0, .int 0, .ref (am 18), .ref (am 19), .int 0, .int 0, .ref (am 20), .int 0, .int 0, .int 0, .int 0]))] sz)) 0 0 (va_A [(am 0, .inr (12, [.int 0, .ref (am 1), .int 0, .int 0, .int 200, .int 0, .int 0, .int 0, .int 0, .int 0, .int 0, .int 0, .long 0, .int 0, .ref (am 2), .ref (am 3), .ref (am 4), .ref (am 5), .ref (am 6), .ref (am 7), .ref (am 8), .ref (am 9), .ref (am 10), .ref (am 11), .int 0, .int (-1), .ref (am 12), .ref (am 13), .ref (am 14), .int 0, .ref (am 15), .ref (am 16), .int 0, .int 0, .int 0, .ref (am 17), .int 0, .int 0, .ref (am 18), .ref (am 19), .int 0, .int 0, .ref (am 20), .int 0, .int 0, .int 0, .int 0]))] sz) := by
  refine mw (Qc := Qi (dC, dI) vwCl (fun (r : Int32) (u : Unit) => r = 0) (O_m_readOr cy am)) RX11 rfl (by decide +kernel) (Nat.le_of_ble_eq_true rfl) ?_
  intro p e s m below meth c A hx hb hr hlocks av9 hav hts hown hnm hml hK hP hD hA hS hE hAe Q9 hQ9 ls hl
  have hl : lv_has ls 2 [(0, .ref (am 0))] := hl
  refine lv_aload_n hx hb dX11_readOr_0 rfl (lv_at hl 0 rfl) ?_
  refine jn_i (wr := []) (rV (As := []) (rest := []) (ci := 12) ⟨hx, hb, hml, hown, hts⟩ (m_readAnd l dC dI cy _ am ) (cw_X11_405 hts rfl rfl ⟨Nat.le_of_ble_eq_true rfl, Nat.le_of_ble_eq_true rfl⟩) hP hD hK [0] rfl rfl rfl rfl bl0 e0 rfl hl.1 rfl (Nat.le_of_ble_eq_true rfl) dX11_readOr_1 ⟨Nat.le_of_ble_eq_true rfl, Nat.le_of_ble_eq_true rfl⟩) hP hD hS hA [0] [] rfl rfl rfl (by decide) (fun r_1 u_3 H locs hp_2 hP hD hS => ?_)
  have hp_2 : r_1 = 0 := hp_2
  have hP : va_P (dC, dI) vwCl [(am 0, .inr (12, [.int 0, .ref (am 1), .int 0, .int 0, .int 200, .int 0, .int 0, .int 0, .int 0, .int 0, .int 1, .int 0, .long 0, .int 0, .ref (am 2), .ref (am 3), .ref (am 4), .ref (am 5), .ref (am 6), .ref (am 7), .ref (am 8), .ref (am 9), .ref (am 10), .ref (am 11), .int 0, .int (-1), .ref (am 12), .ref (am 13), .ref (am 14), .int 0, .ref (am 15), .ref (am 16), .int 0, .int 0, .int 0, .ref (am 17), .int 0, .int 0, .ref (am 18), .ref (am 19), .int 0, .int 0, .ref (am 20), .int 0, .int 0, .int 0, .int 0]))] H := hP
  have hD : va_D A [(am 0, .inr (12, [.int 0, .ref (am 1), .int 0, .int 0, .int 200, .int 0, .int 0, .int 0, .int 0, .int 0, .int 1, .int 0, .long 0, .int 0, .ref (am 2), .ref (am 3), .ref (am 4), .ref (am 5), .ref (am 6), .ref (am 7), .ref (am 8), .ref (am 9), .ref (am 10), .ref (am 11), .int 0, .int (-1), .ref (am 12), .ref (am 13), .ref (am 14), .int 0, .ref (am 15), .ref (am 16), .int 0, .int 0, .int 0, .ref (am 17), .int 0, .int 0, .ref (am 18), .ref (am 19), .int 0, .int 0, .ref (am 20), .int 0, .int 0, .int 0, .int 0]))] := hD
  refine as_i 0 hp_2 ?_
  refine lv_if_ne (tgt := 9) hx hb dX11_readOr_4 (by decide) (fun c9 => absurd c9 (by decide)) (fun _ => ?_)
  refine lv_iconst (v := 0) hx hb dX11_readOr_7 (by decide) ?_
  rw [hQ9]
  exact re_z () hx hb hr hlocks (Or.inl rfl) rfl (hP.sub [0] rfl) (hD.sub [0] rfl rfl) hS dX11_readOr_8
abbrev cX11_sentence : ByteArray := prog_13_method_126_code
def yX11_sentence : MethodName := ⟨RX11, "sentence", "()I"⟩
theorem t2022 : Cond.code yX11_sentence cX11_sentence 2 (some .int) ∈ GW := gw_mem 2136 (by decide +kernel) (by decide +kernel)
theorem dX11_sentence_0 : decode cX11_sentence 0 = .ok (.aload_n 0, 1) := by decide +kernel
theorem dX11_sentence_1 : decode cX11_sentence 1 = .ok (.sipush 200, 3) := by decide +kernel
theorem dX11_sentence_4 : decode cX11_sentence 4 = .ok (.invokevirtual 216, 3) := by decide +kernel
theorem dX11_sentence_7 : decode cX11_sentence 7 = .ok (.aload_n 0, 1) := by decide +kernel
theorem dX11_sentence_8 : decode cX11_sentence 8 = .ok (.iconst 0, 1) := by decide +kernel
theorem dX11_sentence_9 : decode cX11_sentence 9 = .ok (.putfield 402, 3) := by decide +kernel
theorem t1489 : Cond.fieldLink RX11 402 "LikenessPoundModel" "nodes" "I" ∈ GW := gw_mem 1603 (by decide +kernel) (by decide +kernel)
theorem pf_X11_402 {p : Program} {l : Launch} {e : Env} {R : Room} {s : State} {m : MethodId} {args : Array Value} {below : List Frame} {meth : Method} {c : Code} {H : Heap} {locs : List Loc} {cells slots : Nat} {Q : State → Prop} {cc : ByteArray} {pc : Nat} {ls : Array Slot} {rest : List Value} {D : va_G} {A : Nat → Prop} {a : Nat} {tys : List (ClassId × FieldType)} {ws : va_W} {H0 : Heap} (hx : p.tables.exec = Jvm.exec) (hb : c.code = cc) (hts : ∀ w ∈ GW, w.before args s = true) (hown : s.vm.findClass RX11 = some m.cls) (hK : va_K D vwCl tys s) (hP : va_P D vwCl ws H) (hD : va_D A ws) (hS0 : va_S A H0 H locs) (q0 : Nat) {fs : List Value} (he : ws[q0]? = some (a, .inr (12, fs))) {v : Value} (hn : narrow (tyX11 43) v = v) (hfit : fits (tyX11 43) v = true) (hl : 43 < fs.length) (hdg : decode cc pc = .ok (.putfield 402, 3)) (kk : ∀ (H1 : Heap) (locs1 : List Loc), va_P D vwCl (ws.set q0 (a, .inr (12, fs.set 43 v))) H1 → va_D A (ws.set q0 (a, .inr (12, fs.set 43 v))) → va_S A H0 H1 locs1 → W p l e R s m args below meth c H1 locs1 cells slots Q (F0 m (pc + 3) ls rest)) : W p l e R s m args below meth c H locs cells slots Q (F0 m pc ls (v :: .ref a :: rest)) := va_put (C := RX11) (T := TX11) (N := 47) (ci := 12) hx hb hts inX11 tyX11 tkX11 nmX11 hown hK hP hD hS0 q0 he rfl 43 (by decide) (hts _ t1489) (fun _ h => h) rfl (tkX11 43 (by decide)) hn hfit hl hdg kk
theorem dX11_sentence_12 : decode cX11_sentence 12 = .ok (.aload_n 0, 1) := by decide +kernel
theorem dX11_sentence_13 : decode cX11_sentence 13 = .ok (.iconst 0, 1) := by decide +kernel
theorem dX11_sentence_14 : decode cX11_sentence 14 = .ok (.putfield 417, 3) := by decide +kernel
theorem t1490 : Cond.fieldLink RX11 417 "LikenessPoundModel" "onesMany" "I" ∈ GW := gw_mem 1604 (by decide +kernel) (by decide +kernel)
theorem pf_X11_417 {p : Program} {l : Launch} {e : Env} {R : Room} {s : State} {m : MethodId} {args : Array Value} {below : List Frame} {meth : Method} {c : Code} {H : Heap} {locs : List Loc} {cells slots : Nat} {Q : State → Prop} {cc : ByteArray} {pc : Nat} {ls : Array Slot} {rest : List Value} {D : va_G} {A : Nat → Prop} {a : Nat} {tys : List (ClassId × FieldType)} {ws : va_W} {H0 : Heap} (hx : p.tables.exec = Jvm.exec) (hb : c.code = cc) (hts : ∀ w ∈ GW, w.before args s = true) (hown : s.vm.findClass RX11 = some m.cls) (hK : va_K D vwCl tys s) (hP : va_P D vwCl ws H) (hD : va_D A ws) (hS0 : va_S A H0 H locs) (q0 : Nat) {fs : List Value} (he : ws[q0]? = some (a, .inr (12, fs))) {v : Value} (hn : narrow (tyX11 44) v = v) (hfit : fits (tyX11 44) v = true) (hl : 44 < fs.length) (hdg : decode cc pc = .ok (.putfield 417, 3)) (kk : ∀ (H1 : Heap) (locs1 : List Loc), va_P D vwCl (ws.set q0 (a, .inr (12, fs.set 44 v))) H1 → va_D A (ws.set q0 (a, .inr (12, fs.set 44 v))) → va_S A H0 H1 locs1 → W p l e R s m args below meth c H1 locs1 cells slots Q (F0 m (pc + 3) ls rest)) : W p l e R s m args below meth c H locs cells slots Q (F0 m pc ls (v :: .ref a :: rest)) := va_put (C := RX11) (T := TX11) (N := 47) (ci := 12) hx hb hts inX11 tyX11 tkX11 nmX11 hown hK hP hD hS0 q0 he rfl 44 (by decide) (hts _ t1490) (fun _ h => h) rfl (tkX11 44 (by decide)) hn hfit hl hdg kk
theorem dX11_sentence_17 : decode cX11_sentence 17 = .ok (.aload_n 0, 1) := by decide +kernel
theorem dX11_sentence_18 : decode cX11_sentence 18 = .ok (.iconst 0, 1) := by decide +kernel
theorem dX11_sentence_19 : decode cX11_sentence 19 = .ok (.putfield 420, 3) := by decide +kernel
theorem t1491 : Cond.fieldLink RX11 420 "LikenessPoundModel" "within" "I" ∈ GW := gw_mem 1605 (by decide +kernel) (by decide +kernel)
theorem pf_X11_420 {p : Program} {l : Launch} {e : Env} {R : Room} {s : State} {m : MethodId} {args : Array Value} {below : List Frame} {meth : Method} {c : Code} {H : Heap} {locs : List Loc} {cells slots : Nat} {Q : State → Prop} {cc : ByteArray} {pc : Nat} {ls : Array Slot} {rest : List Value} {D : va_G} {A : Nat → Prop} {a : Nat} {tys : List (ClassId × FieldType)} {ws : va_W} {H0 : Heap} (hx : p.tables.exec = Jvm.exec) (hb : c.code = cc) (hts : ∀ w ∈ GW, w.before args s = true) (hown : s.vm.findClass RX11 = some m.cls) (hK : va_K D vwCl tys s) (hP : va_P D vwCl ws H) (hD : va_D A ws) (hS0 : va_S A H0 H locs) (q0 : Nat) {fs : List Value} (he : ws[q0]? = some (a, .inr (12, fs))) {v : Value} (hn : narrow (tyX11 45) v = v) (hfit : fits (tyX11 45) v = true) (hl : 45 < fs.length) (hdg : decode cc pc = .ok (.putfield 420, 3)) (kk : ∀ (H1 : Heap) (locs1 : List Loc), va_P D vwCl (ws.set q0 (a, .inr (12, fs.set 45 v))) H1 → va_D A (ws.set q0 (a, .inr (12, fs.set 45 v))) → va_S A H0 H1 locs1 → W p l e R s m args below meth c H1 locs1 cells slots Q (F0 m (pc + 3) ls rest)) : W p l e R s m args below meth c H locs cells slots Q (F0 m pc ls (v :: .ref a :: rest)) := va_put (C := RX11) (T := TX11) (N := 47) (ci := 12) hx hb hts inX11 tyX11 tkX11 nmX11 hown hK hP hD hS0 q0 he rfl 45 (by decide) (hts _ t1491) (fun _ h => h) rfl (tkX11 45 (by decide)) hn hfit hl hdg kk
theorem dX11_sentence_22 : decode cX11_sentence 22 = .ok (.aload_n 0, 1) := by decide +kernel
theorem dX11_sentence_23 : decode cX11_sentence 23 = .ok (.invokevirtual 435, 3) := by decide +kernel
theorem t2023 : Cond.methodLink RX11 435 yX11_readOr ∈ GW := gw_mem 2137 (by decide +kernel) (by decide +kernel)
theorem t2025 : Cond.instanceMethod yX11_readOr ∈ GW := gw_mem 2139 (by decide +kernel) (by decide +kernel)
theorem s105 : Cond.selects RX11 yX11_readOr yX11_readOr ∈ GW := gw_mem 105 (by decide +kernel) (by decide +kernel)
theorem cw_X11_435 {R : Room} {s : State} {args : Array Value} {rm : Room} {mc ms : Nat} (hts : ∀ w ∈ GW, w.before args s = true) (hrc : rm.cells = mc) (hrs : rm.slots = ms) (hR : rm.frames + 1 ≤ R.frames ∧ 8 + (2 + 11) + rm.locals ≤ R.locals) : CallW R s args RX11 RX11 435 yX11_readOr cX11_readOr 2 (some .boolean) (wl yX11_readOr cX11_readOr 2 (some .boolean)) rm mc ms 0 := cwV 0 hts (gi_V t2023 t2025 s105 t18 t2026) rfl hrc hrs (by decide +kernel) hR
theorem dX11_sentence_26 : decode cX11_sentence 26 = .ok (.ifCond .ne 10, 3) := by decide +kernel
theorem dX11_sentence_29 : decode cX11_sentence 29 = .ok (.iconst (-1), 1) := by decide +kernel
theorem dX11_sentence_30 : decode cX11_sentence 30 = .ok (.aload_n 0, 1) := by decide +kernel
theorem dX11_sentence_31 : decode cX11_sentence 31 = .ok (.getfield 69, 3) := by decide +kernel
theorem gf_X11_69 {p : Program} {l : Launch} {e : Env} {R : Room} {s : State} {m : MethodId} {args : Array Value} {below : List Frame} {meth : Method} {c : Code} {H : Heap} {locs : List Loc} {cells slots : Nat} {Q : State → Prop} {cc : ByteArray} {pc : Nat} {ls : Array Slot} {rest : List Value} {D : va_G} {a : Nat} {tys : List (ClassId × FieldType)} {ws : va_W} (hx : p.tables.exec = Jvm.exec) (hb : c.code = cc) (hts : ∀ w ∈ GW, w.before args s = true) (hown : s.vm.findClass RX11 = some m.cls) (hK : va_K D vwCl tys s) (hP : va_P D vwCl ws H) (q0 : Nat) {fs : List Value} (he : ws[q0]? = some (a, .inr (12, fs))) {v : Value} (hv : fs[11]? = some v) (hdg : decode cc pc = .ok (.getfield 69, 3)) (kk : W p l e R s m args below meth c H locs cells slots Q (F0 m (pc + 3) ls (v :: rest))) : W p l e R s m args below meth c H locs cells slots Q (F0 m pc ls (.ref a :: rest)) := va_get (C := RX11) (T := TX11) (N := 47) (ci := 12) hx hb hts inX11 hown hK hP q0 he rfl 11 (by decide) (hts _ t1457) (fun _ h => h) hv hdg kk
theorem dX11_sentence_34 : decode cX11_sentence 34 = .ok (.isub, 1) := by decide +kernel
theorem dX11_sentence_35 : decode cX11_sentence 35 = .ok (.ireturn, 1) := by decide +kernel
set_option maxHeartbeats 4000000 in
set_option maxRecDepth 100000 in
theorem m_sentence (l : Launch) (dC : Nat → ClassId) (dI : Nat → Nat → Nat) (cy : Nat → ClassId) (sz : Nat) (am : Nat → Nat)  : Met l yX11_sentence (wl yX11_sentence cX11_sentence 2 (some .int)) ({ frames := 5, cells := 0, slots := 0, locals := 320 }) (Pw (dC, dI) vwCl cy [(am 0, .inr (12, [.int 0, .ref (am 1), .int 0, .int 0, .int 0, .int 0, .int 0, .int 0, .int 0, .int 0, .int 0, .int 0, .long 0, .int 0, .ref (am 2), .ref (am 3), .ref (am 4), .ref (am 5), .ref (am 6), .ref (am 7), .ref (am 8), .ref (am 9), .ref (am 10), .ref (am 11), .int 0, .int (-1), .ref (am 12), .ref (am 13), .ref (am 14), .int 0, .ref (am 15), .ref (am 16), .int 0, .int 0, .int 0, .ref (am 17), .int 0, .int 0, .ref (am 18), .ref (am 19), .int 0, .int 0, .ref (am 20), .int 0, .int 0, .int 0, .int 0]))] sz [.ref (am 0)] nE) (Qi (dC, dI) vwCl (fun (r : Int32) (u : Unit) => r = (-1)) (fun (u : Unit) => []) (va_A [(am 0, .inr (12, [.int 0, .ref (am 1), .int 0, .int 0, .int 0, .int 0, .int 0, .int 0, .int 0, .int 0, .int 0, .int 0, .long 0, .int 0, .ref (am 2), .ref (am 3), .ref (am 4), .ref (am 5), .ref (am 6), .ref (am 7), .ref (am 8), .ref (am 9), .ref (am 10), .ref (am 11), .int 0, .int (-1), .ref (am 12), .ref (am 13), .ref (am 14), .int 0, .ref (am 15), .ref (am 16), .int 0, .int 0, .int 0, .ref (am 17), .int 0, .int 0, .ref (am 18), .ref (am 19), .int 0, .int 0, .ref (am 20), .int 0, .int 0, .int 0, .int 0]))] sz)) 0 0 (va_A [(am 0, .inr (12, [.int 0, .ref (am 1), .int 0, .int 0, .int 0, .int 0, .int 0, .int 0, .int 0, .int 0, .int 0, .int 0, .long 0, .int 0, .ref (am 2), .ref (am 3), .ref (am 4), .ref (am 5), .ref (am 6), .ref (am 7), .ref (am 8), .ref (am 9), .ref (am 10), .ref (am 11), .int 0, .int (-1), .ref (am 12), .ref (am 13), .ref (am 14), .int 0, .ref (am 15), .ref (am 16), .int 0, .int 0, .int 0, .ref (am 17), .int 0, .int 0, .ref (am 18), .ref (am 19), .int 0, .int 0, .ref (am 20), .int 0, .int 0, .int 0, .int 0]))] sz) := by
  refine mw (Qc := Qi (dC, dI) vwCl (fun (r : Int32) (u : Unit) => r = (-1)) (fun (u : Unit) => [])) RX11 rfl (by decide +kernel) (Nat.le_of_ble_eq_true rfl) ?_
  intro p e s m below meth c A hx hb hr hlocks av9 hav hts hown hnm hml hK hP hD hA hS hE hAe Q9 hQ9 ls hl
  have hl : lv_has ls 2 [(0, .ref (am 0))] := hl
  refine lv_aload_n hx hb dX11_sentence_0 rfl (lv_at hl 0 rfl) ?_
  refine lv_sipush (v := 200) hx hb dX11_sentence_1 (by decide) ?_
  refine jn_v (wr := []) (rV (As := [.int 200]) (rest := []) (ci := 12) ⟨hx, hb, hml, hown, hts⟩ (m_begin200 l dC dI cy _ am ) (cw_X11_216 hts rfl rfl ⟨Nat.le_of_ble_eq_true rfl, Nat.le_of_ble_eq_true rfl⟩) hP hD hK [0] rfl rfl rfl rfl bl0 e0 rfl hl.1 rfl (Nat.le_of_ble_eq_true rfl) dX11_sentence_4 ⟨Nat.le_of_ble_eq_true rfl, Nat.le_of_ble_eq_true rfl⟩) hP hD hS hA [0] [] rfl rfl rfl (by decide) (fun u_3 H locs hp_2 hP hD hS => ?_)
  have hp_2 : True := hp_2
  have hP : va_P (dC, dI) vwCl [(am 0, .inr (12, [.int 0, .ref (am 1), .int 0, .int 0, .int 200, .int 0, .int 0, .int 0, .int 0, .int 0, .int 0, .int 0, .long 0, .int 0, .ref (am 2), .ref (am 3), .ref (am 4), .ref (am 5), .ref (am 6), .ref (am 7), .ref (am 8), .ref (am 9), .ref (am 10), .ref (am 11), .int 0, .int (-1), .ref (am 12), .ref (am 13), .ref (am 14), .int 0, .ref (am 15), .ref (am 16), .int 0, .int 0, .int 0, .ref (am 17), .int 0, .int 0, .ref (am 18), .ref (am 19), .int 0, .int 0, .ref (am 20), .int 0, .int 0, .int 0, .int 0]))] H := hP
  have hD : va_D A [(am 0, .inr (12, [.int 0, .ref (am 1), .int 0, .int 0, .int 200, .int 0, .int 0, .int 0, .int 0, .int 0, .int 0, .int 0, .long 0, .int 0, .ref (am 2), .ref (am 3), .ref (am 4), .ref (am 5), .ref (am 6), .ref (am 7), .ref (am 8), .ref (am 9), .ref (am 10), .ref (am 11), .int 0, .int (-1), .ref (am 12), .ref (am 13), .ref (am 14), .int 0, .ref (am 15), .ref (am 16), .int 0, .int 0, .int 0, .ref (am 17), .int 0, .int 0, .ref (am 18), .ref (am 19), .int 0, .int 0, .ref (am 20), .int 0, .int 0, .int 0, .int 0]))] := hD
  refine lv_aload_n hx hb dX11_sentence_7 rfl (lv_at hl 0 rfl) ?_
  refine lv_iconst (v := 0) hx hb dX11_sentence_8 (by decide) ?_
  refine pf_X11_402 hx hb hts hown hK hP hD hS 0 rfl rfl rfl (Nat.le_of_ble_eq_true rfl) dX11_sentence_9 (fun H locs hP hD hS => ?_)
  have hP : va_P (dC, dI) vwCl [(am 0, .inr (12, [.int 0, .ref (am 1), .int 0, .int 0, .int 200, .int 0, .int 0, .int 0, .int 0, .int 0, .int 0, .int 0, .long 0, .int 0, .ref (am 2), .ref (am 3), .ref (am 4), .ref (am 5), .ref (am 6), .ref (am 7), .ref (am 8), .ref (am 9), .ref (am 10), .ref (am 11), .int 0, .int (-1), .ref (am 12), .ref (am 13), .ref (am 14), .int 0, .ref (am 15), .ref (am 16), .int 0, .int 0, .int 0, .ref (am 17), .int 0, .int 0, .ref (am 18), .ref (am 19), .int 0, .int 0, .ref (am 20), .int 0, .int 0, .int 0, .int 0]))] H := hP
  have hD : va_D A [(am 0, .inr (12, [.int 0, .ref (am 1), .int 0, .int 0, .int 200, .int 0, .int 0, .int 0, .int 0, .int 0, .int 0, .int 0, .long 0, .int 0, .ref (am 2), .ref (am 3), .ref (am 4), .ref (am 5), .ref (am 6), .ref (am 7), .ref (am 8), .ref (am 9), .ref (am 10), .ref (am 11), .int 0, .int (-1), .ref (am 12), .ref (am 13), .ref (am 14), .int 0, .ref (am 15), .ref (am 16), .int 0, .int 0, .int 0, .ref (am 17), .int 0, .int 0, .ref (am 18), .ref (am 19), .int 0, .int 0, .ref (am 20), .int 0, .int 0, .int 0, .int 0]))] := hD
  refine lv_aload_n hx hb dX11_sentence_12 rfl (lv_at hl 0 rfl) ?_
  refine lv_iconst (v := 0) hx hb dX11_sentence_13 (by decide) ?_
  refine pf_X11_417 hx hb hts hown hK hP hD hS 0 rfl rfl rfl (Nat.le_of_ble_eq_true rfl) dX11_sentence_14 (fun H locs hP hD hS => ?_)
  have hP : va_P (dC, dI) vwCl [(am 0, .inr (12, [.int 0, .ref (am 1), .int 0, .int 0, .int 200, .int 0, .int 0, .int 0, .int 0, .int 0, .int 0, .int 0, .long 0, .int 0, .ref (am 2), .ref (am 3), .ref (am 4), .ref (am 5), .ref (am 6), .ref (am 7), .ref (am 8), .ref (am 9), .ref (am 10), .ref (am 11), .int 0, .int (-1), .ref (am 12), .ref (am 13), .ref (am 14), .int 0, .ref (am 15), .ref (am 16), .int 0, .int 0, .int 0, .ref (am 17), .int 0, .int 0, .ref (am 18), .ref (am 19), .int 0, .int 0, .ref (am 20), .int 0, .int 0, .int 0, .int 0]))] H := hP
  have hD : va_D A [(am 0, .inr (12, [.int 0, .ref (am 1), .int 0, .int 0, .int 200, .int 0, .int 0, .int 0, .int 0, .int 0, .int 0, .int 0, .long 0, .int 0, .ref (am 2), .ref (am 3), .ref (am 4), .ref (am 5), .ref (am 6), .ref (am 7), .ref (am 8), .ref (am 9), .ref (am 10), .ref (am 11), .int 0, .int (-1), .ref (am 12), .ref (am 13), .ref (am 14), .int 0, .ref (am 15), .ref (am 16), .int 0, .int 0, .int 0, .ref (am 17), .int 0, .int 0, .ref (am 18), .ref (am 19), .int 0, .int 0, .ref (am 20), .int 0, .int 0, .int 0, .int 0]))] := hD
  refine lv_aload_n hx hb dX11_sentence_17 rfl (lv_at hl 0 rfl) ?_
  refine lv_iconst (v := 0) hx hb dX11_sentence_18 (by decide) ?_
  refine pf_X11_420 hx hb hts hown hK hP hD hS 0 rfl rfl rfl (Nat.le_of_ble_eq_true rfl) dX11_sentence_19 (fun H locs hP hD hS => ?_)
  have hP : va_P (dC, dI) vwCl [(am 0, .inr (12, [.int 0, .ref (am 1), .int 0, .int 0, .int 200, .int 0, .int 0, .int 0, .int 0, .int 0, .int 0, .int 0, .long 0, .int 0, .ref (am 2), .ref (am 3), .ref (am 4), .ref (am 5), .ref (am 6), .ref (am 7), .ref (am 8), .ref (am 9), .ref (am 10), .ref (am 11), .int 0, .int (-1), .ref (am 12), .ref (am 13), .ref (am 14), .int 0, .ref (am 15), .ref (am 16), .int 0, .int 0, .int 0, .ref (am 17), .int 0, .int 0, .ref (am 18), .ref (am 19), .int 0, .int 0, .ref (am 20), .int 0, .int 0, .int 0, .int 0]))] H := hP
  have hD : va_D A [(am 0, .inr (12, [.int 0, .ref (am 1), .int 0, .int 0, .int 200, .int 0, .int 0, .int 0, .int 0, .int 0, .int 0, .int 0, .long 0, .int 0, .ref (am 2), .ref (am 3), .ref (am 4), .ref (am 5), .ref (am 6), .ref (am 7), .ref (am 8), .ref (am 9), .ref (am 10), .ref (am 11), .int 0, .int (-1), .ref (am 12), .ref (am 13), .ref (am 14), .int 0, .ref (am 15), .ref (am 16), .int 0, .int 0, .int 0, .ref (am 17), .int 0, .int 0, .ref (am 18), .ref (am 19), .int 0, .int 0, .ref (am 20), .int 0, .int 0, .int 0, .int 0]))] := hD
  refine lv_aload_n hx hb dX11_sentence_22 rfl (lv_at hl 0 rfl) ?_
  refine jn_i (wr := []) (rV (As := []) (rest := []) (ci := 12) ⟨hx, hb, hml, hown, hts⟩ (m_readOr l dC dI cy _ am ) (cw_X11_435 hts rfl rfl ⟨Nat.le_of_ble_eq_true rfl, Nat.le_of_ble_eq_true rfl⟩) hP hD hK [0] rfl rfl rfl rfl bl0 e0 rfl hl.1 rfl (Nat.le_of_ble_eq_true rfl) dX11_sentence_23 ⟨Nat.le_of_ble_eq_true rfl, Nat.le_of_ble_eq_true rfl⟩) hP hD hS hA [0] [] rfl rfl rfl (by decide) (fun r_4 u_6 H locs hp_5 hP hD hS => ?_)
  have hp_5 : r_4 = 0 := hp_5
  have hP : va_P (dC, dI) vwCl [(am 0, .inr (12, [.int 0, .ref (am 1), .int 0, .int 0, .int 200, .int 0, .int 0, .int 0, .int 0, .int 0, .int 1, .int 0, .long 0, .int 0, .ref (am 2), .ref (am 3), .ref (am 4), .ref (am 5), .ref (am 6), .ref (am 7), .ref (am 8), .ref (am 9), .ref (am 10), .ref (am 11), .int 0, .int (-1), .ref (am 12), .ref (am 13), .ref (am 14), .int 0, .ref (am 15), .ref (am 16), .int 0, .int 0, .int 0, .ref (am 17), .int 0, .int 0, .ref (am 18), .ref (am 19), .int 0, .int 0, .ref (am 20), .int 0, .int 0, .int 0, .int 0]))] H := hP
  have hD : va_D A [(am 0, .inr (12, [.int 0, .ref (am 1), .int 0, .int 0, .int 200, .int 0, .int 0, .int 0, .int 0, .int 0, .int 1, .int 0, .long 0, .int 0, .ref (am 2), .ref (am 3), .ref (am 4), .ref (am 5), .ref (am 6), .ref (am 7), .ref (am 8), .ref (am 9), .ref (am 10), .ref (am 11), .int 0, .int (-1), .ref (am 12), .ref (am 13), .ref (am 14), .int 0, .ref (am 15), .ref (am 16), .int 0, .int 0, .int 0, .ref (am 17), .int 0, .int 0, .ref (am 18), .ref (am 19), .int 0, .int 0, .ref (am 20), .int 0, .int 0, .int 0, .int 0]))] := hD
  refine as_i 0 hp_5 ?_
  refine lv_if_ne (tgt := 36) hx hb dX11_sentence_26 (by decide) (fun c9 => absurd c9 (by decide)) (fun _ => ?_)
  refine lv_iconst (v := (-1)) hx hb dX11_sentence_29 (by decide) ?_
  refine lv_aload_n hx hb dX11_sentence_30 rfl (lv_at hl 0 rfl) ?_
  refine gf_X11_69 hx hb hts hown hK hP 0 rfl rfl dX11_sentence_31 ?_
  refine lv_isub hx hb dX11_sentence_34 ?_
  refine as_i (-1) (by decide) ?_
  rw [hQ9]
  exact re_i () hx hb hr hlocks rfl (hP.sub [] rfl) (hD.sub [] rfl rfl) hS dX11_sentence_35
abbrev cX11_image : ByteArray := prog_13_method_129_code
def yX11_image : MethodName := ⟨RX11, "image", "(I)Z"⟩
theorem t2067 : Cond.code yX11_image cX11_image 3 (some .boolean) ∈ GW := gw_mem 2181 (by decide +kernel) (by decide +kernel)
theorem dX11_image_0 : decode cX11_image 0 = .ok (.aload_n 0, 1) := by decide +kernel
theorem dX11_image_1 : decode cX11_image 1 = .ok (.iconst 0, 1) := by decide +kernel
theorem dX11_image_2 : decode cX11_image 2 = .ok (.putfield 1, 3) := by decide +kernel
theorem dX11_image_5 : decode cX11_image 5 = .ok (.iload_n 1, 1) := by decide +kernel
theorem dX11_image_6 : decode cX11_image 6 = .ok (.iconst 0, 1) := by decide +kernel
theorem dX11_image_7 : decode cX11_image 7 = .ok (.iconst 1, 1) := by decide +kernel
theorem dX11_image_8 : decode cX11_image 8 = .ok (.invokestatic 75, 3) := by decide +kernel
theorem dX11_image_11 : decode cX11_image 11 = .ok (.ifCond .ne 5, 3) := by decide +kernel
theorem dX11_image_16 : decode cX11_image 16 = .ok (.iconst 0, 1) := by decide +kernel
theorem dX11_image_17 : decode cX11_image 17 = .ok (.istore_n 2, 1) := by decide +kernel
theorem dX11_image_18 : decode cX11_image 18 = .ok (.iload_n 2, 1) := by decide +kernel
theorem dX11_image_19 : decode cX11_image 19 = .ok (.sipush 575, 3) := by decide +kernel
theorem dX11_image_22 : decode cX11_image 22 = .ok (.if_icmp .ge 27, 3) := by decide +kernel
theorem dX11_image_49 : decode cX11_image 49 = .ok (.iconst 0, 1) := by decide +kernel
theorem dX11_image_50 : decode cX11_image 50 = .ok (.istore_n 2, 1) := by decide +kernel
theorem dX11_image_51 : decode cX11_image 51 = .ok (.iload_n 2, 1) := by decide +kernel
theorem dX11_image_52 : decode cX11_image 52 = .ok (.bipush 17, 2) := by decide +kernel
theorem dX11_image_54 : decode cX11_image 54 = .ok (.if_icmp .ge 26, 3) := by decide +kernel
theorem dX11_image_80 : decode cX11_image 80 = .ok (.aload_n 0, 1) := by decide +kernel
theorem dX11_image_81 : decode cX11_image 81 = .ok (.getfield 123, 3) := by decide +kernel
theorem t1468 : Cond.fieldLink RX11 123 "LikenessPoundModel" "isKept" "[Z" ∈ GW := gw_mem 1582 (by decide +kernel) (by decide +kernel)
theorem gf_X11_123 {p : Program} {l : Launch} {e : Env} {R : Room} {s : State} {m : MethodId} {args : Array Value} {below : List Frame} {meth : Method} {c : Code} {H : Heap} {locs : List Loc} {cells slots : Nat} {Q : State → Prop} {cc : ByteArray} {pc : Nat} {ls : Array Slot} {rest : List Value} {D : va_G} {a : Nat} {tys : List (ClassId × FieldType)} {ws : va_W} (hx : p.tables.exec = Jvm.exec) (hb : c.code = cc) (hts : ∀ w ∈ GW, w.before args s = true) (hown : s.vm.findClass RX11 = some m.cls) (hK : va_K D vwCl tys s) (hP : va_P D vwCl ws H) (q0 : Nat) {fs : List Value} (he : ws[q0]? = some (a, .inr (12, fs))) {v : Value} (hv : fs[22]? = some v) (hdg : decode cc pc = .ok (.getfield 123, 3)) (kk : W p l e R s m args below meth c H locs cells slots Q (F0 m (pc + 3) ls (v :: rest))) : W p l e R s m args below meth c H locs cells slots Q (F0 m pc ls (.ref a :: rest)) := va_get (C := RX11) (T := TX11) (N := 47) (ci := 12) hx hb hts inX11 hown hK hP q0 he rfl 22 (by decide) (hts _ t1468) (fun _ h => h) hv hdg kk
theorem dX11_image_84 : decode cX11_image 84 = .ok (.iload_n 1, 1) := by decide +kernel
theorem dX11_image_85 : decode cX11_image 85 = .ok (.iconst 1, 1) := by decide +kernel
theorem dX11_image_86 : decode cX11_image 86 = .ok (.bastore, 1) := by decide +kernel
theorem dX11_image_87 : decode cX11_image 87 = .ok (.iconst 1, 1) := by decide +kernel
theorem dX11_image_88 : decode cX11_image 88 = .ok (.ireturn, 1) := by decide +kernel
theorem dX11_image_57 : decode cX11_image 57 = .ok (.aload_n 0, 1) := by decide +kernel
theorem dX11_image_58 : decode cX11_image 58 = .ok (.getfield 120, 3) := by decide +kernel
theorem t1467 : Cond.fieldLink RX11 120 "LikenessPoundModel" "keptName" "[J" ∈ GW := gw_mem 1581 (by decide +kernel) (by decide +kernel)
theorem gf_X11_120 {p : Program} {l : Launch} {e : Env} {R : Room} {s : State} {m : MethodId} {args : Array Value} {below : List Frame} {meth : Method} {c : Code} {H : Heap} {locs : List Loc} {cells slots : Nat} {Q : State → Prop} {cc : ByteArray} {pc : Nat} {ls : Array Slot} {rest : List Value} {D : va_G} {a : Nat} {tys : List (ClassId × FieldType)} {ws : va_W} (hx : p.tables.exec = Jvm.exec) (hb : c.code = cc) (hts : ∀ w ∈ GW, w.before args s = true) (hown : s.vm.findClass RX11 = some m.cls) (hK : va_K D vwCl tys s) (hP : va_P D vwCl ws H) (q0 : Nat) {fs : List Value} (he : ws[q0]? = some (a, .inr (12, fs))) {v : Value} (hv : fs[21]? = some v) (hdg : decode cc pc = .ok (.getfield 120, 3)) (kk : W p l e R s m args below meth c H locs cells slots Q (F0 m (pc + 3) ls (v :: rest))) : W p l e R s m args below meth c H locs cells slots Q (F0 m pc ls (.ref a :: rest)) := va_get (C := RX11) (T := TX11) (N := 47) (ci := 12) hx hb hts inX11 hown hK hP q0 he rfl 21 (by decide) (hts _ t1467) (fun _ h => h) hv hdg kk
theorem dX11_image_61 : decode cX11_image 61 = .ok (.bipush 17, 2) := by decide +kernel
theorem dX11_image_63 : decode cX11_image 63 = .ok (.iload_n 1, 1) := by decide +kernel
theorem dX11_image_64 : decode cX11_image 64 = .ok (.imul, 1) := by decide +kernel
theorem dX11_image_65 : decode cX11_image 65 = .ok (.iload_n 2, 1) := by decide +kernel
theorem dX11_image_66 : decode cX11_image 66 = .ok (.iadd, 1) := by decide +kernel
theorem dX11_image_67 : decode cX11_image 67 = .ok (.aload_n 0, 1) := by decide +kernel
theorem dX11_image_68 : decode cX11_image 68 = .ok (.getfield 113, 3) := by decide +kernel
theorem dX11_image_71 : decode cX11_image 71 = .ok (.iload_n 2, 1) := by decide +kernel
theorem dX11_image_72 : decode cX11_image 72 = .ok (.laload, 1) := by decide +kernel
theorem dX11_image_73 : decode cX11_image 73 = .ok (.lastore, 1) := by decide +kernel
theorem dX11_image_74 : decode cX11_image 74 = .ok (.iinc 2 1, 3) := by decide +kernel
theorem dX11_image_77 : decode cX11_image 77 = .ok (.goto (-26), 3) := by decide +kernel
theorem dX11_image_25 : decode cX11_image 25 = .ok (.aload_n 0, 1) := by decide +kernel
theorem dX11_image_26 : decode cX11_image 26 = .ok (.getfield 104, 3) := by decide +kernel
theorem t1462 : Cond.fieldLink RX11 104 "LikenessPoundModel" "kept" "[I" ∈ GW := gw_mem 1576 (by decide +kernel) (by decide +kernel)
theorem gf_X11_104 {p : Program} {l : Launch} {e : Env} {R : Room} {s : State} {m : MethodId} {args : Array Value} {below : List Frame} {meth : Method} {c : Code} {H : Heap} {locs : List Loc} {cells slots : Nat} {Q : State → Prop} {cc : ByteArray} {pc : Nat} {ls : Array Slot} {rest : List Value} {D : va_G} {a : Nat} {tys : List (ClassId × FieldType)} {ws : va_W} (hx : p.tables.exec = Jvm.exec) (hb : c.code = cc) (hts : ∀ w ∈ GW, w.before args s = true) (hown : s.vm.findClass RX11 = some m.cls) (hK : va_K D vwCl tys s) (hP : va_P D vwCl ws H) (q0 : Nat) {fs : List Value} (he : ws[q0]? = some (a, .inr (12, fs))) {v : Value} (hv : fs[16]? = some v) (hdg : decode cc pc = .ok (.getfield 104, 3)) (kk : W p l e R s m args below meth c H locs cells slots Q (F0 m (pc + 3) ls (v :: rest))) : W p l e R s m args below meth c H locs cells slots Q (F0 m pc ls (.ref a :: rest)) := va_get (C := RX11) (T := TX11) (N := 47) (ci := 12) hx hb hts inX11 hown hK hP q0 he rfl 16 (by decide) (hts _ t1462) (fun _ h => h) hv hdg kk
theorem dX11_image_29 : decode cX11_image 29 = .ok (.sipush 575, 3) := by decide +kernel
theorem dX11_image_32 : decode cX11_image 32 = .ok (.iload_n 1, 1) := by decide +kernel
theorem dX11_image_33 : decode cX11_image 33 = .ok (.imul, 1) := by decide +kernel
theorem dX11_image_34 : decode cX11_image 34 = .ok (.iload_n 2, 1) := by decide +kernel
theorem dX11_image_35 : decode cX11_image 35 = .ok (.iadd, 1) := by decide +kernel
theorem dX11_image_36 : decode cX11_image 36 = .ok (.aload_n 0, 1) := by decide +kernel
theorem dX11_image_37 : decode cX11_image 37 = .ok (.getfield 98, 3) := by decide +kernel
theorem dX11_image_40 : decode cX11_image 40 = .ok (.iload_n 2, 1) := by decide +kernel
theorem dX11_image_41 : decode cX11_image 41 = .ok (.iaload, 1) := by decide +kernel
theorem dX11_image_42 : decode cX11_image 42 = .ok (.iastore, 1) := by decide +kernel
theorem dX11_image_43 : decode cX11_image 43 = .ok (.iinc 2 1, 3) := by decide +kernel
theorem dX11_image_46 : decode cX11_image 46 = .ok (.goto (-28), 3) := by decide +kernel
theorem dX11_image_14 : decode cX11_image 14 = .ok (.iconst 0, 1) := by decide +kernel
theorem dX11_image_15 : decode cX11_image 15 = .ok (.ireturn, 1) := by decide +kernel
set_option maxHeartbeats 4000000 in
set_option maxRecDepth 100000 in
theorem m_image (l : Launch) (dC : Nat → ClassId) (dI : Nat → Nat → Nat) (cy : Nat → ClassId) (sz : Nat) (am : Nat → Nat) (mi : Nat → Nat → Int32) (ml : Nat → Nat → Int64) (n0 : Int32)  : Met l yX11_image (wl yX11_image cX11_image 3 (some .boolean)) ({ frames := 1, cells := 0, slots := 0, locals := 64 }) (Pw (dC, dI) vwCl cy [(am 0, .inr (12, [.int 0, .ref (am 1), .int 0, .int 0, .int 0, .int 0, .int 0, .int 0, .int 0, .int 0, .int 0, .int 0, .long 0, .int 0, .ref (am 2), .ref (am 3), .ref (am 4), .ref (am 5), .ref (am 6), .ref (am 7), .ref (am 8), .ref (am 9), .ref (am 10), .ref (am 11), .int 0, .int (-1), .ref (am 12), .ref (am 13), .ref (am 14), .int 0, .ref (am 15), .ref (am 16), .int 0, .int 0, .int 0, .ref (am 17), .int 0, .int 0, .ref (am 18), .ref (am 19), .int 0, .int 0, .ref (am 20), .int 0, .int 0, .int 0, .int 0])), (am 2, .inl (cy 0, 575, .inl (mi 2))), (am 4, .inl (cy 0, 1150, .inl (mi 4))), (am 7, .inl (cy 1, 17, .inr (.inl (ml 7)))), (am 9, .inl (cy 1, 34, .inr (.inl (ml 9)))), (am 10, .inl (cy 2, 2, .inl (mi 10)))] sz [.ref (am 0), .int n0] nE) (Qi (dC, dI) vwCl (fun (r : Int32) (u : Unit) => r = imF n0) (fun (u : Unit) => []) (va_A [(am 0, .inr (12, [.int 0, .ref (am 1), .int 0, .int 0, .int 0, .int 0, .int 0, .int 0, .int 0, .int 0, .int 0, .int 0, .long 0, .int 0, .ref (am 2), .ref (am 3), .ref (am 4), .ref (am 5), .ref (am 6), .ref (am 7), .ref (am 8), .ref (am 9), .ref (am 10), .ref (am 11), .int 0, .int (-1), .ref (am 12), .ref (am 13), .ref (am 14), .int 0, .ref (am 15), .ref (am 16), .int 0, .int 0, .int 0, .ref (am 17), .int 0, .int 0, .ref (am 18), .ref (am 19), .int 0, .int 0, .ref (am 20), .int 0, .int 0, .int 0, .int 0])), (am 2, .inl (cy 0, 575, .inl (mi 2))), (am 4, .inl (cy 0, 1150, .inl (mi 4))), (am 7, .inl (cy 1, 17, .inr (.inl (ml 7)))), (am 9, .inl (cy 1, 34, .inr (.inl (ml 9)))), (am 10, .inl (cy 2, 2, .inl (mi 10)))] sz)) 0 0 (va_A [(am 0, .inr (12, [.int 0, .ref (am 1), .int 0, .int 0, .int 0, .int 0, .int 0, .int 0, .int 0, .int 0, .int 0, .int 0, .long 0, .int 0, .ref (am 2), .ref (am 3), .ref (am 4), .ref (am 5), .ref (am 6), .ref (am 7), .ref (am 8), .ref (am 9), .ref (am 10), .ref (am 11), .int 0, .int (-1), .ref (am 12), .ref (am 13), .ref (am 14), .int 0, .ref (am 15), .ref (am 16), .int 0, .int 0, .int 0, .ref (am 17), .int 0, .int 0, .ref (am 18), .ref (am 19), .int 0, .int 0, .ref (am 20), .int 0, .int 0, .int 0, .int 0])), (am 2, .inl (cy 0, 575, .inl (mi 2))), (am 4, .inl (cy 0, 1150, .inl (mi 4))), (am 7, .inl (cy 1, 17, .inr (.inl (ml 7)))), (am 9, .inl (cy 1, 34, .inr (.inl (ml 9)))), (am 10, .inl (cy 2, 2, .inl (mi 10)))] sz) := by
  refine mw (Qc := Qi (dC, dI) vwCl (fun (r : Int32) (u : Unit) => r = imF n0) (fun (u : Unit) => [])) RX11 rfl (by decide +kernel) (Nat.le_of_ble_eq_true rfl) ?_
  intro p e s m below meth c A hx hb hr hlocks av9 hav hts hown hnm hml hK hP hD hA hS hE hAe Q9 hQ9 ls hl
  have hl : lv_has ls 3 [(0, .ref (am 0)), (1, .int n0)] := hl
  refine lv_aload_n hx hb dX11_image_0 rfl (lv_at hl 0 rfl) ?_
  refine lv_iconst (v := 0) hx hb dX11_image_1 (by decide) ?_
  refine pf_X11_1 hx hb hts hown hK hP hD hS 0 rfl rfl rfl (Nat.le_of_ble_eq_true rfl) dX11_image_2 (fun H locs hP hD hS => ?_)
  have hP : va_P (dC, dI) vwCl [(am 0, .inr (12, [.int 0, .ref (am 1), .int 0, .int 0, .int 0, .int 0, .int 0, .int 0, .int 0, .int 0, .int 0, .int 0, .long 0, .int 0, .ref (am 2), .ref (am 3), .ref (am 4), .ref (am 5), .ref (am 6), .ref (am 7), .ref (am 8), .ref (am 9), .ref (am 10), .ref (am 11), .int 0, .int (-1), .ref (am 12), .ref (am 13), .ref (am 14), .int 0, .ref (am 15), .ref (am 16), .int 0, .int 0, .int 0, .ref (am 17), .int 0, .int 0, .ref (am 18), .ref (am 19), .int 0, .int 0, .ref (am 20), .int 0, .int 0, .int 0, .int 0])), (am 2, .inl (cy 0, 575, .inl (mi 2))), (am 4, .inl (cy 0, 1150, .inl (mi 4))), (am 7, .inl (cy 1, 17, .inr (.inl (ml 7)))), (am 9, .inl (cy 1, 34, .inr (.inl (ml 9)))), (am 10, .inl (cy 2, 2, .inl (mi 10)))] H := hP
  have hD : va_D A [(am 0, .inr (12, [.int 0, .ref (am 1), .int 0, .int 0, .int 0, .int 0, .int 0, .int 0, .int 0, .int 0, .int 0, .int 0, .long 0, .int 0, .ref (am 2), .ref (am 3), .ref (am 4), .ref (am 5), .ref (am 6), .ref (am 7), .ref (am 8), .ref (am 9), .ref (am 10), .ref (am 11), .int 0, .int (-1), .ref (am 12), .ref (am 13), .ref (am 14), .int 0, .ref (am 15), .ref (am 16), .int 0, .int 0, .int 0, .ref (am 17), .int 0, .int 0, .ref (am 18), .ref (am 19), .int 0, .int 0, .ref (am 20), .int 0, .int 0, .int 0, .int 0])), (am 2, .inl (cy 0, 575, .inl (mi 2))), (am 4, .inl (cy 0, 1150, .inl (mi 4))), (am 7, .inl (cy 1, 17, .inr (.inl (ml 7)))), (am 9, .inl (cy 1, 34, .inr (.inl (ml 9)))), (am 10, .inl (cy 2, 2, .inl (mi 10)))] := hD
  refine lv_iload_n hx hb dX11_image_5 rfl (lv_at hl 1 rfl) ?_
  refine lv_iconst (v := 0) hx hb dX11_image_6 (by decide) ?_
  refine lv_iconst (v := 1) hx hb dX11_image_7 (by decide) ?_
  refine jr_i (rSr (As := [.int n0, .int 0, .int 1]) (rest := []) ⟨hx, hb, hml, hown, hts⟩ (m_isIn l dC dI cy n0 0 1 ) (cw_X11_75 hts rfl rfl ⟨Nat.le_of_ble_eq_true rfl, Nat.le_of_ble_eq_true rfl⟩) hP hK [] rfl rfl hl.1 rfl (Nat.le_of_ble_eq_true rfl) dX11_image_8 ⟨Nat.le_of_ble_eq_true rfl, Nat.le_of_ble_eq_true rfl⟩) hP hS (fun r_1 H locs hp_2 hP hS => ?_)
  refine as_i (inF n0 0 1) hp_2 ?_
  refine lv_if_ne (tgt := 16) hx hb dX11_image_11 (by decide) (fun c_3 => ?_) (fun c_3 => ?_)
  · skip
    have h9 : n0 = 0 ∨ n0 = 1 := inF_01 c_3
    rcases h9 with rfl | rfl
    · skip
      refine lv_iconst (v := 0) hx hb dX11_image_16 (by decide) ?_
      refine lv_istore_n (lv' := [(2, .int 0), (0, .ref (am 0)), (1, .int 0)]) hx hb dX11_image_17 rfl hl (by decide) rfl (fun ls hl => ?_)
      have loop4 : ∀ (n4_ i4 : Nat) (g_5 : Nat → Int32) , i4 + n4_ = 575 → ∀ (H : Heap) (locs : List Loc), va_P (dC, dI) vwCl [(am 0, .inr (12, [.int 0, .ref (am 1), .int 0, .int 0, .int 0, .int 0, .int 0, .int 0, .int 0, .int 0, .int 0, .int 0, .long 0, .int 0, .ref (am 2), .ref (am 3), .ref (am 4), .ref (am 5), .ref (am 6), .ref (am 7), .ref (am 8), .ref (am 9), .ref (am 10), .ref (am 11), .int 0, .int (-1), .ref (am 12), .ref (am 13), .ref (am 14), .int 0, .ref (am 15), .ref (am 16), .int 0, .int 0, .int 0, .ref (am 17), .int 0, .int 0, .ref (am 18), .ref (am 19), .int 0, .int 0, .ref (am 20), .int 0, .int 0, .int 0, .int 0])), (am 2, .inl (cy 0, 575, .inl (mi 2))), (am 4, .inl (cy 0, 1150, .inl g_5)), (am 7, .inl (cy 1, 17, .inr (.inl (ml 7)))), (am 9, .inl (cy 1, 34, .inr (.inl (ml 9)))), (am 10, .inl (cy 2, 2, .inl (mi 10)))] H → va_D A [(am 0, .inr (12, [.int 0, .ref (am 1), .int 0, .int 0, .int 0, .int 0, .int 0, .int 0, .int 0, .int 0, .int 0, .int 0, .long 0, .int 0, .ref (am 2), .ref (am 3), .ref (am 4), .ref (am 5), .ref (am 6), .ref (am 7), .ref (am 8), .ref (am 9), .ref (am 10), .ref (am 11), .int 0, .int (-1), .ref (am 12), .ref (am 13), .ref (am 14), .int 0, .ref (am 15), .ref (am 16), .int 0, .int 0, .int 0, .ref (am 17), .int 0, .int 0, .ref (am 18), .ref (am 19), .int 0, .int 0, .ref (am 20), .int 0, .int 0, .int 0, .int 0])), (am 2, .inl (cy 0, 575, .inl (mi 2))), (am 4, .inl (cy 0, 1150, .inl g_5)), (am 7, .inl (cy 1, 17, .inr (.inl (ml 7)))), (am 9, .inl (cy 1, 34, .inr (.inl (ml 9)))), (am 10, .inl (cy 2, 2, .inl (mi 10)))] → va_S A s.heap H locs → ∀ ls : Array Slot, lv_has ls 3 [(0, .ref (am 0)), (1, .int 0), (2, .int (nI i4))] → W p l e ({ frames := 1, cells := 0, slots := 0, locals := 64 }) s m av9 below meth c H locs 0 0 Q9 (F0 m 18 ls []) := by
        intro n4_
        induction n4_ with
        | zero =>
          intro i4 g_5  hn4 H locs hP hD hS ls hl
          obtain rfl : i4 = 575 := by omega
          have hl : lv_has ls 3 [(0, .ref (am 0)), (1, .int 0), (2, .int 575)] := hl
          have hP : va_P (dC, dI) vwCl [(am 0, .inr (12, [.int 0, .ref (am 1), .int 0, .int 0, .int 0, .int 0, .int 0, .int 0, .int 0, .int 0, .int 0, .int 0, .long 0, .int 0, .ref (am 2), .ref (am 3), .ref (am 4), .ref (am 5), .ref (am 6), .ref (am 7), .ref (am 8), .ref (am 9), .ref (am 10), .ref (am 11), .int 0, .int (-1), .ref (am 12), .ref (am 13), .ref (am 14), .int 0, .ref (am 15), .ref (am 16), .int 0, .int 0, .int 0, .ref (am 17), .int 0, .int 0, .ref (am 18), .ref (am 19), .int 0, .int 0, .ref (am 20), .int 0, .int 0, .int 0, .int 0])), (am 2, .inl (cy 0, 575, .inl (mi 2))), (am 4, .inl (cy 0, 1150, .inl g_5)), (am 7, .inl (cy 1, 17, .inr (.inl (ml 7)))), (am 9, .inl (cy 1, 34, .inr (.inl (ml 9)))), (am 10, .inl (cy 2, 2, .inl (mi 10)))] H := hP
          have hD : va_D A [(am 0, .inr (12, [.int 0, .ref (am 1), .int 0, .int 0, .int 0, .int 0, .int 0, .int 0, .int 0, .int 0, .int 0, .int 0, .long 0, .int 0, .ref (am 2), .ref (am 3), .ref (am 4), .ref (am 5), .ref (am 6), .ref (am 7), .ref (am 8), .ref (am 9), .ref (am 10), .ref (am 11), .int 0, .int (-1), .ref (am 12), .ref (am 13), .ref (am 14), .int 0, .ref (am 15), .ref (am 16), .int 0, .int 0, .int 0, .ref (am 17), .int 0, .int 0, .ref (am 18), .ref (am 19), .int 0, .int 0, .ref (am 20), .int 0, .int 0, .int 0, .int 0])), (am 2, .inl (cy 0, 575, .inl (mi 2))), (am 4, .inl (cy 0, 1150, .inl g_5)), (am 7, .inl (cy 1, 17, .inr (.inl (ml 7)))), (am 9, .inl (cy 1, 34, .inr (.inl (ml 9)))), (am 10, .inl (cy 2, 2, .inl (mi 10)))] := hD
          refine lv_iload_n hx hb dX11_image_18 rfl (lv_at hl 2 rfl) ?_
          refine lv_sipush (v := 575) hx hb dX11_image_19 (by decide) ?_
          refine lv_icmp_ge (tgt := 49) hx hb dX11_image_22 (by decide) (fun _ => ?_) (fun c9 => absurd (by decide) c9)
          refine lv_iconst (v := 0) hx hb dX11_image_49 (by decide) ?_
          refine lv_istore_n (lv' := [(2, .int 0), (0, .ref (am 0)), (1, .int 0)]) hx hb dX11_image_50 rfl hl (by decide) rfl (fun ls hl => ?_)
          have loop6 : ∀ (n6_ i6 : Nat) (g_7 : Nat → Int64) , i6 + n6_ = 17 → ∀ (H : Heap) (locs : List Loc), va_P (dC, dI) vwCl [(am 0, .inr (12, [.int 0, .ref (am 1), .int 0, .int 0, .int 0, .int 0, .int 0, .int 0, .int 0, .int 0, .int 0, .int 0, .long 0, .int 0, .ref (am 2), .ref (am 3), .ref (am 4), .ref (am 5), .ref (am 6), .ref (am 7), .ref (am 8), .ref (am 9), .ref (am 10), .ref (am 11), .int 0, .int (-1), .ref (am 12), .ref (am 13), .ref (am 14), .int 0, .ref (am 15), .ref (am 16), .int 0, .int 0, .int 0, .ref (am 17), .int 0, .int 0, .ref (am 18), .ref (am 19), .int 0, .int 0, .ref (am 20), .int 0, .int 0, .int 0, .int 0])), (am 2, .inl (cy 0, 575, .inl (mi 2))), (am 4, .inl (cy 0, 1150, .inl g_5)), (am 7, .inl (cy 1, 17, .inr (.inl (ml 7)))), (am 9, .inl (cy 1, 34, .inr (.inl g_7))), (am 10, .inl (cy 2, 2, .inl (mi 10)))] H → va_D A [(am 0, .inr (12, [.int 0, .ref (am 1), .int 0, .int 0, .int 0, .int 0, .int 0, .int 0, .int 0, .int 0, .int 0, .int 0, .long 0, .int 0, .ref (am 2), .ref (am 3), .ref (am 4), .ref (am 5), .ref (am 6), .ref (am 7), .ref (am 8), .ref (am 9), .ref (am 10), .ref (am 11), .int 0, .int (-1), .ref (am 12), .ref (am 13), .ref (am 14), .int 0, .ref (am 15), .ref (am 16), .int 0, .int 0, .int 0, .ref (am 17), .int 0, .int 0, .ref (am 18), .ref (am 19), .int 0, .int 0, .ref (am 20), .int 0, .int 0, .int 0, .int 0])), (am 2, .inl (cy 0, 575, .inl (mi 2))), (am 4, .inl (cy 0, 1150, .inl g_5)), (am 7, .inl (cy 1, 17, .inr (.inl (ml 7)))), (am 9, .inl (cy 1, 34, .inr (.inl g_7))), (am 10, .inl (cy 2, 2, .inl (mi 10)))] → va_S A s.heap H locs → ∀ ls : Array Slot, lv_has ls 3 [(0, .ref (am 0)), (1, .int 0), (2, .int (nI i6))] → W p l e ({ frames := 1, cells := 0, slots := 0, locals := 64 }) s m av9 below meth c H locs 0 0 Q9 (F0 m 51 ls []) := by
            intro n6_
            induction n6_ with
            | zero =>
              intro i6 g_7  hn6 H locs hP hD hS ls hl
              obtain rfl : i6 = 17 := by omega
              have hl : lv_has ls 3 [(0, .ref (am 0)), (1, .int 0), (2, .int 17)] := hl
              have hP : va_P (dC, dI) vwCl [(am 0, .inr (12, [.int 0, .ref (am 1), .int 0, .int 0, .int 0, .int 0, .int 0, .int 0, .int 0, .int 0, .int 0, .int 0, .long 0, .int 0, .ref (am 2), .ref (am 3), .ref (am 4), .ref (am 5), .ref (am 6), .ref (am 7), .ref (am 8), .ref (am 9), .ref (am 10), .ref (am 11), .int 0, .int (-1), .ref (am 12), .ref (am 13), .ref (am 14), .int 0, .ref (am 15), .ref (am 16), .int 0, .int 0, .int 0, .ref (am 17), .int 0, .int 0, .ref (am 18), .ref (am 19), .int 0, .int 0, .ref (am 20), .int 0, .int 0, .int 0, .int 0])), (am 2, .inl (cy 0, 575, .inl (mi 2))), (am 4, .inl (cy 0, 1150, .inl g_5)), (am 7, .inl (cy 1, 17, .inr (.inl (ml 7)))), (am 9, .inl (cy 1, 34, .inr (.inl g_7))), (am 10, .inl (cy 2, 2, .inl (mi 10)))] H := hP
              have hD : va_D A [(am 0, .inr (12, [.int 0, .ref (am 1), .int 0, .int 0, .int 0, .int 0, .int 0, .int 0, .int 0, .int 0, .int 0, .int 0, .long 0, .int 0, .ref (am 2), .ref (am 3), .ref (am 4), .ref (am 5), .ref (am 6), .ref (am 7), .ref (am 8), .ref (am 9), .ref (am 10), .ref (am 11), .int 0, .int (-1), .ref (am 12), .ref (am 13), .ref (am 14), .int 0, .ref (am 15), .ref (am 16), .int 0, .int 0, .int 0, .ref (am 17), .int 0, .int 0, .ref (am 18), .ref (am 19), .int 0, .int 0, .ref (am 20), .int 0, .int 0, .int 0, .int 0])), (am 2, .inl (cy 0, 575, .inl (mi 2))), (am 4, .inl (cy 0, 1150, .inl g_5)), (am 7, .inl (cy 1, 17, .inr (.inl (ml 7)))), (am 9, .inl (cy 1, 34, .inr (.inl g_7))), (am 10, .inl (cy 2, 2, .inl (mi 10)))] := hD
              refine lv_iload_n hx hb dX11_image_51 rfl (lv_at hl 2 rfl) ?_
              refine lv_bipush (v := 17) hx hb dX11_image_52 (by decide) ?_
              refine lv_icmp_ge (tgt := 80) hx hb dX11_image_54 (by decide) (fun _ => ?_) (fun c9 => absurd (by decide) c9)
              refine lv_aload_n hx hb dX11_image_80 rfl (lv_at hl 0 rfl) ?_
              refine gf_X11_123 hx hb hts hown hK hP 0 rfl rfl dX11_image_81 ?_
              refine lv_iload_n hx hb dX11_image_84 rfl (lv_at hl 1 rfl) ?_
              refine lv_iconst (v := 1) hx hb dX11_image_85 (by decide) ?_
              refine va_zast hx hb hK hP hD hS 5 2 rfl rfl (vp_in_nI (n := 0) (N := 2) (by decide) (by decide)) dX11_image_86 (fun H locs hP hD hS => ?_)
              obtain ⟨f_8, ef_8⟩ : ∃ z : Nat → Int32, z = upd (mi 10) (Int32.toNatClampNeg 0) (vp_nar .boolean 1) := ⟨_, rfl⟩
              have hP : va_P (dC, dI) vwCl [(am 0, .inr (12, [.int 0, .ref (am 1), .int 0, .int 0, .int 0, .int 0, .int 0, .int 0, .int 0, .int 0, .int 0, .int 0, .long 0, .int 0, .ref (am 2), .ref (am 3), .ref (am 4), .ref (am 5), .ref (am 6), .ref (am 7), .ref (am 8), .ref (am 9), .ref (am 10), .ref (am 11), .int 0, .int (-1), .ref (am 12), .ref (am 13), .ref (am 14), .int 0, .ref (am 15), .ref (am 16), .int 0, .int 0, .int 0, .ref (am 17), .int 0, .int 0, .ref (am 18), .ref (am 19), .int 0, .int 0, .ref (am 20), .int 0, .int 0, .int 0, .int 0])), (am 2, .inl (cy 0, 575, .inl (mi 2))), (am 4, .inl (cy 0, 1150, .inl g_5)), (am 7, .inl (cy 1, 17, .inr (.inl (ml 7)))), (am 9, .inl (cy 1, 34, .inr (.inl g_7))), (am 10, .inl (cy 2, 2, .inl f_8))] H := by rw [ef_8]; exact hP
              have hD : va_D A [(am 0, .inr (12, [.int 0, .ref (am 1), .int 0, .int 0, .int 0, .int 0, .int 0, .int 0, .int 0, .int 0, .int 0, .int 0, .long 0, .int 0, .ref (am 2), .ref (am 3), .ref (am 4), .ref (am 5), .ref (am 6), .ref (am 7), .ref (am 8), .ref (am 9), .ref (am 10), .ref (am 11), .int 0, .int (-1), .ref (am 12), .ref (am 13), .ref (am 14), .int 0, .ref (am 15), .ref (am 16), .int 0, .int 0, .int 0, .ref (am 17), .int 0, .int 0, .ref (am 18), .ref (am 19), .int 0, .int 0, .ref (am 20), .int 0, .int 0, .int 0, .int 0])), (am 2, .inl (cy 0, 575, .inl (mi 2))), (am 4, .inl (cy 0, 1150, .inl g_5)), (am 7, .inl (cy 1, 17, .inr (.inl (ml 7)))), (am 9, .inl (cy 1, 34, .inr (.inl g_7))), (am 10, .inl (cy 2, 2, .inl f_8))] := by rw [ef_8]; exact hD
              rw [show (0 : Int32).toNatClampNeg = 0 from rfl] at ef_8
              refine lv_iconst (v := 1) hx hb dX11_image_87 (by decide) ?_
              rw [hQ9]
              exact re_z () hx hb hr hlocks (Or.inr rfl) (show _ = imF _ by decide) (hP.sub [] rfl) (hD.sub [] rfl rfl) hS dX11_image_88
            | succ n6_ ih6 =>
              intro i6 g_7  hn6 H locs hP hD hS ls hl
              refine lv_iload_n hx hb dX11_image_51 rfl (lv_at hl 2 rfl) ?_
              refine lv_bipush (v := 17) hx hb dX11_image_52 (by decide) ?_
              refine lv_icmp_ge (tgt := 80) hx hb dX11_image_54 (by decide) (fun c9 => absurd c9 (nI_ge (a := i6) (b := 17) (by omega) (by omega))) (fun _ => ?_)
              refine lv_aload_n hx hb dX11_image_57 rfl (lv_at hl 0 rfl) ?_
              refine gf_X11_120 hx hb hts hown hK hP 0 rfl rfl dX11_image_58 ?_
              refine lv_bipush (v := 17) hx hb dX11_image_61 (by decide) ?_
              refine lv_iload_n hx hb dX11_image_63 rfl (lv_at hl 1 rfl) ?_
              refine lv_imul hx hb dX11_image_64 ?_
              refine as_i 0 (by decide) ?_
              refine lv_iload_n hx hb dX11_image_65 rfl (lv_at hl 2 rfl) ?_
              refine lv_iadd hx hb dX11_image_66 ?_
              refine as_i (nI (0 + i6)) (nI_add 0 i6) ?_
              refine lv_aload_n hx hb dX11_image_67 rfl (lv_at hl 0 rfl) ?_
              refine gf_X11_113 hx hb hts hown hK hP 0 rfl rfl dX11_image_68 ?_
              refine lv_iload_n hx hb dX11_image_71 rfl (lv_at hl 2 rfl) ?_
              refine va_lald hx hb hK hP 3 1 rfl rfl (vp_in_nI (n := i6) (N := 17) (by omega) (by omega)) dX11_image_72 ?_
              refine as_l ((ml 7) i6) (congrArg (ml 7) (nI_clamp (n := i6) (by omega))) ?_
              refine va_last hx hb hK hP hD hS 4 1 rfl rfl (vp_in_nI (n := (0 + i6)) (N := 34) (by omega) (by omega)) dX11_image_73 (fun H locs hP hD hS => ?_)
              obtain ⟨f_9, ef_9⟩ : ∃ z : Nat → Int64, z = vp_updL g_7 (Int32.toNatClampNeg (nI (0 + i6))) ((ml 7) i6) := ⟨_, rfl⟩
              have hP : va_P (dC, dI) vwCl [(am 0, .inr (12, [.int 0, .ref (am 1), .int 0, .int 0, .int 0, .int 0, .int 0, .int 0, .int 0, .int 0, .int 0, .int 0, .long 0, .int 0, .ref (am 2), .ref (am 3), .ref (am 4), .ref (am 5), .ref (am 6), .ref (am 7), .ref (am 8), .ref (am 9), .ref (am 10), .ref (am 11), .int 0, .int (-1), .ref (am 12), .ref (am 13), .ref (am 14), .int 0, .ref (am 15), .ref (am 16), .int 0, .int 0, .int 0, .ref (am 17), .int 0, .int 0, .ref (am 18), .ref (am 19), .int 0, .int 0, .ref (am 20), .int 0, .int 0, .int 0, .int 0])), (am 2, .inl (cy 0, 575, .inl (mi 2))), (am 4, .inl (cy 0, 1150, .inl g_5)), (am 7, .inl (cy 1, 17, .inr (.inl (ml 7)))), (am 9, .inl (cy 1, 34, .inr (.inl f_9))), (am 10, .inl (cy 2, 2, .inl (mi 10)))] H := by rw [ef_9]; exact hP
              have hD : va_D A [(am 0, .inr (12, [.int 0, .ref (am 1), .int 0, .int 0, .int 0, .int 0, .int 0, .int 0, .int 0, .int 0, .int 0, .int 0, .long 0, .int 0, .ref (am 2), .ref (am 3), .ref (am 4), .ref (am 5), .ref (am 6), .ref (am 7), .ref (am 8), .ref (am 9), .ref (am 10), .ref (am 11), .int 0, .int (-1), .ref (am 12), .ref (am 13), .ref (am 14), .int 0, .ref (am 15), .ref (am 16), .int 0, .int 0, .int 0, .ref (am 17), .int 0, .int 0, .ref (am 18), .ref (am 19), .int 0, .int 0, .ref (am 20), .int 0, .int 0, .int 0, .int 0])), (am 2, .inl (cy 0, 575, .inl (mi 2))), (am 4, .inl (cy 0, 1150, .inl g_5)), (am 7, .inl (cy 1, 17, .inr (.inl (ml 7)))), (am 9, .inl (cy 1, 34, .inr (.inl f_9))), (am 10, .inl (cy 2, 2, .inl (mi 10)))] := by rw [ef_9]; exact hD
              rw [(nI_clamp (n := (0 + i6)) (by omega))] at ef_9
              refine lv_iinc (v := nI (i6 + 1)) (lv' := [(2, .int (nI (i6 + 1))), (0, .ref (am 0)), (1, .int 0)]) hx hb dX11_image_74 hl (k := 2) rfl (nI_add i6 1) (by decide) rfl (fun ls hl => ?_)
              refine lv_goto (tgt := 51) hx hb dX11_image_77 (by decide) ?_
              exact ih6 (i6 + 1) f_9  (by omega) _ _ (hP.sub [0, 1, 2, 3, 4, 5] rfl) (hD.sub [0, 1, 2, 3, 4, 5] rfl rfl) hS ls (lv_sub hl [1, 2, 0] rfl)
          exact loop6 17 0 (ml 9)  (by omega) _ _ hP hD hS ls (lv_sub hl [1, 2, 0] rfl)
        | succ n4_ ih4 =>
          intro i4 g_5  hn4 H locs hP hD hS ls hl
          refine lv_iload_n hx hb dX11_image_18 rfl (lv_at hl 2 rfl) ?_
          refine lv_sipush (v := 575) hx hb dX11_image_19 (by decide) ?_
          refine lv_icmp_ge (tgt := 49) hx hb dX11_image_22 (by decide) (fun c9 => absurd c9 (nI_ge (a := i4) (b := 575) (by omega) (by omega))) (fun _ => ?_)
          refine lv_aload_n hx hb dX11_image_25 rfl (lv_at hl 0 rfl) ?_
          refine gf_X11_104 hx hb hts hown hK hP 0 rfl rfl dX11_image_26 ?_
          refine lv_sipush (v := 575) hx hb dX11_image_29 (by decide) ?_
          refine lv_iload_n hx hb dX11_image_32 rfl (lv_at hl 1 rfl) ?_
          refine lv_imul hx hb dX11_image_33 ?_
          refine as_i 0 (by decide) ?_
          refine lv_iload_n hx hb dX11_image_34 rfl (lv_at hl 2 rfl) ?_
          refine lv_iadd hx hb dX11_image_35 ?_
          refine as_i (nI (0 + i4)) (nI_add 0 i4) ?_
          refine lv_aload_n hx hb dX11_image_36 rfl (lv_at hl 0 rfl) ?_
          refine gf_X11_98 hx hb hts hown hK hP 0 rfl rfl dX11_image_37 ?_
          refine lv_iload_n hx hb dX11_image_40 rfl (lv_at hl 2 rfl) ?_
          refine va_iald hx hb hK hP 1 0 rfl rfl (vp_in_nI (n := i4) (N := 575) (by omega) (by omega)) dX11_image_41 ?_
          refine as_i ((mi 2) i4) (congrArg (mi 2) (nI_clamp (n := i4) (by omega))) ?_
          refine va_iast hx hb hK hP hD hS 2 0 rfl rfl (vp_in_nI (n := (0 + i4)) (N := 1150) (by omega) (by omega)) dX11_image_42 (fun H locs hP hD hS => ?_)
          obtain ⟨f_10, ef_10⟩ : ∃ z : Nat → Int32, z = upd g_5 (Int32.toNatClampNeg (nI (0 + i4))) ((mi 2) i4) := ⟨_, rfl⟩
          have hP : va_P (dC, dI) vwCl [(am 0, .inr (12, [.int 0, .ref (am 1), .int 0, .int 0, .int 0, .int 0, .int 0, .int 0, .int 0, .int 0, .int 0, .int 0, .long 0, .int 0, .ref (am 2), .ref (am 3), .ref (am 4), .ref (am 5), .ref (am 6), .ref (am 7), .ref (am 8), .ref (am 9), .ref (am 10), .ref (am 11), .int 0, .int (-1), .ref (am 12), .ref (am 13), .ref (am 14), .int 0, .ref (am 15), .ref (am 16), .int 0, .int 0, .int 0, .ref (am 17), .int 0, .int 0, .ref (am 18), .ref (am 19), .int 0, .int 0, .ref (am 20), .int 0, .int 0, .int 0, .int 0])), (am 2, .inl (cy 0, 575, .inl (mi 2))), (am 4, .inl (cy 0, 1150, .inl f_10)), (am 7, .inl (cy 1, 17, .inr (.inl (ml 7)))), (am 9, .inl (cy 1, 34, .inr (.inl (ml 9)))), (am 10, .inl (cy 2, 2, .inl (mi 10)))] H := by rw [ef_10]; exact hP
          have hD : va_D A [(am 0, .inr (12, [.int 0, .ref (am 1), .int 0, .int 0, .int 0, .int 0, .int 0, .int 0, .int 0, .int 0, .int 0, .int 0, .long 0, .int 0, .ref (am 2), .ref (am 3), .ref (am 4), .ref (am 5), .ref (am 6), .ref (am 7), .ref (am 8), .ref (am 9), .ref (am 10), .ref (am 11), .int 0, .int (-1), .ref (am 12), .ref (am 13), .ref (am 14), .int 0, .ref (am 15), .ref (am 16), .int 0, .int 0, .int 0, .ref (am 17), .int 0, .int 0, .ref (am 18), .ref (am 19), .int 0, .int 0, .ref (am 20), .int 0, .int 0, .int 0, .int 0])), (am 2, .inl (cy 0, 575, .inl (mi 2))), (am 4, .inl (cy 0, 1150, .inl f_10)), (am 7, .inl (cy 1, 17, .inr (.inl (ml 7)))), (am 9, .inl (cy 1, 34, .inr (.inl (ml 9)))), (am 10, .inl (cy 2, 2, .inl (mi 10)))] := by rw [ef_10]; exact hD
          rw [(nI_clamp (n := (0 + i4)) (by omega))] at ef_10
          refine lv_iinc (v := nI (i4 + 1)) (lv' := [(2, .int (nI (i4 + 1))), (0, .ref (am 0)), (1, .int 0)]) hx hb dX11_image_43 hl (k := 2) rfl (nI_add i4 1) (by decide) rfl (fun ls hl => ?_)
          refine lv_goto (tgt := 18) hx hb dX11_image_46 (by decide) ?_
          exact ih4 (i4 + 1) f_10  (by omega) _ _ (hP.sub [0, 1, 2, 3, 4, 5] rfl) (hD.sub [0, 1, 2, 3, 4, 5] rfl rfl) hS ls (lv_sub hl [1, 2, 0] rfl)
      exact loop4 575 0 (mi 4)  (by omega) _ _ hP hD hS ls (lv_sub hl [1, 2, 0] rfl)
    · skip
      refine lv_iconst (v := 0) hx hb dX11_image_16 (by decide) ?_
      refine lv_istore_n (lv' := [(2, .int 0), (0, .ref (am 0)), (1, .int 1)]) hx hb dX11_image_17 rfl hl (by decide) rfl (fun ls hl => ?_)
      have loop11 : ∀ (n11_ i11 : Nat) (g_12 : Nat → Int32) , i11 + n11_ = 575 → ∀ (H : Heap) (locs : List Loc), va_P (dC, dI) vwCl [(am 0, .inr (12, [.int 0, .ref (am 1), .int 0, .int 0, .int 0, .int 0, .int 0, .int 0, .int 0, .int 0, .int 0, .int 0, .long 0, .int 0, .ref (am 2), .ref (am 3), .ref (am 4), .ref (am 5), .ref (am 6), .ref (am 7), .ref (am 8), .ref (am 9), .ref (am 10), .ref (am 11), .int 0, .int (-1), .ref (am 12), .ref (am 13), .ref (am 14), .int 0, .ref (am 15), .ref (am 16), .int 0, .int 0, .int 0, .ref (am 17), .int 0, .int 0, .ref (am 18), .ref (am 19), .int 0, .int 0, .ref (am 20), .int 0, .int 0, .int 0, .int 0])), (am 2, .inl (cy 0, 575, .inl (mi 2))), (am 4, .inl (cy 0, 1150, .inl g_12)), (am 7, .inl (cy 1, 17, .inr (.inl (ml 7)))), (am 9, .inl (cy 1, 34, .inr (.inl (ml 9)))), (am 10, .inl (cy 2, 2, .inl (mi 10)))] H → va_D A [(am 0, .inr (12, [.int 0, .ref (am 1), .int 0, .int 0, .int 0, .int 0, .int 0, .int 0, .int 0, .int 0, .int 0, .int 0, .long 0, .int 0, .ref (am 2), .ref (am 3), .ref (am 4), .ref (am 5), .ref (am 6), .ref (am 7), .ref (am 8), .ref (am 9), .ref (am 10), .ref (am 11), .int 0, .int (-1), .ref (am 12), .ref (am 13), .ref (am 14), .int 0, .ref (am 15), .ref (am 16), .int 0, .int 0, .int 0, .ref (am 17), .int 0, .int 0, .ref (am 18), .ref (am 19), .int 0, .int 0, .ref (am 20), .int 0, .int 0, .int 0, .int 0])), (am 2, .inl (cy 0, 575, .inl (mi 2))), (am 4, .inl (cy 0, 1150, .inl g_12)), (am 7, .inl (cy 1, 17, .inr (.inl (ml 7)))), (am 9, .inl (cy 1, 34, .inr (.inl (ml 9)))), (am 10, .inl (cy 2, 2, .inl (mi 10)))] → va_S A s.heap H locs → ∀ ls : Array Slot, lv_has ls 3 [(0, .ref (am 0)), (1, .int 1), (2, .int (nI i11))] → W p l e ({ frames := 1, cells := 0, slots := 0, locals := 64 }) s m av9 below meth c H locs 0 0 Q9 (F0 m 18 ls []) := by
        intro n11_
        induction n11_ with
        | zero =>
          intro i11 g_12  hn11 H locs hP hD hS ls hl
          obtain rfl : i11 = 575 := by omega
          have hl : lv_has ls 3 [(0, .ref (am 0)), (1, .int 1), (2, .int 575)] := hl
          have hP : va_P (dC, dI) vwCl [(am 0, .inr (12, [.int 0, .ref (am 1), .int 0, .int 0, .int 0, .int 0, .int 0, .int 0, .int 0, .int 0, .int 0, .int 0, .long 0, .int 0, .ref (am 2), .ref (am 3), .ref (am 4), .ref (am 5), .ref (am 6), .ref (am 7), .ref (am 8), .ref (am 9), .ref (am 10), .ref (am 11), .int 0, .int (-1), .ref (am 12), .ref (am 13), .ref (am 14), .int 0, .ref (am 15), .ref (am 16), .int 0, .int 0, .int 0, .ref (am 17), .int 0, .int 0, .ref (am 18), .ref (am 19), .int 0, .int 0, .ref (am 20), .int 0, .int 0, .int 0, .int 0])), (am 2, .inl (cy 0, 575, .inl (mi 2))), (am 4, .inl (cy 0, 1150, .inl g_12)), (am 7, .inl (cy 1, 17, .inr (.inl (ml 7)))), (am 9, .inl (cy 1, 34, .inr (.inl (ml 9)))), (am 10, .inl (cy 2, 2, .inl (mi 10)))] H := hP
          have hD : va_D A [(am 0, .inr (12, [.int 0, .ref (am 1), .int 0, .int 0, .int 0, .int 0, .int 0, .int 0, .int 0, .int 0, .int 0, .int 0, .long 0, .int 0, .ref (am 2), .ref (am 3), .ref (am 4), .ref (am 5), .ref (am 6), .ref (am 7), .ref (am 8), .ref (am 9), .ref (am 10), .ref (am 11), .int 0, .int (-1), .ref (am 12), .ref (am 13), .ref (am 14), .int 0, .ref (am 15), .ref (am 16), .int 0, .int 0, .int 0, .ref (am 17), .int 0, .int 0, .ref (am 18), .ref (am 19), .int 0, .int 0, .ref (am 20), .int 0, .int 0, .int 0, .int 0])), (am 2, .inl (cy 0, 575, .inl (mi 2))), (am 4, .inl (cy 0, 1150, .inl g_12)), (am 7, .inl (cy 1, 17, .inr (.inl (ml 7)))), (am 9, .inl (cy 1, 34, .inr (.inl (ml 9)))), (am 10, .inl (cy 2, 2, .inl (mi 10)))] := hD
          refine lv_iload_n hx hb dX11_image_18 rfl (lv_at hl 2 rfl) ?_
          refine lv_sipush (v := 575) hx hb dX11_image_19 (by decide) ?_
          refine lv_icmp_ge (tgt := 49) hx hb dX11_image_22 (by decide) (fun _ => ?_) (fun c9 => absurd (by decide) c9)
          refine lv_iconst (v := 0) hx hb dX11_image_49 (by decide) ?_
          refine lv_istore_n (lv' := [(2, .int 0), (0, .ref (am 0)), (1, .int 1)]) hx hb dX11_image_50 rfl hl (by decide) rfl (fun ls hl => ?_)
          have loop13 : ∀ (n13_ i13 : Nat) (g_14 : Nat → Int64) , i13 + n13_ = 17 → ∀ (H : Heap) (locs : List Loc), va_P (dC, dI) vwCl [(am 0, .inr (12, [.int 0, .ref (am 1), .int 0, .int 0, .int 0, .int 0, .int 0, .int 0, .int 0, .int 0, .int 0, .int 0, .long 0, .int 0, .ref (am 2), .ref (am 3), .ref (am 4), .ref (am 5), .ref (am 6), .ref (am 7), .ref (am 8), .ref (am 9), .ref (am 10), .ref (am 11), .int 0, .int (-1), .ref (am 12), .ref (am 13), .ref (am 14), .int 0, .ref (am 15), .ref (am 16), .int 0, .int 0, .int 0, .ref (am 17), .int 0, .int 0, .ref (am 18), .ref (am 19), .int 0, .int 0, .ref (am 20), .int 0, .int 0, .int 0, .int 0])), (am 2, .inl (cy 0, 575, .inl (mi 2))), (am 4, .inl (cy 0, 1150, .inl g_12)), (am 7, .inl (cy 1, 17, .inr (.inl (ml 7)))), (am 9, .inl (cy 1, 34, .inr (.inl g_14))), (am 10, .inl (cy 2, 2, .inl (mi 10)))] H → va_D A [(am 0, .inr (12, [.int 0, .ref (am 1), .int 0, .int 0, .int 0, .int 0, .int 0, .int 0, .int 0, .int 0, .int 0, .int 0, .long 0, .int 0, .ref (am 2), .ref (am 3), .ref (am 4), .ref (am 5), .ref (am 6), .ref (am 7), .ref (am 8), .ref (am 9), .ref (am 10), .ref (am 11), .int 0, .int (-1), .ref (am 12), .ref (am 13), .ref (am 14), .int 0, .ref (am 15), .ref (am 16), .int 0, .int 0, .int 0, .ref (am 17), .int 0, .int 0, .ref (am 18), .ref (am 19), .int 0, .int 0, .ref (am 20), .int 0, .int 0, .int 0, .int 0])), (am 2, .inl (cy 0, 575, .inl (mi 2))), (am 4, .inl (cy 0, 1150, .inl g_12)), (am 7, .inl (cy 1, 17, .inr (.inl (ml 7)))), (am 9, .inl (cy 1, 34, .inr (.inl g_14))), (am 10, .inl (cy 2, 2, .inl (mi 10)))] → va_S A s.heap H locs → ∀ ls : Array Slot, lv_has ls 3 [(0, .ref (am 0)), (1, .int 1), (2, .int (nI i13))] → W p l e ({ frames := 1, cells := 0, slots := 0, locals := 64 }) s m av9 below meth c H locs 0 0 Q9 (F0 m 51 ls []) := by
            intro n13_
            induction n13_ with
            | zero =>
              intro i13 g_14  hn13 H locs hP hD hS ls hl
              obtain rfl : i13 = 17 := by omega
              have hl : lv_has ls 3 [(0, .ref (am 0)), (1, .int 1), (2, .int 17)] := hl
              have hP : va_P (dC, dI) vwCl [(am 0, .inr (12, [.int 0, .ref (am 1), .int 0, .int 0, .int 0, .int 0, .int 0, .int 0, .int 0, .int 0, .int 0, .int 0, .long 0, .int 0, .ref (am 2), .ref (am 3), .ref (am 4), .ref (am 5), .ref (am 6), .ref (am 7), .ref (am 8), .ref (am 9), .ref (am 10), .ref (am 11), .int 0, .int (-1), .ref (am 12), .ref (am 13), .ref (am 14), .int 0, .ref (am 15), .ref (am 16), .int 0, .int 0, .int 0, .ref (am 17), .int 0, .int 0, .ref (am 18), .ref (am 19), .int 0, .int 0, .ref (am 20), .int 0, .int 0, .int 0, .int 0])), (am 2, .inl (cy 0, 575, .inl (mi 2))), (am 4, .inl (cy 0, 1150, .inl g_12)), (am 7, .inl (cy 1, 17, .inr (.inl (ml 7)))), (am 9, .inl (cy 1, 34, .inr (.inl g_14))), (am 10, .inl (cy 2, 2, .inl (mi 10)))] H := hP
              have hD : va_D A [(am 0, .inr (12, [.int 0, .ref (am 1), .int 0, .int 0, .int 0, .int 0, .int 0, .int 0, .int 0, .int 0, .int 0, .int 0, .long 0, .int 0, .ref (am 2), .ref (am 3), .ref (am 4), .ref (am 5), .ref (am 6), .ref (am 7), .ref (am 8), .ref (am 9), .ref (am 10), .ref (am 11), .int 0, .int (-1), .ref (am 12), .ref (am 13), .ref (am 14), .int 0, .ref (am 15), .ref (am 16), .int 0, .int 0, .int 0, .ref (am 17), .int 0, .int 0, .ref (am 18), .ref (am 19), .int 0, .int 0, .ref (am 20), .int 0, .int 0, .int 0, .int 0])), (am 2, .inl (cy 0, 575, .inl (mi 2))), (am 4, .inl (cy 0, 1150, .inl g_12)), (am 7, .inl (cy 1, 17, .inr (.inl (ml 7)))), (am 9, .inl (cy 1, 34, .inr (.inl g_14))), (am 10, .inl (cy 2, 2, .inl (mi 10)))] := hD
              refine lv_iload_n hx hb dX11_image_51 rfl (lv_at hl 2 rfl) ?_
              refine lv_bipush (v := 17) hx hb dX11_image_52 (by decide) ?_
              refine lv_icmp_ge (tgt := 80) hx hb dX11_image_54 (by decide) (fun _ => ?_) (fun c9 => absurd (by decide) c9)
              refine lv_aload_n hx hb dX11_image_80 rfl (lv_at hl 0 rfl) ?_
              refine gf_X11_123 hx hb hts hown hK hP 0 rfl rfl dX11_image_81 ?_
              refine lv_iload_n hx hb dX11_image_84 rfl (lv_at hl 1 rfl) ?_
              refine lv_iconst (v := 1) hx hb dX11_image_85 (by decide) ?_
              refine va_zast hx hb hK hP hD hS 5 2 rfl rfl (vp_in_nI (n := 1) (N := 2) (by decide) (by decide)) dX11_image_86 (fun H locs hP hD hS => ?_)
              obtain ⟨f_15, ef_15⟩ : ∃ z : Nat → Int32, z = upd (mi 10) (Int32.toNatClampNeg 1) (vp_nar .boolean 1) := ⟨_, rfl⟩
              have hP : va_P (dC, dI) vwCl [(am 0, .inr (12, [.int 0, .ref (am 1), .int 0, .int 0, .int 0, .int 0, .int 0, .int 0, .int 0, .int 0, .int 0, .int 0, .long 0, .int 0, .ref (am 2), .ref (am 3), .ref (am 4), .ref (am 5), .ref (am 6), .ref (am 7), .ref (am 8), .ref (am 9), .ref (am 10), .ref (am 11), .int 0, .int (-1), .ref (am 12), .ref (am 13), .ref (am 14), .int 0, .ref (am 15), .ref (am 16), .int 0, .int 0, .int 0, .ref (am 17), .int 0, .int 0, .ref (am 18), .ref (am 19), .int 0, .int 0, .ref (am 20), .int 0, .int 0, .int 0, .int 0])), (am 2, .inl (cy 0, 575, .inl (mi 2))), (am 4, .inl (cy 0, 1150, .inl g_12)), (am 7, .inl (cy 1, 17, .inr (.inl (ml 7)))), (am 9, .inl (cy 1, 34, .inr (.inl g_14))), (am 10, .inl (cy 2, 2, .inl f_15))] H := by rw [ef_15]; exact hP
              have hD : va_D A [(am 0, .inr (12, [.int 0, .ref (am 1), .int 0, .int 0, .int 0, .int 0, .int 0, .int 0, .int 0, .int 0, .int 0, .int 0, .long 0, .int 0, .ref (am 2), .ref (am 3), .ref (am 4), .ref (am 5), .ref (am 6), .ref (am 7), .ref (am 8), .ref (am 9), .ref (am 10), .ref (am 11), .int 0, .int (-1), .ref (am 12), .ref (am 13), .ref (am 14), .int 0, .ref (am 15), .ref (am 16), .int 0, .int 0, .int 0, .ref (am 17), .int 0, .int 0, .ref (am 18), .ref (am 19), .int 0, .int 0, .ref (am 20), .int 0, .int 0, .int 0, .int 0])), (am 2, .inl (cy 0, 575, .inl (mi 2))), (am 4, .inl (cy 0, 1150, .inl g_12)), (am 7, .inl (cy 1, 17, .inr (.inl (ml 7)))), (am 9, .inl (cy 1, 34, .inr (.inl g_14))), (am 10, .inl (cy 2, 2, .inl f_15))] := by rw [ef_15]; exact hD
              rw [show (1 : Int32).toNatClampNeg = 1 from rfl] at ef_15
              refine lv_iconst (v := 1) hx hb dX11_image_87 (by decide) ?_
              rw [hQ9]
              exact re_z () hx hb hr hlocks (Or.inr rfl) (show _ = imF _ by decide) (hP.sub [] rfl) (hD.sub [] rfl rfl) hS dX11_image_88
            | succ n13_ ih13 =>
              intro i13 g_14  hn13 H locs hP hD hS ls hl
              refine lv_iload_n hx hb dX11_image_51 rfl (lv_at hl 2 rfl) ?_
              refine lv_bipush (v := 17) hx hb dX11_image_52 (by decide) ?_
              refine lv_icmp_ge (tgt := 80) hx hb dX11_image_54 (by decide) (fun c9 => absurd c9 (nI_ge (a := i13) (b := 17) (by omega) (by omega))) (fun _ => ?_)
              refine lv_aload_n hx hb dX11_image_57 rfl (lv_at hl 0 rfl) ?_
              refine gf_X11_120 hx hb hts hown hK hP 0 rfl rfl dX11_image_58 ?_
              refine lv_bipush (v := 17) hx hb dX11_image_61 (by decide) ?_
              refine lv_iload_n hx hb dX11_image_63 rfl (lv_at hl 1 rfl) ?_
              refine lv_imul hx hb dX11_image_64 ?_
              refine as_i 17 (by decide) ?_
              refine lv_iload_n hx hb dX11_image_65 rfl (lv_at hl 2 rfl) ?_
              refine lv_iadd hx hb dX11_image_66 ?_
              refine as_i (nI (17 + i13)) (nI_add 17 i13) ?_
              refine lv_aload_n hx hb dX11_image_67 rfl (lv_at hl 0 rfl) ?_
              refine gf_X11_113 hx hb hts hown hK hP 0 rfl rfl dX11_image_68 ?_
              refine lv_iload_n hx hb dX11_image_71 rfl (lv_at hl 2 rfl) ?_
              refine va_lald hx hb hK hP 3 1 rfl rfl (vp_in_nI (n := i13) (N := 17) (by omega) (by omega)) dX11_image_72 ?_
              refine as_l ((ml 7) i13) (congrArg (ml 7) (nI_clamp (n := i13) (by omega))) ?_
              refine va_last hx hb hK hP hD hS 4 1 rfl rfl (vp_in_nI (n := (17 + i13)) (N := 34) (by omega) (by omega)) dX11_image_73 (fun H locs hP hD hS => ?_)
              obtain ⟨f_16, ef_16⟩ : ∃ z : Nat → Int64, z = vp_updL g_14 (Int32.toNatClampNeg (nI (17 + i13))) ((ml 7) i13) := ⟨_, rfl⟩
              have hP : va_P (dC, dI) vwCl [(am 0, .inr (12, [.int 0, .ref (am 1), .int 0, .int 0, .int 0, .int 0, .int 0, .int 0, .int 0, .int 0, .int 0, .int 0, .long 0, .int 0, .ref (am 2), .ref (am 3), .ref (am 4), .ref (am 5), .ref (am 6), .ref (am 7), .ref (am 8), .ref (am 9), .ref (am 10), .ref (am 11), .int 0, .int (-1), .ref (am 12), .ref (am 13), .ref (am 14), .int 0, .ref (am 15), .ref (am 16), .int 0, .int 0, .int 0, .ref (am 17), .int 0, .int 0, .ref (am 18), .ref (am 19), .int 0, .int 0, .ref (am 20), .int 0, .int 0, .int 0, .int 0])), (am 2, .inl (cy 0, 575, .inl (mi 2))), (am 4, .inl (cy 0, 1150, .inl g_12)), (am 7, .inl (cy 1, 17, .inr (.inl (ml 7)))), (am 9, .inl (cy 1, 34, .inr (.inl f_16))), (am 10, .inl (cy 2, 2, .inl (mi 10)))] H := by rw [ef_16]; exact hP
              have hD : va_D A [(am 0, .inr (12, [.int 0, .ref (am 1), .int 0, .int 0, .int 0, .int 0, .int 0, .int 0, .int 0, .int 0, .int 0, .int 0, .long 0, .int 0, .ref (am 2), .ref (am 3), .ref (am 4), .ref (am 5), .ref (am 6), .ref (am 7), .ref (am 8), .ref (am 9), .ref (am 10), .ref (am 11), .int 0, .int (-1), .ref (am 12), .ref (am 13), .ref (am 14), .int 0, .ref (am 15), .ref (am 16), .int 0, .int 0, .int 0, .ref (am 17), .int 0, .int 0, .ref (am 18), .ref (am 19), .int 0, .int 0, .ref (am 20), .int 0, .int 0, .int 0, .int 0])), (am 2, .inl (cy 0, 575, .inl (mi 2))), (am 4, .inl (cy 0, 1150, .inl g_12)), (am 7, .inl (cy 1, 17, .inr (.inl (ml 7)))), (am 9, .inl (cy 1, 34, .inr (.inl f_16))), (am 10, .inl (cy 2, 2, .inl (mi 10)))] := by rw [ef_16]; exact hD
              rw [(nI_clamp (n := (17 + i13)) (by omega))] at ef_16
              refine lv_iinc (v := nI (i13 + 1)) (lv' := [(2, .int (nI (i13 + 1))), (0, .ref (am 0)), (1, .int 1)]) hx hb dX11_image_74 hl (k := 2) rfl (nI_add i13 1) (by decide) rfl (fun ls hl => ?_)
              refine lv_goto (tgt := 51) hx hb dX11_image_77 (by decide) ?_
              exact ih13 (i13 + 1) f_16  (by omega) _ _ (hP.sub [0, 1, 2, 3, 4, 5] rfl) (hD.sub [0, 1, 2, 3, 4, 5] rfl rfl) hS ls (lv_sub hl [1, 2, 0] rfl)
          exact loop13 17 0 (ml 9)  (by omega) _ _ hP hD hS ls (lv_sub hl [1, 2, 0] rfl)
        | succ n11_ ih11 =>
          intro i11 g_12  hn11 H locs hP hD hS ls hl
          refine lv_iload_n hx hb dX11_image_18 rfl (lv_at hl 2 rfl) ?_
          refine lv_sipush (v := 575) hx hb dX11_image_19 (by decide) ?_
          refine lv_icmp_ge (tgt := 49) hx hb dX11_image_22 (by decide) (fun c9 => absurd c9 (nI_ge (a := i11) (b := 575) (by omega) (by omega))) (fun _ => ?_)
          refine lv_aload_n hx hb dX11_image_25 rfl (lv_at hl 0 rfl) ?_
          refine gf_X11_104 hx hb hts hown hK hP 0 rfl rfl dX11_image_26 ?_
          refine lv_sipush (v := 575) hx hb dX11_image_29 (by decide) ?_
          refine lv_iload_n hx hb dX11_image_32 rfl (lv_at hl 1 rfl) ?_
          refine lv_imul hx hb dX11_image_33 ?_
          refine as_i 575 (by decide) ?_
          refine lv_iload_n hx hb dX11_image_34 rfl (lv_at hl 2 rfl) ?_
          refine lv_iadd hx hb dX11_image_35 ?_
          refine as_i (nI (575 + i11)) (nI_add 575 i11) ?_
          refine lv_aload_n hx hb dX11_image_36 rfl (lv_at hl 0 rfl) ?_
          refine gf_X11_98 hx hb hts hown hK hP 0 rfl rfl dX11_image_37 ?_
          refine lv_iload_n hx hb dX11_image_40 rfl (lv_at hl 2 rfl) ?_
          refine va_iald hx hb hK hP 1 0 rfl rfl (vp_in_nI (n := i11) (N := 575) (by omega) (by omega)) dX11_image_41 ?_
          refine as_i ((mi 2) i11) (congrArg (mi 2) (nI_clamp (n := i11) (by omega))) ?_
          refine va_iast hx hb hK hP hD hS 2 0 rfl rfl (vp_in_nI (n := (575 + i11)) (N := 1150) (by omega) (by omega)) dX11_image_42 (fun H locs hP hD hS => ?_)
          obtain ⟨f_17, ef_17⟩ : ∃ z : Nat → Int32, z = upd g_12 (Int32.toNatClampNeg (nI (575 + i11))) ((mi 2) i11) := ⟨_, rfl⟩
          have hP : va_P (dC, dI) vwCl [(am 0, .inr (12, [.int 0, .ref (am 1), .int 0, .int 0, .int 0, .int 0, .int 0, .int 0, .int 0, .int 0, .int 0, .int 0, .long 0, .int 0, .ref (am 2), .ref (am 3), .ref (am 4), .ref (am 5), .ref (am 6), .ref (am 7), .ref (am 8), .ref (am 9), .ref (am 10), .ref (am 11), .int 0, .int (-1), .ref (am 12), .ref (am 13), .ref (am 14), .int 0, .ref (am 15), .ref (am 16), .int 0, .int 0, .int 0, .ref (am 17), .int 0, .int 0, .ref (am 18), .ref (am 19), .int 0, .int 0, .ref (am 20), .int 0, .int 0, .int 0, .int 0])), (am 2, .inl (cy 0, 575, .inl (mi 2))), (am 4, .inl (cy 0, 1150, .inl f_17)), (am 7, .inl (cy 1, 17, .inr (.inl (ml 7)))), (am 9, .inl (cy 1, 34, .inr (.inl (ml 9)))), (am 10, .inl (cy 2, 2, .inl (mi 10)))] H := by rw [ef_17]; exact hP
          have hD : va_D A [(am 0, .inr (12, [.int 0, .ref (am 1), .int 0, .int 0, .int 0, .int 0, .int 0, .int 0, .int 0, .int 0, .int 0, .int 0, .long 0, .int 0, .ref (am 2), .ref (am 3), .ref (am 4), .ref (am 5), .ref (am 6), .ref (am 7), .ref (am 8), .ref (am 9), .ref (am 10), .ref (am 11), .int 0, .int (-1), .ref (am 12), .ref (am 13), .ref (am 14), .int 0, .ref (am 15), .ref (am 16), .int 0, .int 0, .int 0, .ref (am 17), .int 0, .int 0, .ref (am 18), .ref (am 19), .int 0, .int 0, .ref (am 20), .int 0, .int 0, .int 0, .int 0])), (am 2, .inl (cy 0, 575, .inl (mi 2))), (am 4, .inl (cy 0, 1150, .inl f_17)), (am 7, .inl (cy 1, 17, .inr (.inl (ml 7)))), (am 9, .inl (cy 1, 34, .inr (.inl (ml 9)))), (am 10, .inl (cy 2, 2, .inl (mi 10)))] := by rw [ef_17]; exact hD
          rw [(nI_clamp (n := (575 + i11)) (by omega))] at ef_17
          refine lv_iinc (v := nI (i11 + 1)) (lv' := [(2, .int (nI (i11 + 1))), (0, .ref (am 0)), (1, .int 1)]) hx hb dX11_image_43 hl (k := 2) rfl (nI_add i11 1) (by decide) rfl (fun ls hl => ?_)
          refine lv_goto (tgt := 18) hx hb dX11_image_46 (by decide) ?_
          exact ih11 (i11 + 1) f_17  (by omega) _ _ (hP.sub [0, 1, 2, 3, 4, 5] rfl) (hD.sub [0, 1, 2, 3, 4, 5] rfl rfl) hS ls (lv_sub hl [1, 2, 0] rfl)
      exact loop11 575 0 (mi 4)  (by omega) _ _ hP hD hS ls (lv_sub hl [1, 2, 0] rfl)
  · skip
    refine lv_iconst (v := 0) hx hb dX11_image_14 (by decide) ?_
    rw [hQ9]
    exact re_z () hx hb hr hlocks (Or.inl rfl) (im_no c_3).symm (hP.sub [] rfl) (hD.sub [] rfl rfl) hS dX11_image_15
abbrev cX11_restore : ByteArray := prog_13_method_130_code
def yX11_restore : MethodName := ⟨RX11, "restore", "(I)Z"⟩
theorem t2071 : Cond.code yX11_restore cX11_restore 3 (some .boolean) ∈ GW := gw_mem 2185 (by decide +kernel) (by decide +kernel)
theorem dX11_restore_0 : decode cX11_restore 0 = .ok (.aload_n 0, 1) := by decide +kernel
theorem dX11_restore_1 : decode cX11_restore 1 = .ok (.iconst 0, 1) := by decide +kernel
theorem dX11_restore_2 : decode cX11_restore 2 = .ok (.putfield 1, 3) := by decide +kernel
theorem dX11_restore_5 : decode cX11_restore 5 = .ok (.iload_n 1, 1) := by decide +kernel
theorem dX11_restore_6 : decode cX11_restore 6 = .ok (.iconst 0, 1) := by decide +kernel
theorem dX11_restore_7 : decode cX11_restore 7 = .ok (.iconst 1, 1) := by decide +kernel
theorem dX11_restore_8 : decode cX11_restore 8 = .ok (.invokestatic 75, 3) := by decide +kernel
theorem dX11_restore_11 : decode cX11_restore 11 = .ok (.ifCond .eq 12, 3) := by decide +kernel
theorem dX11_restore_23 : decode cX11_restore 23 = .ok (.iconst 0, 1) := by decide +kernel
theorem dX11_restore_24 : decode cX11_restore 24 = .ok (.ireturn, 1) := by decide +kernel
theorem dX11_restore_14 : decode cX11_restore 14 = .ok (.aload_n 0, 1) := by decide +kernel
theorem dX11_restore_15 : decode cX11_restore 15 = .ok (.getfield 123, 3) := by decide +kernel
theorem dX11_restore_18 : decode cX11_restore 18 = .ok (.iload_n 1, 1) := by decide +kernel
theorem dX11_restore_19 : decode cX11_restore 19 = .ok (.baload, 1) := by decide +kernel
theorem dX11_restore_20 : decode cX11_restore 20 = .ok (.ifCond .ne 5, 3) := by decide +kernel
set_option maxHeartbeats 4000000 in
set_option maxRecDepth 100000 in
theorem m_restore (l : Launch) (dC : Nat → ClassId) (dI : Nat → Nat → Nat) (cy : Nat → ClassId) (sz : Nat) (am : Nat → Nat) (mi : Nat → Nat → Int32) (n0 : Int32) (hk : ∀ j : Nat, mi 10 j = 0) : Met l yX11_restore (wl yX11_restore cX11_restore 3 (some .boolean)) ({ frames := 1, cells := 0, slots := 0, locals := 64 }) (Pw (dC, dI) vwCl cy [(am 0, .inr (12, [.int 0, .ref (am 1), .int 0, .int 0, .int 0, .int 0, .int 0, .int 0, .int 0, .int 0, .int 0, .int 0, .long 0, .int 0, .ref (am 2), .ref (am 3), .ref (am 4), .ref (am 5), .ref (am 6), .ref (am 7), .ref (am 8), .ref (am 9), .ref (am 10), .ref (am 11), .int 0, .int (-1), .ref (am 12), .ref (am 13), .ref (am 14), .int 0, .ref (am 15), .ref (am 16), .int 0, .int 0, .int 0, .ref (am 17), .int 0, .int 0, .ref (am 18), .ref (am 19), .int 0, .int 0, .ref (am 20), .int 0, .int 0, .int 0, .int 0])), (am 10, .inl (cy 2, 2, .inl (mi 10)))] sz [.ref (am 0), .int n0] nE) (Qi (dC, dI) vwCl (fun (r : Int32) (u : Unit) => r = 0) (fun (u : Unit) => []) (va_A [(am 0, .inr (12, [.int 0, .ref (am 1), .int 0, .int 0, .int 0, .int 0, .int 0, .int 0, .int 0, .int 0, .int 0, .int 0, .long 0, .int 0, .ref (am 2), .ref (am 3), .ref (am 4), .ref (am 5), .ref (am 6), .ref (am 7), .ref (am 8), .ref (am 9), .ref (am 10), .ref (am 11), .int 0, .int (-1), .ref (am 12), .ref (am 13), .ref (am 14), .int 0, .ref (am 15), .ref (am 16), .int 0, .int 0, .int 0, .ref (am 17), .int 0, .int 0, .ref (am 18), .ref (am 19), .int 0, .int 0, .ref (am 20), .int 0, .int 0, .int 0, .int 0])), (am 10, .inl (cy 2, 2, .inl (mi 10)))] sz)) 0 0 (va_A [(am 0, .inr (12, [.int 0, .ref (am 1), .int 0, .int 0, .int 0, .int 0, .int 0, .int 0, .int 0, .int 0, .int 0, .int 0, .long 0, .int 0, .ref (am 2), .ref (am 3), .ref (am 4), .ref (am 5), .ref (am 6), .ref (am 7), .ref (am 8), .ref (am 9), .ref (am 10), .ref (am 11), .int 0, .int (-1), .ref (am 12), .ref (am 13), .ref (am 14), .int 0, .ref (am 15), .ref (am 16), .int 0, .int 0, .int 0, .ref (am 17), .int 0, .int 0, .ref (am 18), .ref (am 19), .int 0, .int 0, .ref (am 20), .int 0, .int 0, .int 0, .int 0])), (am 10, .inl (cy 2, 2, .inl (mi 10)))] sz) := by
  refine mw (Qc := Qi (dC, dI) vwCl (fun (r : Int32) (u : Unit) => r = 0) (fun (u : Unit) => [])) RX11 rfl (by decide +kernel) (Nat.le_of_ble_eq_true rfl) ?_
  intro p e s m below meth c A hx hb hr hlocks av9 hav hts hown hnm hml hK hP hD hA hS hE hAe Q9 hQ9 ls hl
  have hl : lv_has ls 3 [(0, .ref (am 0)), (1, .int n0)] := hl
  refine lv_aload_n hx hb dX11_restore_0 rfl (lv_at hl 0 rfl) ?_
  refine lv_iconst (v := 0) hx hb dX11_restore_1 (by decide) ?_
  refine pf_X11_1 hx hb hts hown hK hP hD hS 0 rfl rfl rfl (Nat.le_of_ble_eq_true rfl) dX11_restore_2 (fun H locs hP hD hS => ?_)
  have hP : va_P (dC, dI) vwCl [(am 0, .inr (12, [.int 0, .ref (am 1), .int 0, .int 0, .int 0, .int 0, .int 0, .int 0, .int 0, .int 0, .int 0, .int 0, .long 0, .int 0, .ref (am 2), .ref (am 3), .ref (am 4), .ref (am 5), .ref (am 6), .ref (am 7), .ref (am 8), .ref (am 9), .ref (am 10), .ref (am 11), .int 0, .int (-1), .ref (am 12), .ref (am 13), .ref (am 14), .int 0, .ref (am 15), .ref (am 16), .int 0, .int 0, .int 0, .ref (am 17), .int 0, .int 0, .ref (am 18), .ref (am 19), .int 0, .int 0, .ref (am 20), .int 0, .int 0, .int 0, .int 0])), (am 10, .inl (cy 2, 2, .inl (mi 10)))] H := hP
  have hD : va_D A [(am 0, .inr (12, [.int 0, .ref (am 1), .int 0, .int 0, .int 0, .int 0, .int 0, .int 0, .int 0, .int 0, .int 0, .int 0, .long 0, .int 0, .ref (am 2), .ref (am 3), .ref (am 4), .ref (am 5), .ref (am 6), .ref (am 7), .ref (am 8), .ref (am 9), .ref (am 10), .ref (am 11), .int 0, .int (-1), .ref (am 12), .ref (am 13), .ref (am 14), .int 0, .ref (am 15), .ref (am 16), .int 0, .int 0, .int 0, .ref (am 17), .int 0, .int 0, .ref (am 18), .ref (am 19), .int 0, .int 0, .ref (am 20), .int 0, .int 0, .int 0, .int 0])), (am 10, .inl (cy 2, 2, .inl (mi 10)))] := hD
  refine lv_iload_n hx hb dX11_restore_5 rfl (lv_at hl 1 rfl) ?_
  refine lv_iconst (v := 0) hx hb dX11_restore_6 (by decide) ?_
  refine lv_iconst (v := 1) hx hb dX11_restore_7 (by decide) ?_
  refine jr_i (rSr (As := [.int n0, .int 0, .int 1]) (rest := []) ⟨hx, hb, hml, hown, hts⟩ (m_isIn l dC dI cy n0 0 1 ) (cw_X11_75 hts rfl rfl ⟨Nat.le_of_ble_eq_true rfl, Nat.le_of_ble_eq_true rfl⟩) hP hK [] rfl rfl hl.1 rfl (Nat.le_of_ble_eq_true rfl) dX11_restore_8 ⟨Nat.le_of_ble_eq_true rfl, Nat.le_of_ble_eq_true rfl⟩) hP hS (fun r_1 H locs hp_2 hP hS => ?_)
  refine as_i (inF n0 0 1) hp_2 ?_
  refine lv_if_eq (tgt := 23) hx hb dX11_restore_11 (by decide) (fun c_3 => ?_) (fun c_3 => ?_)
  · skip
    refine lv_iconst (v := 0) hx hb dX11_restore_23 (by decide) ?_
    rw [hQ9]
    exact re_z () hx hb hr hlocks (Or.inl rfl) rfl (hP.sub [] rfl) (hD.sub [] rfl rfl) hS dX11_restore_24
  · skip
    have h9 : n0 = 0 ∨ n0 = 1 := inF_01 c_3
    rcases h9 with rfl | rfl
    · skip
      refine lv_aload_n hx hb dX11_restore_14 rfl (lv_at hl 0 rfl) ?_
      refine gf_X11_123 hx hb hts hown hK hP 0 rfl rfl dX11_restore_15 ?_
      refine lv_iload_n hx hb dX11_restore_18 rfl (lv_at hl 1 rfl) ?_
      refine va_zald hx hb hK hP 1 2 rfl rfl (vp_in_nI (n := 0) (N := 2) (by decide) (by decide)) dX11_restore_19 ?_
      refine as_i 0 ((congrArg (mi 10) (show (0 : Int32).toNatClampNeg = 0 from rfl)).trans (hk 0)) ?_
      refine lv_if_ne (tgt := 25) hx hb dX11_restore_20 (by decide) (fun c9 => absurd c9 (by decide)) (fun _ => ?_)
      refine lv_iconst (v := 0) hx hb dX11_restore_23 (by decide) ?_
      rw [hQ9]
      exact re_z () hx hb hr hlocks (Or.inl rfl) rfl (hP.sub [] rfl) (hD.sub [] rfl rfl) hS dX11_restore_24
    · skip
      refine lv_aload_n hx hb dX11_restore_14 rfl (lv_at hl 0 rfl) ?_
      refine gf_X11_123 hx hb hts hown hK hP 0 rfl rfl dX11_restore_15 ?_
      refine lv_iload_n hx hb dX11_restore_18 rfl (lv_at hl 1 rfl) ?_
      refine va_zald hx hb hK hP 1 2 rfl rfl (vp_in_nI (n := 1) (N := 2) (by decide) (by decide)) dX11_restore_19 ?_
      refine as_i 0 ((congrArg (mi 10) (show (1 : Int32).toNatClampNeg = 1 from rfl)).trans (hk 1)) ?_
      refine lv_if_ne (tgt := 25) hx hb dX11_restore_20 (by decide) (fun c9 => absurd c9 (by decide)) (fun _ => ?_)
      refine lv_iconst (v := 0) hx hb dX11_restore_23 (by decide) ?_
      rw [hQ9]
      exact re_z () hx hb hr hlocks (Or.inl rfl) rfl (hP.sub [] rfl) (hD.sub [] rfl rfl) hS dX11_restore_24
