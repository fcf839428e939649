theorem up0 {f g : Nat → Int32} {i : Nat} (e : f = upd g i 0) (h : ∀ j, j < i → g j = 0) : ∀ j, j < i + 1 → f j = 0 := by
  intro j hj
  rw [e]
  by_cases h1 : j = i
  · rw [h1]; exact pk_us
  · rw [pk_un h1]; exact h j (by omega)
abbrev cX4_clear : ByteArray := prog_6_method_2_code
def yX4_clear : MethodName := ⟨RX4, "clear", "()V"⟩
theorem t227 : Cond.code yX4_clear cX4_clear 2 none ∈ GW := gw_mem 341 (by decide +kernel) (by decide +kernel)
abbrev O_c_Life_clear (cy : Nat → ClassId) (h0 : Nat) (a1 : Nat) (a2 : Nat) (a3 : Nat) (a4 : Nat) (a5 : Nat) (a6 : Nat) (a7 : Nat) (a8 : Nat) (a9 : Nat) (a10 : Nat) (yr : Int32) (f1 : Nat → Int32) (f2 : Nat → Int32) (f3 : Nat → Int32) (f4 : Nat → Int32) (f5 : Nat → Int32) (f6 : Nat → Int32) (u : (Nat → Int32) × (Nat → Int32) × (Nat → Int32) × (Nat → Int32) × (Nat → Int32) × (Nat → Int32)) : va_W := [(h0, .inr (5, [.ref a1, .ref a2, .ref a3, .ref a4, .ref a5, .ref a6, .ref a7, .ref a8, .ref a9, .ref a10, .int 0])), (a1, .inl (cy 0, 7, .inl u.1)), (a2, .inl (cy 0, 70, .inl u.2.1)), (a3, .inl (cy 0, 49, .inl u.2.2.1)), (a4, .inl (cy 0, 7, .inl u.2.2.2.1)), (a5, .inl (cy 0, 7, .inl u.2.2.2.2.1)), (a6, .inl (cy 0, 7, .inl u.2.2.2.2.2))]
theorem dX4_clear_0 : decode cX4_clear 0 = .ok (.aload_n 0, 1) := by decide +kernel
theorem dX4_clear_1 : decode cX4_clear 1 = .ok (.iconst 0, 1) := by decide +kernel
theorem dX4_clear_2 : decode cX4_clear 2 = .ok (.putfield 45, 3) := by decide +kernel
theorem t266 : Cond.fieldLink RX4 45 "LikenessPound$Life" "year" "I" ∈ GW := gw_mem 380 (by decide +kernel) (by decide +kernel)
theorem pf_X4_45 {p : Program} {l : Launch} {e : Env} {R : Room} {s : State} {m : MethodId} {args : Array Value} {below : List Frame} {meth : Method} {c : Code} {H : Heap} {locs : List Loc} {cells slots : Nat} {Q : State → Prop} {cc : ByteArray} {pc : Nat} {ls : Array Slot} {rest : List Value} {D : va_G} {A : Nat → Prop} {a : Nat} {tys : List (ClassId × FieldType)} {ws : va_W} {H0 : Heap} (hx : p.tables.exec = Jvm.exec) (hb : c.code = cc) (hts : ∀ w ∈ GW, w.before args s = true) (hown : s.vm.findClass RX4 = some m.cls) (hK : va_K D vwCl tys s) (hP : va_P D vwCl ws H) (hD : va_D A ws) (hS0 : va_S A H0 H locs) (q0 : Nat) {fs : List Value} (he : ws[q0]? = some (a, .inr (5, fs))) {v : Value} (hn : narrow (tyX4 10) v = v) (hfit : fits (tyX4 10) v = true) (hl : 10 < fs.length) (hdg : decode cc pc = .ok (.putfield 45, 3)) (kk : ∀ (H1 : Heap) (locs1 : List Loc), va_P D vwCl (ws.set q0 (a, .inr (5, fs.set 10 v))) H1 → va_D A (ws.set q0 (a, .inr (5, fs.set 10 v))) → va_S A H0 H1 locs1 → W p l e R s m args below meth c H1 locs1 cells slots Q (F0 m (pc + 3) ls rest)) : W p l e R s m args below meth c H locs cells slots Q (F0 m pc ls (v :: .ref a :: rest)) := va_put (C := RX4) (T := TX4) (N := 11) (ci := 5) hx hb hts inX4 tyX4 tkX4 nmX4 hown hK hP hD hS0 q0 he rfl 10 (by decide) (hts _ t266) (fun _ h => h) rfl (tkX4 10 (by decide)) hn hfit hl hdg kk
theorem dX4_clear_5 : decode cX4_clear 5 = .ok (.iconst 0, 1) := by decide +kernel
theorem dX4_clear_6 : decode cX4_clear 6 = .ok (.istore_n 1, 1) := by decide +kernel
theorem dX4_clear_7 : decode cX4_clear 7 = .ok (.iload_n 1, 1) := by decide +kernel
theorem dX4_clear_8 : decode cX4_clear 8 = .ok (.bipush 7, 2) := by decide +kernel
theorem dX4_clear_10 : decode cX4_clear 10 = .ok (.if_icmp .ge 37, 3) := by decide +kernel
theorem dX4_clear_47 : decode cX4_clear 47 = .ok (.iconst 0, 1) := by decide +kernel
theorem dX4_clear_48 : decode cX4_clear 48 = .ok (.istore_n 1, 1) := by decide +kernel
theorem dX4_clear_49 : decode cX4_clear 49 = .ok (.iload_n 1, 1) := by decide +kernel
theorem dX4_clear_50 : decode cX4_clear 50 = .ok (.bipush 70, 2) := by decide +kernel
theorem dX4_clear_52 : decode cX4_clear 52 = .ok (.if_icmp .ge 16, 3) := by decide +kernel
theorem dX4_clear_68 : decode cX4_clear 68 = .ok (.iconst 0, 1) := by decide +kernel
theorem dX4_clear_69 : decode cX4_clear 69 = .ok (.istore_n 1, 1) := by decide +kernel
theorem dX4_clear_70 : decode cX4_clear 70 = .ok (.iload_n 1, 1) := by decide +kernel
theorem dX4_clear_71 : decode cX4_clear 71 = .ok (.bipush 49, 2) := by decide +kernel
theorem dX4_clear_73 : decode cX4_clear 73 = .ok (.if_icmp .ge 16, 3) := by decide +kernel
theorem dX4_clear_89 : decode cX4_clear 89 = .ok (.return_, 1) := by decide +kernel
theorem dX4_clear_76 : decode cX4_clear 76 = .ok (.aload_n 0, 1) := by decide +kernel
theorem dX4_clear_77 : decode cX4_clear 77 = .ok (.getfield 18, 3) := by decide +kernel
theorem t239 : Cond.fieldLink RX4 18 "LikenessPound$Life" "owed" "[I" ∈ GW := gw_mem 353 (by decide +kernel) (by decide +kernel)
theorem gf_X4_18 {p : Program} {l : Launch} {e : Env} {R : Room} {s : State} {m : MethodId} {args : Array Value} {below : List Frame} {meth : Method} {c : Code} {H : Heap} {locs : List Loc} {cells slots : Nat} {Q : State → Prop} {cc : ByteArray} {pc : Nat} {ls : Array Slot} {rest : List Value} {D : va_G} {a : Nat} {tys : List (ClassId × FieldType)} {ws : va_W} (hx : p.tables.exec = Jvm.exec) (hb : c.code = cc) (hts : ∀ w ∈ GW, w.before args s = true) (hown : s.vm.findClass RX4 = some m.cls) (hK : va_K D vwCl tys s) (hP : va_P D vwCl ws H) (q0 : Nat) {fs : List Value} (he : ws[q0]? = some (a, .inr (5, fs))) {v : Value} (hv : fs[2]? = some v) (hdg : decode cc pc = .ok (.getfield 18, 3)) (kk : W p l e R s m args below meth c H locs cells slots Q (F0 m (pc + 3) ls (v :: rest))) : W p l e R s m args below meth c H locs cells slots Q (F0 m pc ls (.ref a :: rest)) := va_get (C := RX4) (T := TX4) (N := 11) (ci := 5) hx hb hts inX4 hown hK hP q0 he rfl 2 (by decide) (hts _ t239) (fun _ h => h) hv hdg kk
theorem dX4_clear_80 : decode cX4_clear 80 = .ok (.iload_n 1, 1) := by decide +kernel
theorem dX4_clear_81 : decode cX4_clear 81 = .ok (.iconst 0, 1) := by decide +kernel
theorem dX4_clear_82 : decode cX4_clear 82 = .ok (.iastore, 1) := by decide +kernel
theorem dX4_clear_83 : decode cX4_clear 83 = .ok (.iinc 1 1, 3) := by decide +kernel
theorem dX4_clear_86 : decode cX4_clear 86 = .ok (.goto (-16), 3) := by decide +kernel
theorem dX4_clear_55 : decode cX4_clear 55 = .ok (.aload_n 0, 1) := by decide +kernel
theorem dX4_clear_56 : decode cX4_clear 56 = .ok (.getfield 15, 3) := by decide +kernel
theorem t233 : Cond.fieldLink RX4 15 "LikenessPound$Life" "did" "[I" ∈ GW := gw_mem 347 (by decide +kernel) (by decide +kernel)
theorem gf_X4_15 {p : Program} {l : Launch} {e : Env} {R : Room} {s : State} {m : MethodId} {args : Array Value} {below : List Frame} {meth : Method} {c : Code} {H : Heap} {locs : List Loc} {cells slots : Nat} {Q : State → Prop} {cc : ByteArray} {pc : Nat} {ls : Array Slot} {rest : List Value} {D : va_G} {a : Nat} {tys : List (ClassId × FieldType)} {ws : va_W} (hx : p.tables.exec = Jvm.exec) (hb : c.code = cc) (hts : ∀ w ∈ GW, w.before args s = true) (hown : s.vm.findClass RX4 = some m.cls) (hK : va_K D vwCl tys s) (hP : va_P D vwCl ws H) (q0 : Nat) {fs : List Value} (he : ws[q0]? = some (a, .inr (5, fs))) {v : Value} (hv : fs[1]? = some v) (hdg : decode cc pc = .ok (.getfield 15, 3)) (kk : W p l e R s m args below meth c H locs cells slots Q (F0 m (pc + 3) ls (v :: rest))) : W p l e R s m args below meth c H locs cells slots Q (F0 m pc ls (.ref a :: rest)) := va_get (C := RX4) (T := TX4) (N := 11) (ci := 5) hx hb hts inX4 hown hK hP q0 he rfl 1 (by decide) (hts _ t233) (fun _ h => h) hv hdg kk
theorem dX4_clear_59 : decode cX4_clear 59 = .ok (.iload_n 1, 1) := by decide +kernel
theorem dX4_clear_60 : decode cX4_clear 60 = .ok (.iconst 0, 1) := by decide +kernel
theorem dX4_clear_61 : decode cX4_clear 61 = .ok (.iastore, 1) := by decide +kernel
theorem dX4_clear_62 : decode cX4_clear 62 = .ok (.iinc 1 1, 3) := by decide +kernel
theorem dX4_clear_65 : decode cX4_clear 65 = .ok (.goto (-16), 3) := by decide +kernel
theorem dX4_clear_13 : decode cX4_clear 13 = .ok (.aload_n 0, 1) := by decide +kernel
theorem dX4_clear_14 : decode cX4_clear 14 = .ok (.getfield 9, 3) := by decide +kernel
theorem t228 : Cond.fieldLink RX4 9 "LikenessPound$Life" "age" "[I" ∈ GW := gw_mem 342 (by decide +kernel) (by decide +kernel)
theorem gf_X4_9 {p : Program} {l : Launch} {e : Env} {R : Room} {s : State} {m : MethodId} {args : Array Value} {below : List Frame} {meth : Method} {c : Code} {H : Heap} {locs : List Loc} {cells slots : Nat} {Q : State → Prop} {cc : ByteArray} {pc : Nat} {ls : Array Slot} {rest : List Value} {D : va_G} {a : Nat} {tys : List (ClassId × FieldType)} {ws : va_W} (hx : p.tables.exec = Jvm.exec) (hb : c.code = cc) (hts : ∀ w ∈ GW, w.before args s = true) (hown : s.vm.findClass RX4 = some m.cls) (hK : va_K D vwCl tys s) (hP : va_P D vwCl ws H) (q0 : Nat) {fs : List Value} (he : ws[q0]? = some (a, .inr (5, fs))) {v : Value} (hv : fs[0]? = some v) (hdg : decode cc pc = .ok (.getfield 9, 3)) (kk : W p l e R s m args below meth c H locs cells slots Q (F0 m (pc + 3) ls (v :: rest))) : W p l e R s m args below meth c H locs cells slots Q (F0 m pc ls (.ref a :: rest)) := va_get (C := RX4) (T := TX4) (N := 11) (ci := 5) hx hb hts inX4 hown hK hP q0 he rfl 0 (by decide) (hts _ t228) (fun _ h => h) hv hdg kk
theorem dX4_clear_17 : decode cX4_clear 17 = .ok (.iload_n 1, 1) := by decide +kernel
theorem dX4_clear_18 : decode cX4_clear 18 = .ok (.iconst 0, 1) := by decide +kernel
theorem dX4_clear_19 : decode cX4_clear 19 = .ok (.iastore, 1) := by decide +kernel
theorem dX4_clear_20 : decode cX4_clear 20 = .ok (.aload_n 0, 1) := by decide +kernel
theorem dX4_clear_21 : decode cX4_clear 21 = .ok (.getfield 21, 3) := by decide +kernel
theorem t242 : Cond.fieldLink RX4 21 "LikenessPound$Life" "lentTo" "[I" ∈ GW := gw_mem 356 (by decide +kernel) (by decide +kernel)
theorem gf_X4_21 {p : Program} {l : Launch} {e : Env} {R : Room} {s : State} {m : MethodId} {args : Array Value} {below : List Frame} {meth : Method} {c : Code} {H : Heap} {locs : List Loc} {cells slots : Nat} {Q : State → Prop} {cc : ByteArray} {pc : Nat} {ls : Array Slot} {rest : List Value} {D : va_G} {a : Nat} {tys : List (ClassId × FieldType)} {ws : va_W} (hx : p.tables.exec = Jvm.exec) (hb : c.code = cc) (hts : ∀ w ∈ GW, w.before args s = true) (hown : s.vm.findClass RX4 = some m.cls) (hK : va_K D vwCl tys s) (hP : va_P D vwCl ws H) (q0 : Nat) {fs : List Value} (he : ws[q0]? = some (a, .inr (5, fs))) {v : Value} (hv : fs[3]? = some v) (hdg : decode cc pc = .ok (.getfield 21, 3)) (kk : W p l e R s m args below meth c H locs cells slots Q (F0 m (pc + 3) ls (v :: rest))) : W p l e R s m args below meth c H locs cells slots Q (F0 m pc ls (.ref a :: rest)) := va_get (C := RX4) (T := TX4) (N := 11) (ci := 5) hx hb hts inX4 hown hK hP q0 he rfl 3 (by decide) (hts _ t242) (fun _ h => h) hv hdg kk
theorem dX4_clear_24 : decode cX4_clear 24 = .ok (.iload_n 1, 1) := by decide +kernel
theorem dX4_clear_25 : decode cX4_clear 25 = .ok (.iconst (-1), 1) := by decide +kernel
theorem dX4_clear_26 : decode cX4_clear 26 = .ok (.iastore, 1) := by decide +kernel
theorem dX4_clear_27 : decode cX4_clear 27 = .ok (.aload_n 0, 1) := by decide +kernel
theorem dX4_clear_28 : decode cX4_clear 28 = .ok (.getfield 24, 3) := by decide +kernel
theorem t247 : Cond.fieldLink RX4 24 "LikenessPound$Life" "lentDeed" "[I" ∈ GW := gw_mem 361 (by decide +kernel) (by decide +kernel)
theorem gf_X4_24 {p : Program} {l : Launch} {e : Env} {R : Room} {s : State} {m : MethodId} {args : Array Value} {below : List Frame} {meth : Method} {c : Code} {H : Heap} {locs : List Loc} {cells slots : Nat} {Q : State → Prop} {cc : ByteArray} {pc : Nat} {ls : Array Slot} {rest : List Value} {D : va_G} {a : Nat} {tys : List (ClassId × FieldType)} {ws : va_W} (hx : p.tables.exec = Jvm.exec) (hb : c.code = cc) (hts : ∀ w ∈ GW, w.before args s = true) (hown : s.vm.findClass RX4 = some m.cls) (hK : va_K D vwCl tys s) (hP : va_P D vwCl ws H) (q0 : Nat) {fs : List Value} (he : ws[q0]? = some (a, .inr (5, fs))) {v : Value} (hv : fs[4]? = some v) (hdg : decode cc pc = .ok (.getfield 24, 3)) (kk : W p l e R s m args below meth c H locs cells slots Q (F0 m (pc + 3) ls (v :: rest))) : W p l e R s m args below meth c H locs cells slots Q (F0 m pc ls (.ref a :: rest)) := va_get (C := RX4) (T := TX4) (N := 11) (ci := 5) hx hb hts inX4 hown hK hP q0 he rfl 4 (by decide) (hts _ t247) (fun _ h => h) hv hdg kk
theorem dX4_clear_31 : decode cX4_clear 31 = .ok (.iload_n 1, 1) := by decide +kernel
theorem dX4_clear_32 : decode cX4_clear 32 = .ok (.iconst (-1), 1) := by decide +kernel
theorem dX4_clear_33 : decode cX4_clear 33 = .ok (.iastore, 1) := by decide +kernel
theorem dX4_clear_34 : decode cX4_clear 34 = .ok (.aload_n 0, 1) := by decide +kernel
theorem dX4_clear_35 : decode cX4_clear 35 = .ok (.getfield 27, 3) := by decide +kernel
theorem dX4_clear_38 : decode cX4_clear 38 = .ok (.iload_n 1, 1) := by decide +kernel
theorem dX4_clear_39 : decode cX4_clear 39 = .ok (.iconst 0, 1) := by decide +kernel
theorem dX4_clear_40 : decode cX4_clear 40 = .ok (.iastore, 1) := by decide +kernel
theorem dX4_clear_41 : decode cX4_clear 41 = .ok (.iinc 1 1, 3) := by decide +kernel
theorem dX4_clear_44 : decode cX4_clear 44 = .ok (.goto (-37), 3) := by decide +kernel
set_option maxHeartbeats 4000000 in
set_option maxRecDepth 100000 in
theorem c_Life_clear (l : Launch) (dC : Nat → ClassId) (dI : Nat → Nat → Nat) (cy : Nat → ClassId) (sz : Nat) (h0 : Nat) (a1 : Nat) (a2 : Nat) (a3 : Nat) (a4 : Nat) (a5 : Nat) (a6 : Nat) (a7 : Nat) (a8 : Nat) (a9 : Nat) (a10 : Nat) (yr : Int32) (f1 : Nat → Int32) (f2 : Nat → Int32) (f3 : Nat → Int32) (f4 : Nat → Int32) (f5 : Nat → Int32) (f6 : Nat → Int32)  : Met l yX4_clear (wl yX4_clear cX4_clear 2 none) ({ frames := 0, cells := 0, slots := 0, locals := 0 }) (Pw (dC, dI) vwCl cy [(h0, .inr (5, [.ref a1, .ref a2, .ref a3, .ref a4, .ref a5, .ref a6, .ref a7, .ref a8, .ref a9, .ref a10, .int yr])), (a1, .inl (cy 0, 7, .inl f1)), (a2, .inl (cy 0, 70, .inl f2)), (a3, .inl (cy 0, 49, .inl f3)), (a4, .inl (cy 0, 7, .inl f4)), (a5, .inl (cy 0, 7, .inl f5)), (a6, .inl (cy 0, 7, .inl f6))] sz [.ref h0] nE) (Qv (dC, dI) vwCl (fun (u : (Nat → Int32) × (Nat → Int32) × (Nat → Int32) × (Nat → Int32) × (Nat → Int32) × (Nat → Int32)) => ∀ j : Nat, j < 7 → u.2.2.2.2.2 j = 0) (O_c_Life_clear cy h0 a1 a2 a3 a4 a5 a6 a7 a8 a9 a10 yr f1 f2 f3 f4 f5 f6) (va_A [(h0, .inr (5, [.ref a1, .ref a2, .ref a3, .ref a4, .ref a5, .ref a6, .ref a7, .ref a8, .ref a9, .ref a10, .int yr])), (a1, .inl (cy 0, 7, .inl f1)), (a2, .inl (cy 0, 70, .inl f2)), (a3, .inl (cy 0, 49, .inl f3)), (a4, .inl (cy 0, 7, .inl f4)), (a5, .inl (cy 0, 7, .inl f5)), (a6, .inl (cy 0, 7, .inl f6))] sz)) 0 0 (va_A [(h0, .inr (5, [.ref a1, .ref a2, .ref a3, .ref a4, .ref a5, .ref a6, .ref a7, .ref a8, .ref a9, .ref a10, .int yr])), (a1, .inl (cy 0, 7, .inl f1)), (a2, .inl (cy 0, 70, .inl f2)), (a3, .inl (cy 0, 49, .inl f3)), (a4, .inl (cy 0, 7, .inl f4)), (a5, .inl (cy 0, 7, .inl f5)), (a6, .inl (cy 0, 7, .inl f6))] sz) := by
  refine mw (Qc := Qv (dC, dI) vwCl (fun (u : (Nat → Int32) × (Nat → Int32) × (Nat → Int32) × (Nat → Int32) × (Nat → Int32) × (Nat → Int32)) => ∀ j : Nat, j < 7 → u.2.2.2.2.2 j = 0) (O_c_Life_clear cy h0 a1 a2 a3 a4 a5 a6 a7 a8 a9 a10 yr f1 f2 f3 f4 f5 f6)) RX4 rfl (by decide +kernel) (Nat.le_of_ble_eq_true rfl) ?_
  intro p e s m below meth c A hx hb hr hlocks av9 hav hts hown hnm hml hK hP hD hA hS hE hAe Q9 hQ9 ls hl
  have hl : lv_has ls 2 [(0, .ref h0)] := hl
  refine lv_aload_n hx hb dX4_clear_0 rfl (lv_at hl 0 rfl) ?_
  refine lv_iconst (v := 0) hx hb dX4_clear_1 (by decide) ?_
  refine pf_X4_45 hx hb hts hown hK hP hD hS 0 rfl rfl rfl (Nat.le_of_ble_eq_true rfl) dX4_clear_2 (fun H locs hP hD hS => ?_)
  have hP : va_P (dC, dI) vwCl [(h0, .inr (5, [.ref a1, .ref a2, .ref a3, .ref a4, .ref a5, .ref a6, .ref a7, .ref a8, .ref a9, .ref a10, .int 0])), (a1, .inl (cy 0, 7, .inl f1)), (a2, .inl (cy 0, 70, .inl f2)), (a3, .inl (cy 0, 49, .inl f3)), (a4, .inl (cy 0, 7, .inl f4)), (a5, .inl (cy 0, 7, .inl f5)), (a6, .inl (cy 0, 7, .inl f6))] H := hP
  have hD : va_D A [(h0, .inr (5, [.ref a1, .ref a2, .ref a3, .ref a4, .ref a5, .ref a6, .ref a7, .ref a8, .ref a9, .ref a10, .int 0])), (a1, .inl (cy 0, 7, .inl f1)), (a2, .inl (cy 0, 70, .inl f2)), (a3, .inl (cy 0, 49, .inl f3)), (a4, .inl (cy 0, 7, .inl f4)), (a5, .inl (cy 0, 7, .inl f5)), (a6, .inl (cy 0, 7, .inl f6))] := hD
  refine lv_iconst (v := 0) hx hb dX4_clear_5 (by decide) ?_
  refine lv_istore_n (lv' := [(1, .int 0), (0, .ref h0)]) hx hb dX4_clear_6 rfl hl (by decide) rfl (fun ls hl => ?_)
  have loop1 : ∀ (n1_ i1 : Nat) (g_2 : Nat → Int32) (g_3 : Nat → Int32) (g_4 : Nat → Int32) (g_5 : Nat → Int32) (hs : ∀ j : Nat, j < i1 → g_5 j = 0), i1 + n1_ = 7 → ∀ (H : Heap) (locs : List Loc), va_P (dC, dI) vwCl [(h0, .inr (5, [.ref a1, .ref a2, .ref a3, .ref a4, .ref a5, .ref a6, .ref a7, .ref a8, .ref a9, .ref a10, .int 0])), (a1, .inl (cy 0, 7, .inl g_2)), (a2, .inl (cy 0, 70, .inl f2)), (a3, .inl (cy 0, 49, .inl f3)), (a4, .inl (cy 0, 7, .inl g_3)), (a5, .inl (cy 0, 7, .inl g_4)), (a6, .inl (cy 0, 7, .inl g_5))] H → va_D A [(h0, .inr (5, [.ref a1, .ref a2, .ref a3, .ref a4, .ref a5, .ref a6, .ref a7, .ref a8, .ref a9, .ref a10, .int 0])), (a1, .inl (cy 0, 7, .inl g_2)), (a2, .inl (cy 0, 70, .inl f2)), (a3, .inl (cy 0, 49, .inl f3)), (a4, .inl (cy 0, 7, .inl g_3)), (a5, .inl (cy 0, 7, .inl g_4)), (a6, .inl (cy 0, 7, .inl g_5))] → va_S A s.heap H locs → ∀ ls : Array Slot, lv_has ls 2 [(0, .ref h0), (1, .int (nI i1))] → W p l e ({ frames := 0, cells := 0, slots := 0, locals := 0 }) s m av9 below meth c H locs 0 0 Q9 (F0 m 7 ls []) := by
    intro n1_
    induction n1_ with
    | zero =>
      intro i1 g_2 g_3 g_4 g_5 hs hn1 H locs hP hD hS ls hl
      obtain rfl : i1 = 7 := by omega
      have hl : lv_has ls 2 [(0, .ref h0), (1, .int 7)] := hl
      have hP : va_P (dC, dI) vwCl [(h0, .inr (5, [.ref a1, .ref a2, .ref a3, .ref a4, .ref a5, .ref a6, .ref a7, .ref a8, .ref a9, .ref a10, .int 0])), (a1, .inl (cy 0, 7, .inl g_2)), (a2, .inl (cy 0, 70, .inl f2)), (a3, .inl (cy 0, 49, .inl f3)), (a4, .inl (cy 0, 7, .inl g_3)), (a5, .inl (cy 0, 7, .inl g_4)), (a6, .inl (cy 0, 7, .inl g_5))] H := hP
      have hD : va_D A [(h0, .inr (5, [.ref a1, .ref a2, .ref a3, .ref a4, .ref a5, .ref a6, .ref a7, .ref a8, .ref a9, .ref a10, .int 0])), (a1, .inl (cy 0, 7, .inl g_2)), (a2, .inl (cy 0, 70, .inl f2)), (a3, .inl (cy 0, 49, .inl f3)), (a4, .inl (cy 0, 7, .inl g_3)), (a5, .inl (cy 0, 7, .inl g_4)), (a6, .inl (cy 0, 7, .inl g_5))] := hD
      refine lv_iload_n hx hb dX4_clear_7 rfl (lv_at hl 1 rfl) ?_
      refine lv_bipush (v := 7) hx hb dX4_clear_8 (by decide) ?_
      refine lv_icmp_ge (tgt := 47) hx hb dX4_clear_10 (by decide) (fun _ => ?_) (fun c9 => absurd (by decide) c9)
      refine lv_iconst (v := 0) hx hb dX4_clear_47 (by decide) ?_
      refine lv_istore_n (lv' := [(1, .int 0), (0, .ref h0)]) hx hb dX4_clear_48 rfl hl (by decide) rfl (fun ls hl => ?_)
      have loop6 : ∀ (n6_ i6 : Nat) (g_7 : Nat → Int32) , i6 + n6_ = 70 → ∀ (H : Heap) (locs : List Loc), va_P (dC, dI) vwCl [(h0, .inr (5, [.ref a1, .ref a2, .ref a3, .ref a4, .ref a5, .ref a6, .ref a7, .ref a8, .ref a9, .ref a10, .int 0])), (a1, .inl (cy 0, 7, .inl g_2)), (a2, .inl (cy 0, 70, .inl g_7)), (a3, .inl (cy 0, 49, .inl f3)), (a4, .inl (cy 0, 7, .inl g_3)), (a5, .inl (cy 0, 7, .inl g_4)), (a6, .inl (cy 0, 7, .inl g_5))] H → va_D A [(h0, .inr (5, [.ref a1, .ref a2, .ref a3, .ref a4, .ref a5, .ref a6, .ref a7, .ref a8, .ref a9, .ref a10, .int 0])), (a1, .inl (cy 0, 7, .inl g_2)), (a2, .inl (cy 0, 70, .inl g_7)), (a3, .inl (cy 0, 49, .inl f3)), (a4, .inl (cy 0, 7, .inl g_3)), (a5, .inl (cy 0, 7, .inl g_4)), (a6, .inl (cy 0, 7, .inl g_5))] → va_S A s.heap H locs → ∀ ls : Array Slot, lv_has ls 2 [(0, .ref h0), (1, .int (nI i6))] → W p l e ({ frames := 0, cells := 0, slots := 0, locals := 0 }) s m av9 below meth c H locs 0 0 Q9 (F0 m 49 ls []) := by
        intro n6_
        induction n6_ with
        | zero =>
          intro i6 g_7  hn6 H locs hP hD hS ls hl
          obtain rfl : i6 = 70 := by omega
          have hl : lv_has ls 2 [(0, .ref h0), (1, .int 70)] := hl
          have hP : va_P (dC, dI) vwCl [(h0, .inr (5, [.ref a1, .ref a2, .ref a3, .ref a4, .ref a5, .ref a6, .ref a7, .ref a8, .ref a9, .ref a10, .int 0])), (a1, .inl (cy 0, 7, .inl g_2)), (a2, .inl (cy 0, 70, .inl g_7)), (a3, .inl (cy 0, 49, .inl f3)), (a4, .inl (cy 0, 7, .inl g_3)), (a5, .inl (cy 0, 7, .inl g_4)), (a6, .inl (cy 0, 7, .inl g_5))] H := hP
          have hD : va_D A [(h0, .inr (5, [.ref a1, .ref a2, .ref a3, .ref a4, .ref a5, .ref a6, .ref a7, .ref a8, .ref a9, .ref a10, .int 0])), (a1, .inl (cy 0, 7, .inl g_2)), (a2, .inl (cy 0, 70, .inl g_7)), (a3, .inl (cy 0, 49, .inl f3)), (a4, .inl (cy 0, 7, .inl g_3)), (a5, .inl (cy 0, 7, .inl g_4)), (a6, .inl (cy 0, 7, .inl g_5))] := hD
          refine lv_iload_n hx hb dX4_clear_49 rfl (lv_at hl 1 rfl) ?_
          refine lv_bipush (v := 70) hx hb dX4_clear_50 (by decide) ?_
          refine lv_icmp_ge (tgt := 68) hx hb dX4_clear_52 (by decide) (fun _ => ?_) (fun c9 => absurd (by decide) c9)
          refine lv_iconst (v := 0) hx hb dX4_clear_68 (by decide) ?_
          refine lv_istore_n (lv' := [(1, .int 0), (0, .ref h0)]) hx hb dX4_clear_69 rfl hl (by decide) rfl (fun ls hl => ?_)
          have loop8 : ∀ (n8_ i8 : Nat) (g_9 : Nat → Int32) , i8 + n8_ = 49 → ∀ (H : Heap) (locs : List Loc), va_P (dC, dI) vwCl [(h0, .inr (5, [.ref a1, .ref a2, .ref a3, .ref a4, .ref a5, .ref a6, .ref a7, .ref a8, .ref a9, .ref a10, .int 0])), (a1, .inl (cy 0, 7, .inl g_2)), (a2, .inl (cy 0, 70, .inl g_7)), (a3, .inl (cy 0, 49, .inl g_9)), (a4, .inl (cy 0, 7, .inl g_3)), (a5, .inl (cy 0, 7, .inl g_4)), (a6, .inl (cy 0, 7, .inl g_5))] H → va_D A [(h0, .inr (5, [.ref a1, .ref a2, .ref a3, .ref a4, .ref a5, .ref a6, .ref a7, .ref a8, .ref a9, .ref a10, .int 0])), (a1, .inl (cy 0, 7, .inl g_2)), (a2, .inl (cy 0, 70, .inl g_7)), (a3, .inl (cy 0, 49, .inl g_9)), (a4, .inl (cy 0, 7, .inl g_3)), (a5, .inl (cy 0, 7, .inl g_4)), (a6, .inl (cy 0, 7, .inl g_5))] → va_S A s.heap H locs → ∀ ls : Array Slot, lv_has ls 2 [(0, .ref h0), (1, .int (nI i8))] → W p l e ({ frames := 0, cells := 0, slots := 0, locals := 0 }) s m av9 below meth c H locs 0 0 Q9 (F0 m 70 ls []) := by
            intro n8_
            induction n8_ with
            | zero =>
              intro i8 g_9  hn8 H locs hP hD hS ls hl
              obtain rfl : i8 = 49 := by omega
              have hl : lv_has ls 2 [(0, .ref h0), (1, .int 49)] := hl
              have hP : va_P (dC, dI) vwCl [(h0, .inr (5, [.ref a1, .ref a2, .ref a3, .ref a4, .ref a5, .ref a6, .ref a7, .ref a8, .ref a9, .ref a10, .int 0])), (a1, .inl (cy 0, 7, .inl g_2)), (a2, .inl (cy 0, 70, .inl g_7)), (a3, .inl (cy 0, 49, .inl g_9)), (a4, .inl (cy 0, 7, .inl g_3)), (a5, .inl (cy 0, 7, .inl g_4)), (a6, .inl (cy 0, 7, .inl g_5))] H := hP
              have hD : va_D A [(h0, .inr (5, [.ref a1, .ref a2, .ref a3, .ref a4, .ref a5, .ref a6, .ref a7, .ref a8, .ref a9, .ref a10, .int 0])), (a1, .inl (cy 0, 7, .inl g_2)), (a2, .inl (cy 0, 70, .inl g_7)), (a3, .inl (cy 0, 49, .inl g_9)), (a4, .inl (cy 0, 7, .inl g_3)), (a5, .inl (cy 0, 7, .inl g_4)), (a6, .inl (cy 0, 7, .inl g_5))] := hD
              refine lv_iload_n hx hb dX4_clear_70 rfl (lv_at hl 1 rfl) ?_
              refine lv_bipush (v := 49) hx hb dX4_clear_71 (by decide) ?_
              refine lv_icmp_ge (tgt := 89) hx hb dX4_clear_73 (by decide) (fun _ => ?_) (fun c9 => absurd (by decide) c9)
              rw [hQ9]
              exact re_v (g_2, g_7, g_9, g_3, g_4, g_5) hx hb hr hlocks hs (hP.sub [0, 1, 2, 3, 4, 5, 6] rfl) (hD.sub [0, 1, 2, 3, 4, 5, 6] rfl rfl) hS dX4_clear_89
            | succ n8_ ih8 =>
              intro i8 g_9  hn8 H locs hP hD hS ls hl
              refine lv_iload_n hx hb dX4_clear_70 rfl (lv_at hl 1 rfl) ?_
              refine lv_bipush (v := 49) hx hb dX4_clear_71 (by decide) ?_
              refine lv_icmp_ge (tgt := 89) hx hb dX4_clear_73 (by decide) (fun c9 => absurd c9 (nI_ge (a := i8) (b := 49) (by omega) (by omega))) (fun _ => ?_)
              refine lv_aload_n hx hb dX4_clear_76 rfl (lv_at hl 0 rfl) ?_
              refine gf_X4_18 hx hb hts hown hK hP 0 rfl rfl dX4_clear_77 ?_
              refine lv_iload_n hx hb dX4_clear_80 rfl (lv_at hl 1 rfl) ?_
              refine lv_iconst (v := 0) hx hb dX4_clear_81 (by decide) ?_
              refine va_iast hx hb hK hP hD hS 3 0 rfl rfl (vp_in_nI (n := i8) (N := 49) (by omega) (by omega)) dX4_clear_82 (fun H locs hP hD hS => ?_)
              obtain ⟨f_10, ef_10⟩ : ∃ z : Nat → Int32, z = upd g_9 (Int32.toNatClampNeg (nI i8)) 0 := ⟨_, rfl⟩
              have hP : va_P (dC, dI) vwCl [(h0, .inr (5, [.ref a1, .ref a2, .ref a3, .ref a4, .ref a5, .ref a6, .ref a7, .ref a8, .ref a9, .ref a10, .int 0])), (a1, .inl (cy 0, 7, .inl g_2)), (a2, .inl (cy 0, 70, .inl g_7)), (a3, .inl (cy 0, 49, .inl f_10)), (a4, .inl (cy 0, 7, .inl g_3)), (a5, .inl (cy 0, 7, .inl g_4)), (a6, .inl (cy 0, 7, .inl g_5))] H := by rw [ef_10]; exact hP
              have hD : va_D A [(h0, .inr (5, [.ref a1, .ref a2, .ref a3, .ref a4, .ref a5, .ref a6, .ref a7, .ref a8, .ref a9, .ref a10, .int 0])), (a1, .inl (cy 0, 7, .inl g_2)), (a2, .inl (cy 0, 70, .inl g_7)), (a3, .inl (cy 0, 49, .inl f_10)), (a4, .inl (cy 0, 7, .inl g_3)), (a5, .inl (cy 0, 7, .inl g_4)), (a6, .inl (cy 0, 7, .inl g_5))] := by rw [ef_10]; exact hD
              rw [(nI_clamp (n := i8) (by omega))] at ef_10
              refine lv_iinc (v := nI (i8 + 1)) (lv' := [(1, .int (nI (i8 + 1))), (0, .ref h0)]) hx hb dX4_clear_83 hl (k := 1) rfl (nI_add i8 1) (by decide) rfl (fun ls hl => ?_)
              refine lv_goto (tgt := 70) hx hb dX4_clear_86 (by decide) ?_
              exact ih8 (i8 + 1) f_10  (by omega) _ _ (hP.sub [0, 1, 2, 3, 4, 5, 6] rfl) (hD.sub [0, 1, 2, 3, 4, 5, 6] rfl rfl) hS ls (lv_sub hl [1, 0] rfl)
          exact loop8 49 0 f3  (by omega) _ _ hP hD hS ls (lv_sub hl [1, 0] rfl)
        | succ n6_ ih6 =>
          intro i6 g_7  hn6 H locs hP hD hS ls hl
          refine lv_iload_n hx hb dX4_clear_49 rfl (lv_at hl 1 rfl) ?_
          refine lv_bipush (v := 70) hx hb dX4_clear_50 (by decide) ?_
          refine lv_icmp_ge (tgt := 68) hx hb dX4_clear_52 (by decide) (fun c9 => absurd c9 (nI_ge (a := i6) (b := 70) (by omega) (by omega))) (fun _ => ?_)
          refine lv_aload_n hx hb dX4_clear_55 rfl (lv_at hl 0 rfl) ?_
          refine gf_X4_15 hx hb hts hown hK hP 0 rfl rfl dX4_clear_56 ?_
          refine lv_iload_n hx hb dX4_clear_59 rfl (lv_at hl 1 rfl) ?_
          refine lv_iconst (v := 0) hx hb dX4_clear_60 (by decide) ?_
          refine va_iast hx hb hK hP hD hS 2 0 rfl rfl (vp_in_nI (n := i6) (N := 70) (by omega) (by omega)) dX4_clear_61 (fun H locs hP hD hS => ?_)
          obtain ⟨f_11, ef_11⟩ : ∃ z : Nat → Int32, z = upd g_7 (Int32.toNatClampNeg (nI i6)) 0 := ⟨_, rfl⟩
          have hP : va_P (dC, dI) vwCl [(h0, .inr (5, [.ref a1, .ref a2, .ref a3, .ref a4, .ref a5, .ref a6, .ref a7, .ref a8, .ref a9, .ref a10, .int 0])), (a1, .inl (cy 0, 7, .inl g_2)), (a2, .inl (cy 0, 70, .inl f_11)), (a3, .inl (cy 0, 49, .inl f3)), (a4, .inl (cy 0, 7, .inl g_3)), (a5, .inl (cy 0, 7, .inl g_4)), (a6, .inl (cy 0, 7, .inl g_5))] H := by rw [ef_11]; exact hP
          have hD : va_D A [(h0, .inr (5, [.ref a1, .ref a2, .ref a3, .ref a4, .ref a5, .ref a6, .ref a7, .ref a8, .ref a9, .ref a10, .int 0])), (a1, .inl (cy 0, 7, .inl g_2)), (a2, .inl (cy 0, 70, .inl f_11)), (a3, .inl (cy 0, 49, .inl f3)), (a4, .inl (cy 0, 7, .inl g_3)), (a5, .inl (cy 0, 7, .inl g_4)), (a6, .inl (cy 0, 7, .inl g_5))] := by rw [ef_11]; exact hD
          rw [(nI_clamp (n := i6) (by omega))] at ef_11
          refine lv_iinc (v := nI (i6 + 1)) (lv' := [(1, .int (nI (i6 + 1))), (0, .ref h0)]) hx hb dX4_clear_62 hl (k := 1) rfl (nI_add i6 1) (by decide) rfl (fun ls hl => ?_)
          refine lv_goto (tgt := 49) hx hb dX4_clear_65 (by decide) ?_
          exact ih6 (i6 + 1) f_11  (by omega) _ _ (hP.sub [0, 1, 2, 3, 4, 5, 6] rfl) (hD.sub [0, 1, 2, 3, 4, 5, 6] rfl rfl) hS ls (lv_sub hl [1, 0] rfl)
      exact loop6 70 0 f2  (by omega) _ _ hP hD hS ls (lv_sub hl [1, 0] rfl)
    | succ n1_ ih1 =>
      intro i1 g_2 g_3 g_4 g_5 hs hn1 H locs hP hD hS ls hl
      refine lv_iload_n hx hb dX4_clear_7 rfl (lv_at hl 1 rfl) ?_
      refine lv_bipush (v := 7) hx hb dX4_clear_8 (by decide) ?_
      refine lv_icmp_ge (tgt := 47) hx hb dX4_clear_10 (by decide) (fun c9 => absurd c9 (nI_ge (a := i1) (b := 7) (by omega) (by omega))) (fun _ => ?_)
      refine lv_aload_n hx hb dX4_clear_13 rfl (lv_at hl 0 rfl) ?_
      refine gf_X4_9 hx hb hts hown hK hP 0 rfl rfl dX4_clear_14 ?_
      refine lv_iload_n hx hb dX4_clear_17 rfl (lv_at hl 1 rfl) ?_
      refine lv_iconst (v := 0) hx hb dX4_clear_18 (by decide) ?_
      refine va_iast hx hb hK hP hD hS 1 0 rfl rfl (vp_in_nI (n := i1) (N := 7) (by omega) (by omega)) dX4_clear_19 (fun H locs hP hD hS => ?_)
      obtain ⟨f_12, ef_12⟩ : ∃ z : Nat → Int32, z = upd g_2 (Int32.toNatClampNeg (nI i1)) 0 := ⟨_, rfl⟩
      have hP : va_P (dC, dI) vwCl [(h0, .inr (5, [.ref a1, .ref a2, .ref a3, .ref a4, .ref a5, .ref a6, .ref a7, .ref a8, .ref a9, .ref a10, .int 0])), (a1, .inl (cy 0, 7, .inl f_12)), (a2, .inl (cy 0, 70, .inl f2)), (a3, .inl (cy 0, 49, .inl f3)), (a4, .inl (cy 0, 7, .inl g_3)), (a5, .inl (cy 0, 7, .inl g_4)), (a6, .inl (cy 0, 7, .inl g_5))] H := by rw [ef_12]; exact hP
      have hD : va_D A [(h0, .inr (5, [.ref a1, .ref a2, .ref a3, .ref a4, .ref a5, .ref a6, .ref a7, .ref a8, .ref a9, .ref a10, .int 0])), (a1, .inl (cy 0, 7, .inl f_12)), (a2, .inl (cy 0, 70, .inl f2)), (a3, .inl (cy 0, 49, .inl f3)), (a4, .inl (cy 0, 7, .inl g_3)), (a5, .inl (cy 0, 7, .inl g_4)), (a6, .inl (cy 0, 7, .inl g_5))] := by rw [ef_12]; exact hD
      rw [(nI_clamp (n := i1) (by omega))] at ef_12
      refine lv_aload_n hx hb dX4_clear_20 rfl (lv_at hl 0 rfl) ?_
      refine gf_X4_21 hx hb hts hown hK hP 0 rfl rfl dX4_clear_21 ?_
      refine lv_iload_n hx hb dX4_clear_24 rfl (lv_at hl 1 rfl) ?_
      refine lv_iconst (v := (-1)) hx hb dX4_clear_25 (by decide) ?_
      refine va_iast hx hb hK hP hD hS 4 0 rfl rfl (vp_in_nI (n := i1) (N := 7) (by omega) (by omega)) dX4_clear_26 (fun H locs hP hD hS => ?_)
      obtain ⟨f_13, ef_13⟩ : ∃ z : Nat → Int32, z = upd g_3 (Int32.toNatClampNeg (nI i1)) (-1) := ⟨_, rfl⟩
      have hP : va_P (dC, dI) vwCl [(h0, .inr (5, [.ref a1, .ref a2, .ref a3, .ref a4, .ref a5, .ref a6, .ref a7, .ref a8, .ref a9, .ref a10, .int 0])), (a1, .inl (cy 0, 7, .inl f_12)), (a2, .inl (cy 0, 70, .inl f2)), (a3, .inl (cy 0, 49, .inl f3)), (a4, .inl (cy 0, 7, .inl f_13)), (a5, .inl (cy 0, 7, .inl g_4)), (a6, .inl (cy 0, 7, .inl g_5))] H := by rw [ef_13]; exact hP
      have hD : va_D A [(h0, .inr (5, [.ref a1, .ref a2, .ref a3, .ref a4, .ref a5, .ref a6, .ref a7, .ref a8, .ref a9, .ref a10, .int 0])), (a1, .inl (cy 0, 7, .inl f_12)), (a2, .inl (cy 0, 70, .inl f2)), (a3, .inl (cy 0, 49, .inl f3)), (a4, .inl (cy 0, 7, .inl f_13)), (a5, .inl (cy 0, 7, .inl g_4)), (a6, .inl (cy 0, 7, .inl g_5))] := by rw [ef_13]; exact hD
      rw [(nI_clamp (n := i1) (by omega))] at ef_13
      refine lv_aload_n hx hb dX4_clear_27 rfl (lv_at hl 0 rfl) ?_
      refine gf_X4_24 hx hb hts hown hK hP 0 rfl rfl dX4_clear_28 ?_
      refine lv_iload_n hx hb dX4_clear_31 rfl (lv_at hl 1 rfl) ?_
      refine lv_iconst (v := (-1)) hx hb dX4_clear_32 (by decide) ?_
      refine va_iast hx hb hK hP hD hS 5 0 rfl rfl (vp_in_nI (n := i1) (N := 7) (by omega) (by omega)) dX4_clear_33 (fun H locs hP hD hS => ?_)
      obtain ⟨f_14, ef_14⟩ : ∃ z : Nat → Int32, z = upd g_4 (Int32.toNatClampNeg (nI i1)) (-1) := ⟨_, rfl⟩
      have hP : va_P (dC, dI) vwCl [(h0, .inr (5, [.ref a1, .ref a2, .ref a3, .ref a4, .ref a5, .ref a6, .ref a7, .ref a8, .ref a9, .ref a10, .int 0])), (a1, .inl (cy 0, 7, .inl f_12)), (a2, .inl (cy 0, 70, .inl f2)), (a3, .inl (cy 0, 49, .inl f3)), (a4, .inl (cy 0, 7, .inl f_13)), (a5, .inl (cy 0, 7, .inl f_14)), (a6, .inl (cy 0, 7, .inl g_5))] H := by rw [ef_14]; exact hP
      have hD : va_D A [(h0, .inr (5, [.ref a1, .ref a2, .ref a3, .ref a4, .ref a5, .ref a6, .ref a7, .ref a8, .ref a9, .ref a10, .int 0])), (a1, .inl (cy 0, 7, .inl f_12)), (a2, .inl (cy 0, 70, .inl f2)), (a3, .inl (cy 0, 49, .inl f3)), (a4, .inl (cy 0, 7, .inl f_13)), (a5, .inl (cy 0, 7, .inl f_14)), (a6, .inl (cy 0, 7, .inl g_5))] := by rw [ef_14]; exact hD
      rw [(nI_clamp (n := i1) (by omega))] at ef_14
      refine lv_aload_n hx hb dX4_clear_34 rfl (lv_at hl 0 rfl) ?_
      refine gf_X4_27 hx hb hts hown hK hP 0 rfl rfl dX4_clear_35 ?_
      refine lv_iload_n hx hb dX4_clear_38 rfl (lv_at hl 1 rfl) ?_
      refine lv_iconst (v := 0) hx hb dX4_clear_39 (by decide) ?_
      refine va_iast hx hb hK hP hD hS 6 0 rfl rfl (vp_in_nI (n := i1) (N := 7) (by omega) (by omega)) dX4_clear_40 (fun H locs hP hD hS => ?_)
      obtain ⟨f_15, ef_15⟩ : ∃ z : Nat → Int32, z = upd g_5 (Int32.toNatClampNeg (nI i1)) 0 := ⟨_, rfl⟩
      have hP : va_P (dC, dI) vwCl [(h0, .inr (5, [.ref a1, .ref a2, .ref a3, .ref a4, .ref a5, .ref a6, .ref a7, .ref a8, .ref a9, .ref a10, .int 0])), (a1, .inl (cy 0, 7, .inl f_12)), (a2, .inl (cy 0, 70, .inl f2)), (a3, .inl (cy 0, 49, .inl f3)), (a4, .inl (cy 0, 7, .inl f_13)), (a5, .inl (cy 0, 7, .inl f_14)), (a6, .inl (cy 0, 7, .inl f_15))] H := by rw [ef_15]; exact hP
      have hD : va_D A [(h0, .inr (5, [.ref a1, .ref a2, .ref a3, .ref a4, .ref a5, .ref a6, .ref a7, .ref a8, .ref a9, .ref a10, .int 0])), (a1, .inl (cy 0, 7, .inl f_12)), (a2, .inl (cy 0, 70, .inl f2)), (a3, .inl (cy 0, 49, .inl f3)), (a4, .inl (cy 0, 7, .inl f_13)), (a5, .inl (cy 0, 7, .inl f_14)), (a6, .inl (cy 0, 7, .inl f_15))] := by rw [ef_15]; exact hD
      rw [(nI_clamp (n := i1) (by omega))] at ef_15
      refine lv_iinc (v := nI (i1 + 1)) (lv' := [(1, .int (nI (i1 + 1))), (0, .ref h0)]) hx hb dX4_clear_41 hl (k := 1) rfl (nI_add i1 1) (by decide) rfl (fun ls hl => ?_)
      refine lv_goto (tgt := 7) hx hb dX4_clear_44 (by decide) ?_
      exact ih1 (i1 + 1) f_12 f_13 f_14 f_15 (up0 ef_15 hs) (by omega) _ _ (hP.sub [0, 1, 2, 3, 4, 5, 6] rfl) (hD.sub [0, 1, 2, 3, 4, 5, 6] rfl rfl) hS ls (lv_sub hl [1, 0] rfl)
  exact loop1 7 0 f1 f4 f5 f6 (fun j h => absurd h (Nat.not_lt_zero j)) (by omega) _ _ hP hD hS ls (lv_sub hl [1, 0] rfl)
abbrev cX8_put : ByteArray := prog_10_method_2_code
def yX8_put : MethodName := ⟨RX8, "put", "(I)V"⟩
theorem t536 : Cond.code yX8_put cX8_put 3 none ∈ GW := gw_mem 650 (by decide +kernel) (by decide +kernel)
abbrev O_c_Tape_put (cy : Nat → ClassId) (h0 : Nat) (b1 : Nat) (b2 : Nat) (xlim : Int32) (xat : Int32) (xkd : Int32) (xstt : Int32) (xwd : Int32) (xco : Int64) (xnu : Int32) (xfk : Int32) (xfp : Int32) (num : Int32) (L : Nat) (fb : Nat → Int32) (u : (Nat → Int32)) : va_W := [(h0, .inr (9, [.ref b1, .ref b2, .int (nI (L + 4)), .int xlim, .int xat, .int xkd, .int xstt, .int xwd, .long xco, .int xnu, .int xfk, .int xfp])), (b1, .inl (cy 0, 940, .inl u))]
theorem dX8_put_0 : decode cX8_put 0 = .ok (.bipush 24, 2) := by decide +kernel
theorem dX8_put_2 : decode cX8_put 2 = .ok (.istore_n 2, 1) := by decide +kernel
theorem dX8_put_3 : decode cX8_put 3 = .ok (.iload_n 2, 1) := by decide +kernel
theorem dX8_put_4 : decode cX8_put 4 = .ok (.ifCond .lt 45, 3) := by decide +kernel
theorem dX8_put_7 : decode cX8_put 7 = .ok (.aload_n 0, 1) := by decide +kernel
theorem dX8_put_8 : decode cX8_put 8 = .ok (.getfield 33, 3) := by decide +kernel
theorem t97 : Cond.fieldLink RX8 33 "LikenessPound$Tape" "length" "I" ∈ GW := gw_mem 211 (by decide +kernel) (by decide +kernel)
theorem gf_X8_33 {p : Program} {l : Launch} {e : Env} {R : Room} {s : State} {m : MethodId} {args : Array Value} {below : List Frame} {meth : Method} {c : Code} {H : Heap} {locs : List Loc} {cells slots : Nat} {Q : State → Prop} {cc : ByteArray} {pc : Nat} {ls : Array Slot} {rest : List Value} {D : va_G} {a : Nat} {tys : List (ClassId × FieldType)} {ws : va_W} (hx : p.tables.exec = Jvm.exec) (hb : c.code = cc) (hts : ∀ w ∈ GW, w.before args s = true) (hown : s.vm.findClass RX8 = some m.cls) (hK : va_K D vwCl tys s) (hP : va_P D vwCl ws H) (q0 : Nat) {fs : List Value} (he : ws[q0]? = some (a, .inr (9, fs))) {v : Value} (hv : fs[2]? = some v) (hdg : decode cc pc = .ok (.getfield 33, 3)) (kk : W p l e R s m args below meth c H locs cells slots Q (F0 m (pc + 3) ls (v :: rest))) : W p l e R s m args below meth c H locs cells slots Q (F0 m pc ls (.ref a :: rest)) := va_get (C := RX8) (T := TX8) (N := 12) (ci := 9) hx hb hts inX8 hown hK hP q0 he rfl 2 (by decide) (hts _ t97) (fun _ h => h) hv hdg kk
theorem dX8_put_11 : decode cX8_put 11 = .ok (.sipush 940, 3) := by decide +kernel
theorem dX8_put_14 : decode cX8_put 14 = .ok (.if_icmp .ge 35, 3) := by decide +kernel
theorem dX8_put_17 : decode cX8_put 17 = .ok (.aload_n 0, 1) := by decide +kernel
theorem dX8_put_18 : decode cX8_put 18 = .ok (.getfield 9, 3) := by decide +kernel
theorem t93 : Cond.fieldLink RX8 9 "LikenessPound$Tape" "bytes" "[I" ∈ GW := gw_mem 207 (by decide +kernel) (by decide +kernel)
theorem gf_X8_9 {p : Program} {l : Launch} {e : Env} {R : Room} {s : State} {m : MethodId} {args : Array Value} {below : List Frame} {meth : Method} {c : Code} {H : Heap} {locs : List Loc} {cells slots : Nat} {Q : State → Prop} {cc : ByteArray} {pc : Nat} {ls : Array Slot} {rest : List Value} {D : va_G} {a : Nat} {tys : List (ClassId × FieldType)} {ws : va_W} (hx : p.tables.exec = Jvm.exec) (hb : c.code = cc) (hts : ∀ w ∈ GW, w.before args s = true) (hown : s.vm.findClass RX8 = some m.cls) (hK : va_K D vwCl tys s) (hP : va_P D vwCl ws H) (q0 : Nat) {fs : List Value} (he : ws[q0]? = some (a, .inr (9, fs))) {v : Value} (hv : fs[0]? = some v) (hdg : decode cc pc = .ok (.getfield 9, 3)) (kk : W p l e R s m args below meth c H locs cells slots Q (F0 m (pc + 3) ls (v :: rest))) : W p l e R s m args below meth c H locs cells slots Q (F0 m pc ls (.ref a :: rest)) := va_get (C := RX8) (T := TX8) (N := 12) (ci := 9) hx hb hts inX8 hown hK hP q0 he rfl 0 (by decide) (hts _ t93) (fun _ h => h) hv hdg kk
theorem dX8_put_21 : decode cX8_put 21 = .ok (.aload_n 0, 1) := by decide +kernel
theorem dX8_put_22 : decode cX8_put 22 = .ok (.getfield 33, 3) := by decide +kernel
theorem dX8_put_25 : decode cX8_put 25 = .ok (.iload_n 1, 1) := by decide +kernel
theorem dX8_put_26 : decode cX8_put 26 = .ok (.iload_n 2, 1) := by decide +kernel
theorem dX8_put_27 : decode cX8_put 27 = .ok (.iushr, 1) := by decide +kernel
theorem dX8_put_28 : decode cX8_put 28 = .ok (.sipush 255, 3) := by decide +kernel
theorem dX8_put_31 : decode cX8_put 31 = .ok (.iand, 1) := by decide +kernel
theorem dX8_put_32 : decode cX8_put 32 = .ok (.iastore, 1) := by decide +kernel
theorem dX8_put_33 : decode cX8_put 33 = .ok (.aload_n 0, 1) := by decide +kernel
theorem dX8_put_34 : decode cX8_put 34 = .ok (.dup, 1) := by decide +kernel
theorem dX8_put_35 : decode cX8_put 35 = .ok (.getfield 33, 3) := by decide +kernel
theorem dX8_put_38 : decode cX8_put 38 = .ok (.iconst 1, 1) := by decide +kernel
theorem dX8_put_39 : decode cX8_put 39 = .ok (.iadd, 1) := by decide +kernel
theorem dX8_put_40 : decode cX8_put 40 = .ok (.putfield 33, 3) := by decide +kernel
theorem pf_X8_33 {p : Program} {l : Launch} {e : Env} {R : Room} {s : State} {m : MethodId} {args : Array Value} {below : List Frame} {meth : Method} {c : Code} {H : Heap} {locs : List Loc} {cells slots : Nat} {Q : State → Prop} {cc : ByteArray} {pc : Nat} {ls : Array Slot} {rest : List Value} {D : va_G} {A : Nat → Prop} {a : Nat} {tys : List (ClassId × FieldType)} {ws : va_W} {H0 : Heap} (hx : p.tables.exec = Jvm.exec) (hb : c.code = cc) (hts : ∀ w ∈ GW, w.before args s = true) (hown : s.vm.findClass RX8 = some m.cls) (hK : va_K D vwCl tys s) (hP : va_P D vwCl ws H) (hD : va_D A ws) (hS0 : va_S A H0 H locs) (q0 : Nat) {fs : List Value} (he : ws[q0]? = some (a, .inr (9, fs))) {v : Value} (hn : narrow (tyX8 2) v = v) (hfit : fits (tyX8 2) v = true) (hl : 2 < fs.length) (hdg : decode cc pc = .ok (.putfield 33, 3)) (kk : ∀ (H1 : Heap) (locs1 : List Loc), va_P D vwCl (ws.set q0 (a, .inr (9, fs.set 2 v))) H1 → va_D A (ws.set q0 (a, .inr (9, fs.set 2 v))) → va_S A H0 H1 locs1 → W p l e R s m args below meth c H1 locs1 cells slots Q (F0 m (pc + 3) ls rest)) : W p l e R s m args below meth c H locs cells slots Q (F0 m pc ls (v :: .ref a :: rest)) := va_put (C := RX8) (T := TX8) (N := 12) (ci := 9) hx hb hts inX8 tyX8 tkX8 nmX8 hown hK hP hD hS0 q0 he rfl 2 (by decide) (hts _ t97) (fun _ h => h) rfl (tkX8 2 (by decide)) hn hfit hl hdg kk
theorem dX8_put_43 : decode cX8_put 43 = .ok (.iinc 2 (-8), 3) := by decide +kernel
theorem dX8_put_46 : decode cX8_put 46 = .ok (.goto (-43), 3) := by decide +kernel
theorem dX8_put_49 : decode cX8_put 49 = .ok (.return_, 1) := by decide +kernel
set_option maxHeartbeats 4000000 in
set_option maxRecDepth 100000 in
theorem c_Tape_put (l : Launch) (dC : Nat → ClassId) (dI : Nat → Nat → Nat) (cy : Nat → ClassId) (sz : Nat) (h0 : Nat) (b1 : Nat) (b2 : Nat) (xlim : Int32) (xat : Int32) (xkd : Int32) (xstt : Int32) (xwd : Int32) (xco : Int64) (xnu : Int32) (xfk : Int32) (xfp : Int32) (num : Int32) (L : Nat) (fb : Nat → Int32) (hL : L + 4 ≤ 940) : Met l yX8_put (wl yX8_put cX8_put 3 none) ({ frames := 0, cells := 0, slots := 0, locals := 0 }) (Pw (dC, dI) vwCl cy [(h0, .inr (9, [.ref b1, .ref b2, .int (nI L), .int xlim, .int xat, .int xkd, .int xstt, .int xwd, .long xco, .int xnu, .int xfk, .int xfp])), (b1, .inl (cy 0, 940, .inl fb))] sz [.ref h0, .int num] nE) (Qv (dC, dI) vwCl (fun (u : (Nat → Int32)) => True) (O_c_Tape_put cy h0 b1 b2 xlim xat xkd xstt xwd xco xnu xfk xfp num L fb) (va_A [(h0, .inr (9, [.ref b1, .ref b2, .int (nI L), .int xlim, .int xat, .int xkd, .int xstt, .int xwd, .long xco, .int xnu, .int xfk, .int xfp])), (b1, .inl (cy 0, 940, .inl fb))] sz)) 0 0 (va_A [(h0, .inr (9, [.ref b1, .ref b2, .int (nI L), .int xlim, .int xat, .int xkd, .int xstt, .int xwd, .long xco, .int xnu, .int xfk, .int xfp])), (b1, .inl (cy 0, 940, .inl fb))] sz) := by
  refine mw (Qc := Qv (dC, dI) vwCl (fun (u : (Nat → Int32)) => True) (O_c_Tape_put cy h0 b1 b2 xlim xat xkd xstt xwd xco xnu xfk xfp num L fb)) RX8 rfl (by decide +kernel) (Nat.le_of_ble_eq_true rfl) ?_
  intro p e s m below meth c A hx hb hr hlocks av9 hav hts hown hnm hml hK hP hD hA hS hE hAe Q9 hQ9 ls hl
  have hl : lv_has ls 3 [(0, .ref h0), (1, .int num)] := hl
  refine lv_bipush (v := 24) hx hb dX8_put_0 (by decide) ?_
  refine lv_istore_n (lv' := [(2, .int 24), (0, .ref h0), (1, .int num)]) hx hb dX8_put_2 rfl hl (by decide) rfl (fun ls hl => ?_)
  refine lv_iload_n hx hb dX8_put_3 rfl (lv_at hl 0 rfl) ?_
  refine lv_if_lt (tgt := 49) hx hb dX8_put_4 (by decide) (fun c9 => absurd c9 (by decide)) (fun _ => ?_)
  refine lv_aload_n hx hb dX8_put_7 rfl (lv_at hl 1 rfl) ?_
  refine gf_X8_33 hx hb hts hown hK hP 0 rfl rfl dX8_put_8 ?_
  refine lv_sipush (v := 940) hx hb dX8_put_11 (by decide) ?_
  refine lv_icmp_ge (tgt := 49) hx hb dX8_put_14 (by decide) (fun c9 => absurd c9 (nI_ge (b := 940) (by omega) (by decide))) (fun _ => ?_)
  refine lv_aload_n hx hb dX8_put_17 rfl (lv_at hl 1 rfl) ?_
  refine gf_X8_9 hx hb hts hown hK hP 0 rfl rfl dX8_put_18 ?_
  refine lv_aload_n hx hb dX8_put_21 rfl (lv_at hl 1 rfl) ?_
  refine gf_X8_33 hx hb hts hown hK hP 0 rfl rfl dX8_put_22 ?_
  refine lv_iload_n hx hb dX8_put_25 rfl (lv_at hl 2 rfl) ?_
  refine lv_iload_n hx hb dX8_put_26 rfl (lv_at hl 0 rfl) ?_
  obtain ⟨us_1, eus_1⟩ : ∃ z : Int32, (Int32.toUInt32 num >>> (Int32.toUInt32 24 &&& Int32.toUInt32 31)).toInt32 = z := ⟨_, rfl⟩
  refine lv_iushr (v := us_1) hx hb dX8_put_27 eus_1 ?_
  refine lv_sipush (v := 255) hx hb dX8_put_28 (by decide) ?_
  refine lv_iand hx hb dX8_put_31 ?_
  refine va_iast hx hb hK hP hD hS 1 0 rfl rfl (vp_in_nI (n := L) (N := 940) (by omega) (by omega)) dX8_put_32 (fun H locs hP hD hS => ?_)
  obtain ⟨f_2, ef_2⟩ : ∃ z : Nat → Int32, z = upd fb (Int32.toNatClampNeg (nI L)) (us_1 &&& 255) := ⟨_, rfl⟩
  have hP : va_P (dC, dI) vwCl [(h0, .inr (9, [.ref b1, .ref b2, .int (nI L), .int xlim, .int xat, .int xkd, .int xstt, .int xwd, .long xco, .int xnu, .int xfk, .int xfp])), (b1, .inl (cy 0, 940, .inl f_2))] H := by rw [ef_2]; exact hP
  have hD : va_D A [(h0, .inr (9, [.ref b1, .ref b2, .int (nI L), .int xlim, .int xat, .int xkd, .int xstt, .int xwd, .long xco, .int xnu, .int xfk, .int xfp])), (b1, .inl (cy 0, 940, .inl f_2))] := by rw [ef_2]; exact hD
  rw [(nI_clamp (n := L) (by omega))] at ef_2
  refine lv_aload_n hx hb dX8_put_33 rfl (lv_at hl 1 rfl) ?_
  refine lv_dup hx hb dX8_put_34 rfl ?_
  refine gf_X8_33 hx hb hts hown hK hP 0 rfl rfl dX8_put_35 ?_
  refine lv_iconst (v := 1) hx hb dX8_put_38 (by decide) ?_
  refine lv_iadd hx hb dX8_put_39 ?_
  refine as_i (nI (L + 1)) (nI_add L 1) ?_
  refine pf_X8_33 hx hb hts hown hK hP hD hS 0 rfl rfl rfl (Nat.le_of_ble_eq_true rfl) dX8_put_40 (fun H locs hP hD hS => ?_)
  have hP : va_P (dC, dI) vwCl [(h0, .inr (9, [.ref b1, .ref b2, .int (nI (L + 1)), .int xlim, .int xat, .int xkd, .int xstt, .int xwd, .long xco, .int xnu, .int xfk, .int xfp])), (b1, .inl (cy 0, 940, .inl f_2))] H := hP
  have hD : va_D A [(h0, .inr (9, [.ref b1, .ref b2, .int (nI (L + 1)), .int xlim, .int xat, .int xkd, .int xstt, .int xwd, .long xco, .int xnu, .int xfk, .int xfp])), (b1, .inl (cy 0, 940, .inl f_2))] := hD
  refine lv_iinc (v := 16) (lv' := [(2, .int 16), (0, .ref h0), (1, .int num)]) hx hb dX8_put_43 hl (k := 0) rfl (by decide) (by decide) rfl (fun ls hl => ?_)
  refine lv_goto (tgt := 3) hx hb dX8_put_46 (by decide) ?_
  refine lv_iload_n hx hb dX8_put_3 rfl (lv_at hl 0 rfl) ?_
  refine lv_if_lt (tgt := 49) hx hb dX8_put_4 (by decide) (fun c9 => absurd c9 (by decide)) (fun _ => ?_)
  refine lv_aload_n hx hb dX8_put_7 rfl (lv_at hl 1 rfl) ?_
  refine gf_X8_33 hx hb hts hown hK hP 0 rfl rfl dX8_put_8 ?_
  refine lv_sipush (v := 940) hx hb dX8_put_11 (by decide) ?_
  refine lv_icmp_ge (tgt := 49) hx hb dX8_put_14 (by decide) (fun c9 => absurd c9 (nI_ge (b := 940) (by omega) (by decide))) (fun _ => ?_)
  refine lv_aload_n hx hb dX8_put_17 rfl (lv_at hl 1 rfl) ?_
  refine gf_X8_9 hx hb hts hown hK hP 0 rfl rfl dX8_put_18 ?_
  refine lv_aload_n hx hb dX8_put_21 rfl (lv_at hl 1 rfl) ?_
  refine gf_X8_33 hx hb hts hown hK hP 0 rfl rfl dX8_put_22 ?_
  refine lv_iload_n hx hb dX8_put_25 rfl (lv_at hl 2 rfl) ?_
  refine lv_iload_n hx hb dX8_put_26 rfl (lv_at hl 0 rfl) ?_
  obtain ⟨us_3, eus_3⟩ : ∃ z : Int32, (Int32.toUInt32 num >>> (Int32.toUInt32 16 &&& Int32.toUInt32 31)).toInt32 = z := ⟨_, rfl⟩
  refine lv_iushr (v := us_3) hx hb dX8_put_27 eus_3 ?_
  refine lv_sipush (v := 255) hx hb dX8_put_28 (by decide) ?_
  refine lv_iand hx hb dX8_put_31 ?_
  refine va_iast hx hb hK hP hD hS 1 0 rfl rfl (vp_in_nI (n := (L + 1)) (N := 940) (by omega) (by omega)) dX8_put_32 (fun H locs hP hD hS => ?_)
  obtain ⟨f_4, ef_4⟩ : ∃ z : Nat → Int32, z = upd f_2 (Int32.toNatClampNeg (nI (L + 1))) (us_3 &&& 255) := ⟨_, rfl⟩
  have hP : va_P (dC, dI) vwCl [(h0, .inr (9, [.ref b1, .ref b2, .int (nI (L + 1)), .int xlim, .int xat, .int xkd, .int xstt, .int xwd, .long xco, .int xnu, .int xfk, .int xfp])), (b1, .inl (cy 0, 940, .inl f_4))] H := by rw [ef_4]; exact hP
  have hD : va_D A [(h0, .inr (9, [.ref b1, .ref b2, .int (nI (L + 1)), .int xlim, .int xat, .int xkd, .int xstt, .int xwd, .long xco, .int xnu, .int xfk, .int xfp])), (b1, .inl (cy 0, 940, .inl f_4))] := by rw [ef_4]; exact hD
  rw [(nI_clamp (n := (L + 1)) (by omega))] at ef_4
  refine lv_aload_n hx hb dX8_put_33 rfl (lv_at hl 1 rfl) ?_
  refine lv_dup hx hb dX8_put_34 rfl ?_
  refine gf_X8_33 hx hb hts hown hK hP 0 rfl rfl dX8_put_35 ?_
  refine lv_iconst (v := 1) hx hb dX8_put_38 (by decide) ?_
  refine lv_iadd hx hb dX8_put_39 ?_
  refine as_i (nI ((L + 1) + 1)) (nI_add (L + 1) 1) ?_
  refine pf_X8_33 hx hb hts hown hK hP hD hS 0 rfl rfl rfl (Nat.le_of_ble_eq_true rfl) dX8_put_40 (fun H locs hP hD hS => ?_)
  have hP : va_P (dC, dI) vwCl [(h0, .inr (9, [.ref b1, .ref b2, .int (nI ((L + 1) + 1)), .int xlim, .int xat, .int xkd, .int xstt, .int xwd, .long xco, .int xnu, .int xfk, .int xfp])), (b1, .inl (cy 0, 940, .inl f_4))] H := hP
  have hD : va_D A [(h0, .inr (9, [.ref b1, .ref b2, .int (nI ((L + 1) + 1)), .int xlim, .int xat, .int xkd, .int xstt, .int xwd, .long xco, .int xnu, .int xfk, .int xfp])), (b1, .inl (cy 0, 940, .inl f_4))] := hD
  refine lv_iinc (v := 8) (lv' := [(2, .int 8), (0, .ref h0), (1, .int num)]) hx hb dX8_put_43 hl (k := 0) rfl (by decide) (by decide) rfl (fun ls hl => ?_)
  refine lv_goto (tgt := 3) hx hb dX8_put_46 (by decide) ?_
  refine lv_iload_n hx hb dX8_put_3 rfl (lv_at hl 0 rfl) ?_
  refine lv_if_lt (tgt := 49) hx hb dX8_put_4 (by decide) (fun c9 => absurd c9 (by decide)) (fun _ => ?_)
  refine lv_aload_n hx hb dX8_put_7 rfl (lv_at hl 1 rfl) ?_
  refine gf_X8_33 hx hb hts hown hK hP 0 rfl rfl dX8_put_8 ?_
  refine lv_sipush (v := 940) hx hb dX8_put_11 (by decide) ?_
  refine lv_icmp_ge (tgt := 49) hx hb dX8_put_14 (by decide) (fun c9 => absurd c9 (nI_ge (b := 940) (by omega) (by decide))) (fun _ => ?_)
  refine lv_aload_n hx hb dX8_put_17 rfl (lv_at hl 1 rfl) ?_
  refine gf_X8_9 hx hb hts hown hK hP 0 rfl rfl dX8_put_18 ?_
  refine lv_aload_n hx hb dX8_put_21 rfl (lv_at hl 1 rfl) ?_
  refine gf_X8_33 hx hb hts hown hK hP 0 rfl rfl dX8_put_22 ?_
  refine lv_iload_n hx hb dX8_put_25 rfl (lv_at hl 2 rfl) ?_
  refine lv_iload_n hx hb dX8_put_26 rfl (lv_at hl 0 rfl) ?_
  obtain ⟨us_5, eus_5⟩ : ∃ z : Int32, (Int32.toUInt32 num >>> (Int32.toUInt32 8 &&& Int32.toUInt32 31)).toInt32 = z := ⟨_, rfl⟩
  refine lv_iushr (v := us_5) hx hb dX8_put_27 eus_5 ?_
  refine lv_sipush (v := 255) hx hb dX8_put_28 (by decide) ?_
  refine lv_iand hx hb dX8_put_31 ?_
  refine va_iast hx hb hK hP hD hS 1 0 rfl rfl (vp_in_nI (n := ((L + 1) + 1)) (N := 940) (by omega) (by omega)) dX8_put_32 (fun H locs hP hD hS => ?_)
  obtain ⟨f_6, ef_6⟩ : ∃ z : Nat → Int32, z = upd f_4 (Int32.toNatClampNeg (nI ((L + 1) + 1))) (us_5 &&& 255) := ⟨_, rfl⟩
  have hP : va_P (dC, dI) vwCl [(h0, .inr (9, [.ref b1, .ref b2, .int (nI ((L + 1) + 1)), .int xlim, .int xat, .int xkd, .int xstt, .int xwd, .long xco, .int xnu, .int xfk, .int xfp])), (b1, .inl (cy 0, 940, .inl f_6))] H := by rw [ef_6]; exact hP
  have hD : va_D A [(h0, .inr (9, [.ref b1, .ref b2, .int (nI ((L + 1) + 1)), .int xlim, .int xat, .int xkd, .int xstt, .int xwd, .long xco, .int xnu, .int xfk, .int xfp])), (b1, .inl (cy 0, 940, .inl f_6))] := by rw [ef_6]; exact hD
  rw [(nI_clamp (n := ((L + 1) + 1)) (by omega))] at ef_6
  refine lv_aload_n hx hb dX8_put_33 rfl (lv_at hl 1 rfl) ?_
  refine lv_dup hx hb dX8_put_34 rfl ?_
  refine gf_X8_33 hx hb hts hown hK hP 0 rfl rfl dX8_put_35 ?_
  refine lv_iconst (v := 1) hx hb dX8_put_38 (by decide) ?_
  refine lv_iadd hx hb dX8_put_39 ?_
  refine as_i (nI (((L + 1) + 1) + 1)) (nI_add ((L + 1) + 1) 1) ?_
  refine pf_X8_33 hx hb hts hown hK hP hD hS 0 rfl rfl rfl (Nat.le_of_ble_eq_true rfl) dX8_put_40 (fun H locs hP hD hS => ?_)
  have hP : va_P (dC, dI) vwCl [(h0, .inr (9, [.ref b1, .ref b2, .int (nI (((L + 1) + 1) + 1)), .int xlim, .int xat, .int xkd, .int xstt, .int xwd, .long xco, .int xnu, .int xfk, .int xfp])), (b1, .inl (cy 0, 940, .inl f_6))] H := hP
  have hD : va_D A [(h0, .inr (9, [.ref b1, .ref b2, .int (nI (((L + 1) + 1) + 1)), .int xlim, .int xat, .int xkd, .int xstt, .int xwd, .long xco, .int xnu, .int xfk, .int xfp])), (b1, .inl (cy 0, 940, .inl f_6))] := hD
  refine lv_iinc (v := 0) (lv' := [(2, .int 0), (0, .ref h0), (1, .int num)]) hx hb dX8_put_43 hl (k := 0) rfl (by decide) (by decide) rfl (fun ls hl => ?_)
  refine lv_goto (tgt := 3) hx hb dX8_put_46 (by decide) ?_
  refine lv_iload_n hx hb dX8_put_3 rfl (lv_at hl 0 rfl) ?_
  refine lv_if_lt (tgt := 49) hx hb dX8_put_4 (by decide) (fun c9 => absurd c9 (by decide)) (fun _ => ?_)
  refine lv_aload_n hx hb dX8_put_7 rfl (lv_at hl 1 rfl) ?_
  refine gf_X8_33 hx hb hts hown hK hP 0 rfl rfl dX8_put_8 ?_
  refine lv_sipush (v := 940) hx hb dX8_put_11 (by decide) ?_
  refine lv_icmp_ge (tgt := 49) hx hb dX8_put_14 (by decide) (fun c9 => absurd c9 (nI_ge (b := 940) (by omega) (by decide))) (fun _ => ?_)
  refine lv_aload_n hx hb dX8_put_17 rfl (lv_at hl 1 rfl) ?_
  refine gf_X8_9 hx hb hts hown hK hP 0 rfl rfl dX8_put_18 ?_
  refine lv_aload_n hx hb dX8_put_21 rfl (lv_at hl 1 rfl) ?_
  refine gf_X8_33 hx hb hts hown hK hP 0 rfl rfl dX8_put_22 ?_
  refine lv_iload_n hx hb dX8_put_25 rfl (lv_at hl 2 rfl) ?_
  refine lv_iload_n hx hb dX8_put_26 rfl (lv_at hl 0 rfl) ?_
  obtain ⟨us_7, eus_7⟩ : ∃ z : Int32, (Int32.toUInt32 num >>> (Int32.toUInt32 0 &&& Int32.toUInt32 31)).toInt32 = z := ⟨_, rfl⟩
  refine lv_iushr (v := us_7) hx hb dX8_put_27 eus_7 ?_
  refine lv_sipush (v := 255) hx hb dX8_put_28 (by decide) ?_
  refine lv_iand hx hb dX8_put_31 ?_
  refine va_iast hx hb hK hP hD hS 1 0 rfl rfl (vp_in_nI (n := (((L + 1) + 1) + 1)) (N := 940) (by omega) (by omega)) dX8_put_32 (fun H locs hP hD hS => ?_)
  obtain ⟨f_8, ef_8⟩ : ∃ z : Nat → Int32, z = upd f_6 (Int32.toNatClampNeg (nI (((L + 1) + 1) + 1))) (us_7 &&& 255) := ⟨_, rfl⟩
  have hP : va_P (dC, dI) vwCl [(h0, .inr (9, [.ref b1, .ref b2, .int (nI (((L + 1) + 1) + 1)), .int xlim, .int xat, .int xkd, .int xstt, .int xwd, .long xco, .int xnu, .int xfk, .int xfp])), (b1, .inl (cy 0, 940, .inl f_8))] H := by rw [ef_8]; exact hP
  have hD : va_D A [(h0, .inr (9, [.ref b1, .ref b2, .int (nI (((L + 1) + 1) + 1)), .int xlim, .int xat, .int xkd, .int xstt, .int xwd, .long xco, .int xnu, .int xfk, .int xfp])), (b1, .inl (cy 0, 940, .inl f_8))] := by rw [ef_8]; exact hD
  rw [(nI_clamp (n := (((L + 1) + 1) + 1)) (by omega))] at ef_8
  refine lv_aload_n hx hb dX8_put_33 rfl (lv_at hl 1 rfl) ?_
  refine lv_dup hx hb dX8_put_34 rfl ?_
  refine gf_X8_33 hx hb hts hown hK hP 0 rfl rfl dX8_put_35 ?_
  refine lv_iconst (v := 1) hx hb dX8_put_38 (by decide) ?_
  refine lv_iadd hx hb dX8_put_39 ?_
  refine as_i (nI ((((L + 1) + 1) + 1) + 1)) (nI_add (((L + 1) + 1) + 1) 1) ?_
  refine pf_X8_33 hx hb hts hown hK hP hD hS 0 rfl rfl rfl (Nat.le_of_ble_eq_true rfl) dX8_put_40 (fun H locs hP hD hS => ?_)
  have hP : va_P (dC, dI) vwCl [(h0, .inr (9, [.ref b1, .ref b2, .int (nI ((((L + 1) + 1) + 1) + 1)), .int xlim, .int xat, .int xkd, .int xstt, .int xwd, .long xco, .int xnu, .int xfk, .int xfp])), (b1, .inl (cy 0, 940, .inl f_8))] H := hP
  have hD : va_D A [(h0, .inr (9, [.ref b1, .ref b2, .int (nI ((((L + 1) + 1) + 1) + 1)), .int xlim, .int xat, .int xkd, .int xstt, .int xwd, .long xco, .int xnu, .int xfk, .int xfp])), (b1, .inl (cy 0, 940, .inl f_8))] := hD
  refine lv_iinc (v := (-8)) (lv' := [(2, .int (-8)), (0, .ref h0), (1, .int num)]) hx hb dX8_put_43 hl (k := 0) rfl (by decide) (by decide) rfl (fun ls hl => ?_)
  refine lv_goto (tgt := 3) hx hb dX8_put_46 (by decide) ?_
  refine lv_iload_n hx hb dX8_put_3 rfl (lv_at hl 0 rfl) ?_
  refine lv_if_lt (tgt := 49) hx hb dX8_put_4 (by decide) (fun _ => ?_) (fun c9 => absurd (by decide) c9)
  rw [hQ9]
  exact re_v f_8 hx hb hr hlocks trivial (hP.sub [0, 1] rfl) (hD.sub [0, 1] rfl rfl) hS dX8_put_49
def endF (x : Int32) : Int32 := if x = 0 then 1 else 0
theorem endF_lo {x : Int32} (h : x < 0) : endF x = 0 := if_neg (fun e => by rw [e] at h; exact absurd h (by decide))
theorem endF_hi {x : Int32} (h : ¬ x ≤ 0) : endF x = 0 := if_neg (fun e => by rw [e] at h; exact h (by decide))
theorem endF_in {x : Int32} (h : ¬ x < 0) (h2 : x ≤ 0) : endF x = 1 := if_pos (Int32.le_antisymm h2 (Int32.not_lt.mp h))
abbrev cX10_feed : ByteArray := prog_1_method_2_code
def yX10_feed : MethodName := ⟨RX10, "feed", "(IIIII)I"⟩
theorem t532 : Cond.code yX10_feed cX10_feed 6 (some .int) ∈ GW := gw_mem 646 (by decide +kernel) (by decide +kernel)
theorem dX10_feed_0 : decode cX10_feed 0 = .ok (.aload_n 0, 1) := by decide +kernel
theorem dX10_feed_1 : decode cX10_feed 1 = .ok (.getfield 10, 3) := by decide +kernel
theorem dX10_feed_4 : decode cX10_feed 4 = .ok (.getfield 87, 3) := by decide +kernel
theorem dX10_feed_7 : decode cX10_feed 7 = .ok (.sipush 920, 3) := by decide +kernel
theorem dX10_feed_10 : decode cX10_feed 10 = .ok (.if_icmp .le 5, 3) := by decide +kernel
theorem dX10_feed_15 : decode cX10_feed 15 = .ok (.aload_n 0, 1) := by decide +kernel
theorem dX10_feed_16 : decode cX10_feed 16 = .ok (.getfield 10, 3) := by decide +kernel
theorem dX10_feed_19 : decode cX10_feed 19 = .ok (.iload_n 1, 1) := by decide +kernel
theorem dX10_feed_20 : decode cX10_feed 20 = .ok (.invokevirtual 90, 3) := by decide +kernel
theorem t533 : Cond.methodLink RX10 90 yX8_put ∈ GW := gw_mem 647 (by decide +kernel) (by decide +kernel)
theorem t2 : Cond.initialized RX8 ∈ GW := gw_mem 116 (by decide +kernel) (by decide +kernel)
theorem t534 : Cond.instanceMethod yX8_put ∈ GW := gw_mem 648 (by decide +kernel) (by decide +kernel)
theorem t535 : Cond.selects RX8 yX8_put yX8_put ∈ GW := gw_mem 649 (by decide +kernel) (by decide +kernel)
theorem cw_X10_90 {R : Room} {s : State} {args : Array Value} {rm : Room} {mc ms : Nat} (hts : ∀ w ∈ GW, w.before args s = true) (hrc : rm.cells = mc) (hrs : rm.slots = ms) (hR : rm.frames + 1 ≤ R.frames ∧ 8 + (3 + 11) + rm.locals ≤ R.locals) : CallW R s args RX10 RX8 90 yX8_put cX8_put 3 none (wl yX8_put cX8_put 3 none) rm mc ms 1 := cwV 1 hts (gi_V t533 t534 t535 t2 t536) rfl hrc hrs (by decide +kernel) hR
theorem dX10_feed_23 : decode cX10_feed 23 = .ok (.aload_n 0, 1) := by decide +kernel
theorem dX10_feed_24 : decode cX10_feed 24 = .ok (.getfield 10, 3) := by decide +kernel
theorem dX10_feed_27 : decode cX10_feed 27 = .ok (.iload_n 2, 1) := by decide +kernel
theorem dX10_feed_28 : decode cX10_feed 28 = .ok (.invokevirtual 90, 3) := by decide +kernel
theorem dX10_feed_31 : decode cX10_feed 31 = .ok (.aload_n 0, 1) := by decide +kernel
theorem dX10_feed_32 : decode cX10_feed 32 = .ok (.getfield 10, 3) := by decide +kernel
theorem dX10_feed_35 : decode cX10_feed 35 = .ok (.iload_n 3, 1) := by decide +kernel
theorem dX10_feed_36 : decode cX10_feed 36 = .ok (.invokevirtual 90, 3) := by decide +kernel
theorem dX10_feed_39 : decode cX10_feed 39 = .ok (.aload_n 0, 1) := by decide +kernel
theorem dX10_feed_40 : decode cX10_feed 40 = .ok (.getfield 10, 3) := by decide +kernel
theorem dX10_feed_43 : decode cX10_feed 43 = .ok (.iload 4, 2) := by decide +kernel
theorem dX10_feed_45 : decode cX10_feed 45 = .ok (.invokevirtual 90, 3) := by decide +kernel
theorem dX10_feed_48 : decode cX10_feed 48 = .ok (.aload_n 0, 1) := by decide +kernel
theorem dX10_feed_49 : decode cX10_feed 49 = .ok (.getfield 10, 3) := by decide +kernel
theorem dX10_feed_52 : decode cX10_feed 52 = .ok (.iload 5, 2) := by decide +kernel
theorem dX10_feed_54 : decode cX10_feed 54 = .ok (.invokevirtual 90, 3) := by decide +kernel
theorem dX10_feed_57 : decode cX10_feed 57 = .ok (.aload_n 0, 1) := by decide +kernel
theorem dX10_feed_58 : decode cX10_feed 58 = .ok (.getfield 10, 3) := by decide +kernel
theorem dX10_feed_61 : decode cX10_feed 61 = .ok (.getfield 87, 3) := by decide +kernel
theorem dX10_feed_64 : decode cX10_feed 64 = .ok (.ireturn, 1) := by decide +kernel
set_option maxHeartbeats 4000000 in
set_option maxRecDepth 100000 in
theorem k_feed (l : Launch) (dC : Nat → ClassId) (dI : Nat → Nat → Nat) (cy : Nat → ClassId) (sz : Nat) (ad : Nat → Nat) (ai : Nat → Nat → Int32) (n0 : Int32) (n1 : Int32) (n2 : Int32) (n3 : Int32) (n4 : Int32)  : Met l yX10_feed (wl yX10_feed cX10_feed 6 (some .int)) ({ frames := 1, cells := 0, slots := 0, locals := 64 }) (Pw (dC, dI) vwCl cy [(ad 0, .inr (11, [.ref (ad 1), .ref (ad 4), .ref (ad 5), .ref (ad 10), .ref (ad 23), .ref (ad 24), .ref (ad 25), .ref (ad 27), .ref (ad 28), .ref (ad 29), .ref (ad 30), .ref (ad 31), .ref (ad 54), .int 0, .int (-1), .int 0, .int 0])), (ad 1, .inr (9, [.ref (ad 2), .ref (ad 3), .int 0, .int 0, .int 0, .int 0, .int 0, .int 0, .long 0, .int 0, .int 0, .int 0])), (ad 2, .inl (cy 0, 940, .inl (ai 2)))] sz [.ref (ad 0), .int n0, .int n1, .int n2, .int n3, .int n4] nE) (Qi (dC, dI) vwCl (fun (r : Int32) (u : Unit) => r = 20) (fun (u : Unit) => []) (va_A [(ad 0, .inr (11, [.ref (ad 1), .ref (ad 4), .ref (ad 5), .ref (ad 10), .ref (ad 23), .ref (ad 24), .ref (ad 25), .ref (ad 27), .ref (ad 28), .ref (ad 29), .ref (ad 30), .ref (ad 31), .ref (ad 54), .int 0, .int (-1), .int 0, .int 0])), (ad 1, .inr (9, [.ref (ad 2), .ref (ad 3), .int 0, .int 0, .int 0, .int 0, .int 0, .int 0, .long 0, .int 0, .int 0, .int 0])), (ad 2, .inl (cy 0, 940, .inl (ai 2)))] sz)) 0 0 (va_A [(ad 0, .inr (11, [.ref (ad 1), .ref (ad 4), .ref (ad 5), .ref (ad 10), .ref (ad 23), .ref (ad 24), .ref (ad 25), .ref (ad 27), .ref (ad 28), .ref (ad 29), .ref (ad 30), .ref (ad 31), .ref (ad 54), .int 0, .int (-1), .int 0, .int 0])), (ad 1, .inr (9, [.ref (ad 2), .ref (ad 3), .int 0, .int 0, .int 0, .int 0, .int 0, .int 0, .long 0, .int 0, .int 0, .int 0])), (ad 2, .inl (cy 0, 940, .inl (ai 2)))] sz) := by
  refine mw (Qc := Qi (dC, dI) vwCl (fun (r : Int32) (u : Unit) => r = 20) (fun (u : Unit) => [])) RX10 rfl (by decide +kernel) (Nat.le_of_ble_eq_true rfl) ?_
  intro p e s m below meth c A hx hb hr hlocks av9 hav hts hown hnm hml hK hP hD hA hS hE hAe Q9 hQ9 ls hl
  have hl : lv_has ls 6 [(0, .ref (ad 0)), (1, .int n0), (2, .int n1), (3, .int n2), (4, .int n3), (5, .int n4)] := hl
  refine lv_aload_n hx hb dX10_feed_0 rfl (lv_at hl 0 rfl) ?_
  refine gf_X10_10 hx hb hts hown hK hP 0 rfl rfl dX10_feed_1 ?_
  refine gf_X10_87 hx hb hts hown hK hP 1 rfl rfl dX10_feed_4 ?_
  refine lv_sipush (v := 920) hx hb dX10_feed_7 (by decide) ?_
  refine lv_icmp_le (tgt := 15) hx hb dX10_feed_10 (by decide) (fun _ => ?_) (fun c9 => absurd (by decide) c9)
  refine lv_aload_n hx hb dX10_feed_15 rfl (lv_at hl 0 rfl) ?_
  refine gf_X10_10 hx hb hts hown hK hP 0 rfl rfl dX10_feed_16 ?_
  refine lv_iload_n hx hb dX10_feed_19 rfl (lv_at hl 1 rfl) ?_
  refine jn_v (wr := [(ad 0, .inr (11, [.ref (ad 1), .ref (ad 4), .ref (ad 5), .ref (ad 10), .ref (ad 23), .ref (ad 24), .ref (ad 25), .ref (ad 27), .ref (ad 28), .ref (ad 29), .ref (ad 30), .ref (ad 31), .ref (ad 54), .int 0, .int (-1), .int 0, .int 0]))]) (rV (As := [.int n0]) (rest := []) (ci := 9) ⟨hx, hb, hml, hown, hts⟩ (c_Tape_put l dC dI cy _ (ad 1) (ad 2) (ad 3) 0 0 0 0 0 0 0 0 0 n0 0 (ai 2) (by omega)) (cw_X10_90 hts rfl rfl ⟨Nat.le_of_ble_eq_true rfl, Nat.le_of_ble_eq_true rfl⟩) hP hD hK [1, 2] rfl rfl rfl rfl bl0 e0 rfl hl.1 rfl (Nat.le_of_ble_eq_true rfl) dX10_feed_20 ⟨Nat.le_of_ble_eq_true rfl, Nat.le_of_ble_eq_true rfl⟩) hP hD hS hA [1, 2] [0] rfl rfl rfl (by decide) (fun u_3 H locs hp_2 hP hD hS => ?_)
  obtain ⟨ob_4, rfl⟩ : ∃ z, z = u_3 := ⟨_, rfl⟩
  have hp_2 : True := hp_2
  have hP : va_P (dC, dI) vwCl [(ad 0, .inr (11, [.ref (ad 1), .ref (ad 4), .ref (ad 5), .ref (ad 10), .ref (ad 23), .ref (ad 24), .ref (ad 25), .ref (ad 27), .ref (ad 28), .ref (ad 29), .ref (ad 30), .ref (ad 31), .ref (ad 54), .int 0, .int (-1), .int 0, .int 0])), (ad 1, .inr (9, [.ref (ad 2), .ref (ad 3), .int (nI (0 + 4)), .int 0, .int 0, .int 0, .int 0, .int 0, .long 0, .int 0, .int 0, .int 0])), (ad 2, .inl (cy 0, 940, .inl ob_4))] H := hP
  have hD : va_D A [(ad 0, .inr (11, [.ref (ad 1), .ref (ad 4), .ref (ad 5), .ref (ad 10), .ref (ad 23), .ref (ad 24), .ref (ad 25), .ref (ad 27), .ref (ad 28), .ref (ad 29), .ref (ad 30), .ref (ad 31), .ref (ad 54), .int 0, .int (-1), .int 0, .int 0])), (ad 1, .inr (9, [.ref (ad 2), .ref (ad 3), .int (nI (0 + 4)), .int 0, .int 0, .int 0, .int 0, .int 0, .long 0, .int 0, .int 0, .int 0])), (ad 2, .inl (cy 0, 940, .inl ob_4))] := hD
  refine lv_aload_n hx hb dX10_feed_23 rfl (lv_at hl 0 rfl) ?_
  refine gf_X10_10 hx hb hts hown hK hP 0 rfl rfl dX10_feed_24 ?_
  refine lv_iload_n hx hb dX10_feed_27 rfl (lv_at hl 2 rfl) ?_
  refine jn_v (wr := [(ad 0, .inr (11, [.ref (ad 1), .ref (ad 4), .ref (ad 5), .ref (ad 10), .ref (ad 23), .ref (ad 24), .ref (ad 25), .ref (ad 27), .ref (ad 28), .ref (ad 29), .ref (ad 30), .ref (ad 31), .ref (ad 54), .int 0, .int (-1), .int 0, .int 0]))]) (rV (As := [.int n1]) (rest := []) (ci := 9) ⟨hx, hb, hml, hown, hts⟩ (c_Tape_put l dC dI cy _ (ad 1) (ad 2) (ad 3) 0 0 0 0 0 0 0 0 0 n1 (0 + 4) ob_4 (by omega)) (cw_X10_90 hts rfl rfl ⟨Nat.le_of_ble_eq_true rfl, Nat.le_of_ble_eq_true rfl⟩) hP hD hK [1, 2] rfl rfl rfl rfl bl0 e0 rfl hl.1 rfl (Nat.le_of_ble_eq_true rfl) dX10_feed_28 ⟨Nat.le_of_ble_eq_true rfl, Nat.le_of_ble_eq_true rfl⟩) hP hD hS hA [1, 2] [0] rfl rfl rfl (by decide) (fun u_7 H locs hp_6 hP hD hS => ?_)
  obtain ⟨ob_8, rfl⟩ : ∃ z, z = u_7 := ⟨_, rfl⟩
  have hp_6 : True := hp_6
  have hP : va_P (dC, dI) vwCl [(ad 0, .inr (11, [.ref (ad 1), .ref (ad 4), .ref (ad 5), .ref (ad 10), .ref (ad 23), .ref (ad 24), .ref (ad 25), .ref (ad 27), .ref (ad 28), .ref (ad 29), .ref (ad 30), .ref (ad 31), .ref (ad 54), .int 0, .int (-1), .int 0, .int 0])), (ad 1, .inr (9, [.ref (ad 2), .ref (ad 3), .int (nI ((0 + 4) + 4)), .int 0, .int 0, .int 0, .int 0, .int 0, .long 0, .int 0, .int 0, .int 0])), (ad 2, .inl (cy 0, 940, .inl ob_8))] H := hP
  have hD : va_D A [(ad 0, .inr (11, [.ref (ad 1), .ref (ad 4), .ref (ad 5), .ref (ad 10), .ref (ad 23), .ref (ad 24), .ref (ad 25), .ref (ad 27), .ref (ad 28), .ref (ad 29), .ref (ad 30), .ref (ad 31), .ref (ad 54), .int 0, .int (-1), .int 0, .int 0])), (ad 1, .inr (9, [.ref (ad 2), .ref (ad 3), .int (nI ((0 + 4) + 4)), .int 0, .int 0, .int 0, .int 0, .int 0, .long 0, .int 0, .int 0, .int 0])), (ad 2, .inl (cy 0, 940, .inl ob_8))] := hD
  refine lv_aload_n hx hb dX10_feed_31 rfl (lv_at hl 0 rfl) ?_
  refine gf_X10_10 hx hb hts hown hK hP 0 rfl rfl dX10_feed_32 ?_
  refine lv_iload_n hx hb dX10_feed_35 rfl (lv_at hl 3 rfl) ?_
  refine jn_v (wr := [(ad 0, .inr (11, [.ref (ad 1), .ref (ad 4), .ref (ad 5), .ref (ad 10), .ref (ad 23), .ref (ad 24), .ref (ad 25), .ref (ad 27), .ref (ad 28), .ref (ad 29), .ref (ad 30), .ref (ad 31), .ref (ad 54), .int 0, .int (-1), .int 0, .int 0]))]) (rV (As := [.int n2]) (rest := []) (ci := 9) ⟨hx, hb, hml, hown, hts⟩ (c_Tape_put l dC dI cy _ (ad 1) (ad 2) (ad 3) 0 0 0 0 0 0 0 0 0 n2 ((0 + 4) + 4) ob_8 (by omega)) (cw_X10_90 hts rfl rfl ⟨Nat.le_of_ble_eq_true rfl, Nat.le_of_ble_eq_true rfl⟩) hP hD hK [1, 2] rfl rfl rfl rfl bl0 e0 rfl hl.1 rfl (Nat.le_of_ble_eq_true rfl) dX10_feed_36 ⟨Nat.le_of_ble_eq_true rfl, Nat.le_of_ble_eq_true rfl⟩) hP hD hS hA [1, 2] [0] rfl rfl rfl (by decide) (fun u_11 H locs hp_10 hP hD hS => ?_)
  obtain ⟨ob_12, rfl⟩ : ∃ z, z = u_11 := ⟨_, rfl⟩
  have hp_10 : True := hp_10
  have hP : va_P (dC, dI) vwCl [(ad 0, .inr (11, [.ref (ad 1), .ref (ad 4), .ref (ad 5), .ref (ad 10), .ref (ad 23), .ref (ad 24), .ref (ad 25), .ref (ad 27), .ref (ad 28), .ref (ad 29), .ref (ad 30), .ref (ad 31), .ref (ad 54), .int 0, .int (-1), .int 0, .int 0])), (ad 1, .inr (9, [.ref (ad 2), .ref (ad 3), .int (nI (((0 + 4) + 4) + 4)), .int 0, .int 0, .int 0, .int 0, .int 0, .long 0, .int 0, .int 0, .int 0])), (ad 2, .inl (cy 0, 940, .inl ob_12))] H := hP
  have hD : va_D A [(ad 0, .inr (11, [.ref (ad 1), .ref (ad 4), .ref (ad 5), .ref (ad 10), .ref (ad 23), .ref (ad 24), .ref (ad 25), .ref (ad 27), .ref (ad 28), .ref (ad 29), .ref (ad 30), .ref (ad 31), .ref (ad 54), .int 0, .int (-1), .int 0, .int 0])), (ad 1, .inr (9, [.ref (ad 2), .ref (ad 3), .int (nI (((0 + 4) + 4) + 4)), .int 0, .int 0, .int 0, .int 0, .int 0, .long 0, .int 0, .int 0, .int 0])), (ad 2, .inl (cy 0, 940, .inl ob_12))] := hD
  refine lv_aload_n hx hb dX10_feed_39 rfl (lv_at hl 0 rfl) ?_
  refine gf_X10_10 hx hb hts hown hK hP 0 rfl rfl dX10_feed_40 ?_
  refine lv_iload hx hb dX10_feed_43 (lv_at hl 4 rfl) ?_
  refine jn_v (wr := [(ad 0, .inr (11, [.ref (ad 1), .ref (ad 4), .ref (ad 5), .ref (ad 10), .ref (ad 23), .ref (ad 24), .ref (ad 25), .ref (ad 27), .ref (ad 28), .ref (ad 29), .ref (ad 30), .ref (ad 31), .ref (ad 54), .int 0, .int (-1), .int 0, .int 0]))]) (rV (As := [.int n3]) (rest := []) (ci := 9) ⟨hx, hb, hml, hown, hts⟩ (c_Tape_put l dC dI cy _ (ad 1) (ad 2) (ad 3) 0 0 0 0 0 0 0 0 0 n3 (((0 + 4) + 4) + 4) ob_12 (by omega)) (cw_X10_90 hts rfl rfl ⟨Nat.le_of_ble_eq_true rfl, Nat.le_of_ble_eq_true rfl⟩) hP hD hK [1, 2] rfl rfl rfl rfl bl0 e0 rfl hl.1 rfl (Nat.le_of_ble_eq_true rfl) dX10_feed_45 ⟨Nat.le_of_ble_eq_true rfl, Nat.le_of_ble_eq_true rfl⟩) hP hD hS hA [1, 2] [0] rfl rfl rfl (by decide) (fun u_15 H locs hp_14 hP hD hS => ?_)
  obtain ⟨ob_16, rfl⟩ : ∃ z, z = u_15 := ⟨_, rfl⟩
  have hp_14 : True := hp_14
  have hP : va_P (dC, dI) vwCl [(ad 0, .inr (11, [.ref (ad 1), .ref (ad 4), .ref (ad 5), .ref (ad 10), .ref (ad 23), .ref (ad 24), .ref (ad 25), .ref (ad 27), .ref (ad 28), .ref (ad 29), .ref (ad 30), .ref (ad 31), .ref (ad 54), .int 0, .int (-1), .int 0, .int 0])), (ad 1, .inr (9, [.ref (ad 2), .ref (ad 3), .int (nI ((((0 + 4) + 4) + 4) + 4)), .int 0, .int 0, .int 0, .int 0, .int 0, .long 0, .int 0, .int 0, .int 0])), (ad 2, .inl (cy 0, 940, .inl ob_16))] H := hP
  have hD : va_D A [(ad 0, .inr (11, [.ref (ad 1), .ref (ad 4), .ref (ad 5), .ref (ad 10), .ref (ad 23), .ref (ad 24), .ref (ad 25), .ref (ad 27), .ref (ad 28), .ref (ad 29), .ref (ad 30), .ref (ad 31), .ref (ad 54), .int 0, .int (-1), .int 0, .int 0])), (ad 1, .inr (9, [.ref (ad 2), .ref (ad 3), .int (nI ((((0 + 4) + 4) + 4) + 4)), .int 0, .int 0, .int 0, .int 0, .int 0, .long 0, .int 0, .int 0, .int 0])), (ad 2, .inl (cy 0, 940, .inl ob_16))] := hD
  refine lv_aload_n hx hb dX10_feed_48 rfl (lv_at hl 0 rfl) ?_
  refine gf_X10_10 hx hb hts hown hK hP 0 rfl rfl dX10_feed_49 ?_
  refine lv_iload hx hb dX10_feed_52 (lv_at hl 5 rfl) ?_
  refine jn_v (wr := [(ad 0, .inr (11, [.ref (ad 1), .ref (ad 4), .ref (ad 5), .ref (ad 10), .ref (ad 23), .ref (ad 24), .ref (ad 25), .ref (ad 27), .ref (ad 28), .ref (ad 29), .ref (ad 30), .ref (ad 31), .ref (ad 54), .int 0, .int (-1), .int 0, .int 0]))]) (rV (As := [.int n4]) (rest := []) (ci := 9) ⟨hx, hb, hml, hown, hts⟩ (c_Tape_put l dC dI cy _ (ad 1) (ad 2) (ad 3) 0 0 0 0 0 0 0 0 0 n4 ((((0 + 4) + 4) + 4) + 4) ob_16 (by omega)) (cw_X10_90 hts rfl rfl ⟨Nat.le_of_ble_eq_true rfl, Nat.le_of_ble_eq_true rfl⟩) hP hD hK [1, 2] rfl rfl rfl rfl bl0 e0 rfl hl.1 rfl (Nat.le_of_ble_eq_true rfl) dX10_feed_54 ⟨Nat.le_of_ble_eq_true rfl, Nat.le_of_ble_eq_true rfl⟩) hP hD hS hA [1, 2] [0] rfl rfl rfl (by decide) (fun u_19 H locs hp_18 hP hD hS => ?_)
  obtain ⟨ob_20, rfl⟩ : ∃ z, z = u_19 := ⟨_, rfl⟩
  have hp_18 : True := hp_18
  have hP : va_P (dC, dI) vwCl [(ad 0, .inr (11, [.ref (ad 1), .ref (ad 4), .ref (ad 5), .ref (ad 10), .ref (ad 23), .ref (ad 24), .ref (ad 25), .ref (ad 27), .ref (ad 28), .ref (ad 29), .ref (ad 30), .ref (ad 31), .ref (ad 54), .int 0, .int (-1), .int 0, .int 0])), (ad 1, .inr (9, [.ref (ad 2), .ref (ad 3), .int (nI (((((0 + 4) + 4) + 4) + 4) + 4)), .int 0, .int 0, .int 0, .int 0, .int 0, .long 0, .int 0, .int 0, .int 0])), (ad 2, .inl (cy 0, 940, .inl ob_20))] H := hP
  have hD : va_D A [(ad 0, .inr (11, [.ref (ad 1), .ref (ad 4), .ref (ad 5), .ref (ad 10), .ref (ad 23), .ref (ad 24), .ref (ad 25), .ref (ad 27), .ref (ad 28), .ref (ad 29), .ref (ad 30), .ref (ad 31), .ref (ad 54), .int 0, .int (-1), .int 0, .int 0])), (ad 1, .inr (9, [.ref (ad 2), .ref (ad 3), .int (nI (((((0 + 4) + 4) + 4) + 4) + 4)), .int 0, .int 0, .int 0, .int 0, .int 0, .long 0, .int 0, .int 0, .int 0])), (ad 2, .inl (cy 0, 940, .inl ob_20))] := hD
  refine lv_aload_n hx hb dX10_feed_57 rfl (lv_at hl 0 rfl) ?_
  refine gf_X10_10 hx hb hts hown hK hP 0 rfl rfl dX10_feed_58 ?_
  refine gf_X10_87 hx hb hts hown hK hP 1 rfl rfl dX10_feed_61 ?_
  rw [hQ9]
  exact re_i () hx hb hr hlocks rfl (hP.sub [] rfl) (hD.sub [] rfl rfl) hS dX10_feed_64
abbrev cX10_end : ByteArray := prog_1_method_3_code
def yX10_end : MethodName := ⟨RX10, "end", "(I)Z"⟩
theorem t540 : Cond.code yX10_end cX10_end 2 (some .boolean) ∈ GW := gw_mem 654 (by decide +kernel) (by decide +kernel)
theorem dX10_end_0 : decode cX10_end 0 = .ok (.iload_n 1, 1) := by decide +kernel
theorem dX10_end_1 : decode cX10_end 1 = .ok (.ifCond .lt 14, 3) := by decide +kernel
theorem dX10_end_15 : decode cX10_end 15 = .ok (.iconst 0, 1) := by decide +kernel
theorem dX10_end_16 : decode cX10_end 16 = .ok (.ireturn, 1) := by decide +kernel
theorem dX10_end_4 : decode cX10_end 4 = .ok (.iload_n 1, 1) := by decide +kernel
theorem dX10_end_5 : decode cX10_end 5 = .ok (.aload_n 0, 1) := by decide +kernel
theorem dX10_end_6 : decode cX10_end 6 = .ok (.getfield 10, 3) := by decide +kernel
theorem dX10_end_9 : decode cX10_end 9 = .ok (.getfield 87, 3) := by decide +kernel
theorem dX10_end_12 : decode cX10_end 12 = .ok (.if_icmp .le 5, 3) := by decide +kernel
theorem dX10_end_17 : decode cX10_end 17 = .ok (.aload_n 0, 1) := by decide +kernel
theorem dX10_end_18 : decode cX10_end 18 = .ok (.getfield 10, 3) := by decide +kernel
theorem dX10_end_21 : decode cX10_end 21 = .ok (.iload_n 1, 1) := by decide +kernel
theorem dX10_end_22 : decode cX10_end 22 = .ok (.putfield 87, 3) := by decide +kernel
theorem pf_X10_87 {p : Program} {l : Launch} {e : Env} {R : Room} {s : State} {m : MethodId} {args : Array Value} {below : List Frame} {meth : Method} {c : Code} {H : Heap} {locs : List Loc} {cells slots : Nat} {Q : State → Prop} {cc : ByteArray} {pc : Nat} {ls : Array Slot} {rest : List Value} {D : va_G} {A : Nat → Prop} {a : Nat} {tys : List (ClassId × FieldType)} {ws : va_W} {H0 : Heap} (hx : p.tables.exec = Jvm.exec) (hb : c.code = cc) (hts : ∀ w ∈ GW, w.before args s = true) (hown : s.vm.findClass RX10 = some m.cls) (hK : va_K D vwCl tys s) (hP : va_P D vwCl ws H) (hD : va_D A ws) (hS0 : va_S A H0 H locs) (q0 : Nat) {fs : List Value} (he : ws[q0]? = some (a, .inr (9, fs))) {v : Value} (hn : narrow (tyX8 2) v = v) (hfit : fits (tyX8 2) v = true) (hl : 2 < fs.length) (hdg : decode cc pc = .ok (.putfield 87, 3)) (kk : ∀ (H1 : Heap) (locs1 : List Loc), va_P D vwCl (ws.set q0 (a, .inr (9, fs.set 2 v))) H1 → va_D A (ws.set q0 (a, .inr (9, fs.set 2 v))) → va_S A H0 H1 locs1 → W p l e R s m args below meth c H1 locs1 cells slots Q (F0 m (pc + 3) ls rest)) : W p l e R s m args below meth c H locs cells slots Q (F0 m pc ls (v :: .ref a :: rest)) := va_put (C := RX8) (T := TX8) (N := 12) (ci := 9) hx hb hts inX8 tyX8 tkX8 nmX8 hown hK hP hD hS0 q0 he rfl 2 (by decide) (hts _ t96) (fun _ h => h) rfl (tkX8 2 (by decide)) hn hfit hl hdg kk
theorem dX10_end_25 : decode cX10_end 25 = .ok (.iconst 1, 1) := by decide +kernel
theorem dX10_end_26 : decode cX10_end 26 = .ok (.ireturn, 1) := by decide +kernel
set_option maxHeartbeats 4000000 in
set_option maxRecDepth 100000 in
theorem k_end (l : Launch) (dC : Nat → ClassId) (dI : Nat → Nat → Nat) (cy : Nat → ClassId) (sz : Nat) (ad : Nat → Nat) (n0 : Int32)  : Met l yX10_end (wl yX10_end cX10_end 2 (some .boolean)) ({ frames := 1, cells := 0, slots := 0, locals := 64 }) (Pw (dC, dI) vwCl cy [(ad 0, .inr (11, [.ref (ad 1), .ref (ad 4), .ref (ad 5), .ref (ad 10), .ref (ad 23), .ref (ad 24), .ref (ad 25), .ref (ad 27), .ref (ad 28), .ref (ad 29), .ref (ad 30), .ref (ad 31), .ref (ad 54), .int 0, .int (-1), .int 0, .int 0])), (ad 1, .inr (9, [.ref (ad 2), .ref (ad 3), .int 0, .int 0, .int 0, .int 0, .int 0, .int 0, .long 0, .int 0, .int 0, .int 0]))] sz [.ref (ad 0), .int n0] nE) (Qi (dC, dI) vwCl (fun (r : Int32) (u : Unit) => r = endF n0) (fun (u : Unit) => []) (va_A [(ad 0, .inr (11, [.ref (ad 1), .ref (ad 4), .ref (ad 5), .ref (ad 10), .ref (ad 23), .ref (ad 24), .ref (ad 25), .ref (ad 27), .ref (ad 28), .ref (ad 29), .ref (ad 30), .ref (ad 31), .ref (ad 54), .int 0, .int (-1), .int 0, .int 0])), (ad 1, .inr (9, [.ref (ad 2), .ref (ad 3), .int 0, .int 0, .int 0, .int 0, .int 0, .int 0, .long 0, .int 0, .int 0, .int 0]))] sz)) 0 0 (va_A [(ad 0, .inr (11, [.ref (ad 1), .ref (ad 4), .ref (ad 5), .ref (ad 10), .ref (ad 23), .ref (ad 24), .ref (ad 25), .ref (ad 27), .ref (ad 28), .ref (ad 29), .ref (ad 30), .ref (ad 31), .ref (ad 54), .int 0, .int (-1), .int 0, .int 0])), (ad 1, .inr (9, [.ref (ad 2), .ref (ad 3), .int 0, .int 0, .int 0, .int 0, .int 0, .int 0, .long 0, .int 0, .int 0, .int 0]))] sz) := by
  refine mw (Qc := Qi (dC, dI) vwCl (fun (r : Int32) (u : Unit) => r = endF n0) (fun (u : Unit) => [])) RX10 rfl (by decide +kernel) (Nat.le_of_ble_eq_true rfl) ?_
  intro p e s m below meth c A hx hb hr hlocks av9 hav hts hown hnm hml hK hP hD hA hS hE hAe Q9 hQ9 ls hl
  have hl : lv_has ls 2 [(0, .ref (ad 0)), (1, .int n0)] := hl
  refine lv_iload_n hx hb dX10_end_0 rfl (lv_at hl 1 rfl) ?_
  refine lv_if_lt (tgt := 15) hx hb dX10_end_1 (by decide) (fun c_1 => ?_) (fun c_1 => ?_)
  · skip
    refine lv_iconst (v := 0) hx hb dX10_end_15 (by decide) ?_
    rw [hQ9]
    exact re_z () hx hb hr hlocks (Or.inl rfl) (endF_lo c_1).symm (hP.sub [] rfl) (hD.sub [] rfl rfl) hS dX10_end_16
  · skip
    refine lv_iload_n hx hb dX10_end_4 rfl (lv_at hl 1 rfl) ?_
    refine lv_aload_n hx hb dX10_end_5 rfl (lv_at hl 0 rfl) ?_
    refine gf_X10_10 hx hb hts hown hK hP 0 rfl rfl dX10_end_6 ?_
    refine gf_X10_87 hx hb hts hown hK hP 1 rfl rfl dX10_end_9 ?_
    refine lv_icmp_le (tgt := 17) hx hb dX10_end_12 (by decide) (fun c_2 => ?_) (fun c_2 => ?_)
    · skip
      refine lv_aload_n hx hb dX10_end_17 rfl (lv_at hl 0 rfl) ?_
      refine gf_X10_10 hx hb hts hown hK hP 0 rfl rfl dX10_end_18 ?_
      refine lv_iload_n hx hb dX10_end_21 rfl (lv_at hl 1 rfl) ?_
      refine pf_X10_87 hx hb hts hown hK hP hD hS 1 rfl rfl rfl (Nat.le_of_ble_eq_true rfl) dX10_end_22 (fun H locs hP hD hS => ?_)
      have hP : va_P (dC, dI) vwCl [(ad 0, .inr (11, [.ref (ad 1), .ref (ad 4), .ref (ad 5), .ref (ad 10), .ref (ad 23), .ref (ad 24), .ref (ad 25), .ref (ad 27), .ref (ad 28), .ref (ad 29), .ref (ad 30), .ref (ad 31), .ref (ad 54), .int 0, .int (-1), .int 0, .int 0])), (ad 1, .inr (9, [.ref (ad 2), .ref (ad 3), .int n0, .int 0, .int 0, .int 0, .int 0, .int 0, .long 0, .int 0, .int 0, .int 0]))] H := hP
      have hD : va_D A [(ad 0, .inr (11, [.ref (ad 1), .ref (ad 4), .ref (ad 5), .ref (ad 10), .ref (ad 23), .ref (ad 24), .ref (ad 25), .ref (ad 27), .ref (ad 28), .ref (ad 29), .ref (ad 30), .ref (ad 31), .ref (ad 54), .int 0, .int (-1), .int 0, .int 0])), (ad 1, .inr (9, [.ref (ad 2), .ref (ad 3), .int n0, .int 0, .int 0, .int 0, .int 0, .int 0, .long 0, .int 0, .int 0, .int 0]))] := hD
      refine lv_iconst (v := 1) hx hb dX10_end_25 (by decide) ?_
      rw [hQ9]
      exact re_z () hx hb hr hlocks (Or.inr rfl) (endF_in c_1 c_2).symm (hP.sub [] rfl) (hD.sub [] rfl rfl) hS dX10_end_26
    · skip
      refine lv_iconst (v := 0) hx hb dX10_end_15 (by decide) ?_
      rw [hQ9]
      exact re_z () hx hb hr hlocks (Or.inl rfl) (endF_hi c_2).symm (hP.sub [] rfl) (hD.sub [] rfl rfl) hS dX10_end_16
abbrev cX1_clear : ByteArray := prog_3_method_2_code
def yX1_clear : MethodName := ⟨RX1, "clear", "()V"⟩
theorem t552 : Cond.code yX1_clear cX1_clear 2 none ∈ GW := gw_mem 666 (by decide +kernel) (by decide +kernel)
abbrev O_c_Col_clear (cy : Nat → ClassId) (h0 : Nat) (a1 : Nat) (a2 : Nat) (a3 : Nat) (a4 : Nat) (a5 : Nat) (xm : Int32) (xd : Int32) (xr : Int32) (xf : Int32) (fk : Nat → Int32) (u : (Nat → Int32)) : va_W := [(h0, .inr (2, [.ref a1, .ref a2, .ref a3, .ref a4, .ref a5, .int 0, .int 0, .int 60, .int 10])), (a5, .inl (cy 0, 7, .inl u))]
theorem dX1_clear_0 : decode cX1_clear 0 = .ok (.aload_n 0, 1) := by decide +kernel
theorem dX1_clear_1 : decode cX1_clear 1 = .ok (.iconst 0, 1) := by decide +kernel
theorem dX1_clear_2 : decode cX1_clear 2 = .ok (.putfield 36, 3) := by decide +kernel
theorem pf_X1_36 {p : Program} {l : Launch} {e : Env} {R : Room} {s : State} {m : MethodId} {args : Array Value} {below : List Frame} {meth : Method} {c : Code} {H : Heap} {locs : List Loc} {cells slots : Nat} {Q : State → Prop} {cc : ByteArray} {pc : Nat} {ls : Array Slot} {rest : List Value} {D : va_G} {A : Nat → Prop} {a : Nat} {tys : List (ClassId × FieldType)} {ws : va_W} {H0 : Heap} (hx : p.tables.exec = Jvm.exec) (hb : c.code = cc) (hts : ∀ w ∈ GW, w.before args s = true) (hown : s.vm.findClass RX1 = some m.cls) (hK : va_K D vwCl tys s) (hP : va_P D vwCl ws H) (hD : va_D A ws) (hS0 : va_S A H0 H locs) (q0 : Nat) {fs : List Value} (he : ws[q0]? = some (a, .inr (2, fs))) {v : Value} (hn : narrow (tyX1 5) v = v) (hfit : fits (tyX1 5) v = true) (hl : 5 < fs.length) (hdg : decode cc pc = .ok (.putfield 36, 3)) (kk : ∀ (H1 : Heap) (locs1 : List Loc), va_P D vwCl (ws.set q0 (a, .inr (2, fs.set 5 v))) H1 → va_D A (ws.set q0 (a, .inr (2, fs.set 5 v))) → va_S A H0 H1 locs1 → W p l e R s m args below meth c H1 locs1 cells slots Q (F0 m (pc + 3) ls rest)) : W p l e R s m args below meth c H locs cells slots Q (F0 m pc ls (v :: .ref a :: rest)) := va_put (C := RX1) (T := TX1) (N := 9) (ci := 2) hx hb hts inX1 tyX1 tkX1 nmX1 hown hK hP hD hS0 q0 he rfl 5 (by decide) (hts _ t390) (fun _ h => h) rfl (tkX1 5 (by decide)) hn hfit hl hdg kk
theorem dX1_clear_5 : decode cX1_clear 5 = .ok (.aload_n 0, 1) := by decide +kernel
theorem dX1_clear_6 : decode cX1_clear 6 = .ok (.iconst 0, 1) := by decide +kernel
theorem dX1_clear_7 : decode cX1_clear 7 = .ok (.putfield 39, 3) := by decide +kernel
theorem t396 : Cond.fieldLink RX1 39 "LikenessPound$Colony" "deeds" "I" ∈ GW := gw_mem 510 (by decide +kernel) (by decide +kernel)
theorem pf_X1_39 {p : Program} {l : Launch} {e : Env} {R : Room} {s : State} {m : MethodId} {args : Array Value} {below : List Frame} {meth : Method} {c : Code} {H : Heap} {locs : List Loc} {cells slots : Nat} {Q : State → Prop} {cc : ByteArray} {pc : Nat} {ls : Array Slot} {rest : List Value} {D : va_G} {A : Nat → Prop} {a : Nat} {tys : List (ClassId × FieldType)} {ws : va_W} {H0 : Heap} (hx : p.tables.exec = Jvm.exec) (hb : c.code = cc) (hts : ∀ w ∈ GW, w.before args s = true) (hown : s.vm.findClass RX1 = some m.cls) (hK : va_K D vwCl tys s) (hP : va_P D vwCl ws H) (hD : va_D A ws) (hS0 : va_S A H0 H locs) (q0 : Nat) {fs : List Value} (he : ws[q0]? = some (a, .inr (2, fs))) {v : Value} (hn : narrow (tyX1 6) v = v) (hfit : fits (tyX1 6) v = true) (hl : 6 < fs.length) (hdg : decode cc pc = .ok (.putfield 39, 3)) (kk : ∀ (H1 : Heap) (locs1 : List Loc), va_P D vwCl (ws.set q0 (a, .inr (2, fs.set 6 v))) H1 → va_D A (ws.set q0 (a, .inr (2, fs.set 6 v))) → va_S A H0 H1 locs1 → W p l e R s m args below meth c H1 locs1 cells slots Q (F0 m (pc + 3) ls rest)) : W p l e R s m args below meth c H locs cells slots Q (F0 m pc ls (v :: .ref a :: rest)) := va_put (C := RX1) (T := TX1) (N := 9) (ci := 2) hx hb hts inX1 tyX1 tkX1 nmX1 hown hK hP hD hS0 q0 he rfl 6 (by decide) (hts _ t396) (fun _ h => h) rfl (tkX1 6 (by decide)) hn hfit hl hdg kk
theorem dX1_clear_10 : decode cX1_clear 10 = .ok (.aload_n 0, 1) := by decide +kernel
theorem dX1_clear_11 : decode cX1_clear 11 = .ok (.bipush 60, 2) := by decide +kernel
theorem dX1_clear_13 : decode cX1_clear 13 = .ok (.putfield 29, 3) := by decide +kernel
theorem t402 : Cond.fieldLink RX1 29 "LikenessPound$Colony" "room" "I" ∈ GW := gw_mem 516 (by decide +kernel) (by decide +kernel)
theorem pf_X1_29 {p : Program} {l : Launch} {e : Env} {R : Room} {s : State} {m : MethodId} {args : Array Value} {below : List Frame} {meth : Method} {c : Code} {H : Heap} {locs : List Loc} {cells slots : Nat} {Q : State → Prop} {cc : ByteArray} {pc : Nat} {ls : Array Slot} {rest : List Value} {D : va_G} {A : Nat → Prop} {a : Nat} {tys : List (ClassId × FieldType)} {ws : va_W} {H0 : Heap} (hx : p.tables.exec = Jvm.exec) (hb : c.code = cc) (hts : ∀ w ∈ GW, w.before args s = true) (hown : s.vm.findClass RX1 = some m.cls) (hK : va_K D vwCl tys s) (hP : va_P D vwCl ws H) (hD : va_D A ws) (hS0 : va_S A H0 H locs) (q0 : Nat) {fs : List Value} (he : ws[q0]? = some (a, .inr (2, fs))) {v : Value} (hn : narrow (tyX1 7) v = v) (hfit : fits (tyX1 7) v = true) (hl : 7 < fs.length) (hdg : decode cc pc = .ok (.putfield 29, 3)) (kk : ∀ (H1 : Heap) (locs1 : List Loc), va_P D vwCl (ws.set q0 (a, .inr (2, fs.set 7 v))) H1 → va_D A (ws.set q0 (a, .inr (2, fs.set 7 v))) → va_S A H0 H1 locs1 → W p l e R s m args below meth c H1 locs1 cells slots Q (F0 m (pc + 3) ls rest)) : W p l e R s m args below meth c H locs cells slots Q (F0 m pc ls (v :: .ref a :: rest)) := va_put (C := RX1) (T := TX1) (N := 9) (ci := 2) hx hb hts inX1 tyX1 tkX1 nmX1 hown hK hP hD hS0 q0 he rfl 7 (by decide) (hts _ t402) (fun _ h => h) rfl (tkX1 7 (by decide)) hn hfit hl hdg kk
theorem dX1_clear_16 : decode cX1_clear 16 = .ok (.aload_n 0, 1) := by decide +kernel
theorem dX1_clear_17 : decode cX1_clear 17 = .ok (.bipush 10, 2) := by decide +kernel
theorem dX1_clear_19 : decode cX1_clear 19 = .ok (.putfield 33, 3) := by decide +kernel
theorem t406 : Cond.fieldLink RX1 33 "LikenessPound$Colony" "faint" "I" ∈ GW := gw_mem 520 (by decide +kernel) (by decide +kernel)
theorem pf_X1_33 {p : Program} {l : Launch} {e : Env} {R : Room} {s : State} {m : MethodId} {args : Array Value} {below : List Frame} {meth : Method} {c : Code} {H : Heap} {locs : List Loc} {cells slots : Nat} {Q : State → Prop} {cc : ByteArray} {pc : Nat} {ls : Array Slot} {rest : List Value} {D : va_G} {A : Nat → Prop} {a : Nat} {tys : List (ClassId × FieldType)} {ws : va_W} {H0 : Heap} (hx : p.tables.exec = Jvm.exec) (hb : c.code = cc) (hts : ∀ w ∈ GW, w.before args s = true) (hown : s.vm.findClass RX1 = some m.cls) (hK : va_K D vwCl tys s) (hP : va_P D vwCl ws H) (hD : va_D A ws) (hS0 : va_S A H0 H locs) (q0 : Nat) {fs : List Value} (he : ws[q0]? = some (a, .inr (2, fs))) {v : Value} (hn : narrow (tyX1 8) v = v) (hfit : fits (tyX1 8) v = true) (hl : 8 < fs.length) (hdg : decode cc pc = .ok (.putfield 33, 3)) (kk : ∀ (H1 : Heap) (locs1 : List Loc), va_P D vwCl (ws.set q0 (a, .inr (2, fs.set 8 v))) H1 → va_D A (ws.set q0 (a, .inr (2, fs.set 8 v))) → va_S A H0 H1 locs1 → W p l e R s m args below meth c H1 locs1 cells slots Q (F0 m (pc + 3) ls rest)) : W p l e R s m args below meth c H locs cells slots Q (F0 m pc ls (v :: .ref a :: rest)) := va_put (C := RX1) (T := TX1) (N := 9) (ci := 2) hx hb hts inX1 tyX1 tkX1 nmX1 hown hK hP hD hS0 q0 he rfl 8 (by decide) (hts _ t406) (fun _ h => h) rfl (tkX1 8 (by decide)) hn hfit hl hdg kk
theorem dX1_clear_22 : decode cX1_clear 22 = .ok (.iconst 0, 1) := by decide +kernel
theorem dX1_clear_23 : decode cX1_clear 23 = .ok (.istore_n 1, 1) := by decide +kernel
theorem dX1_clear_24 : decode cX1_clear 24 = .ok (.iload_n 1, 1) := by decide +kernel
theorem dX1_clear_25 : decode cX1_clear 25 = .ok (.bipush 7, 2) := by decide +kernel
theorem dX1_clear_27 : decode cX1_clear 27 = .ok (.if_icmp .ge 16, 3) := by decide +kernel
theorem dX1_clear_43 : decode cX1_clear 43 = .ok (.return_, 1) := by decide +kernel
theorem dX1_clear_30 : decode cX1_clear 30 = .ok (.aload_n 0, 1) := by decide +kernel
theorem dX1_clear_31 : decode cX1_clear 31 = .ok (.getfield 26, 3) := by decide +kernel
theorem t387 : Cond.fieldLink RX1 26 "LikenessPound$Colony" "kin" "[I" ∈ GW := gw_mem 501 (by decide +kernel) (by decide +kernel)
theorem gf_X1_26 {p : Program} {l : Launch} {e : Env} {R : Room} {s : State} {m : MethodId} {args : Array Value} {below : List Frame} {meth : Method} {c : Code} {H : Heap} {locs : List Loc} {cells slots : Nat} {Q : State → Prop} {cc : ByteArray} {pc : Nat} {ls : Array Slot} {rest : List Value} {D : va_G} {a : Nat} {tys : List (ClassId × FieldType)} {ws : va_W} (hx : p.tables.exec = Jvm.exec) (hb : c.code = cc) (hts : ∀ w ∈ GW, w.before args s = true) (hown : s.vm.findClass RX1 = some m.cls) (hK : va_K D vwCl tys s) (hP : va_P D vwCl ws H) (q0 : Nat) {fs : List Value} (he : ws[q0]? = some (a, .inr (2, fs))) {v : Value} (hv : fs[4]? = some v) (hdg : decode cc pc = .ok (.getfield 26, 3)) (kk : W p l e R s m args below meth c H locs cells slots Q (F0 m (pc + 3) ls (v :: rest))) : W p l e R s m args below meth c H locs cells slots Q (F0 m pc ls (.ref a :: rest)) := va_get (C := RX1) (T := TX1) (N := 9) (ci := 2) hx hb hts inX1 hown hK hP q0 he rfl 4 (by decide) (hts _ t387) (fun _ h => h) hv hdg kk
theorem dX1_clear_34 : decode cX1_clear 34 = .ok (.iload_n 1, 1) := by decide +kernel
theorem dX1_clear_35 : decode cX1_clear 35 = .ok (.iconst 0, 1) := by decide +kernel
theorem dX1_clear_36 : decode cX1_clear 36 = .ok (.iastore, 1) := by decide +kernel
theorem dX1_clear_37 : decode cX1_clear 37 = .ok (.iinc 1 1, 3) := by decide +kernel
theorem dX1_clear_40 : decode cX1_clear 40 = .ok (.goto (-16), 3) := by decide +kernel
set_option maxHeartbeats 4000000 in
set_option maxRecDepth 100000 in
theorem c_Col_clear (l : Launch) (dC : Nat → ClassId) (dI : Nat → Nat → Nat) (cy : Nat → ClassId) (sz : Nat) (h0 : Nat) (a1 : Nat) (a2 : Nat) (a3 : Nat) (a4 : Nat) (a5 : Nat) (xm : Int32) (xd : Int32) (xr : Int32) (xf : Int32) (fk : Nat → Int32)  : Met l yX1_clear (wl yX1_clear cX1_clear 2 none) ({ frames := 0, cells := 0, slots := 0, locals := 0 }) (Pw (dC, dI) vwCl cy [(h0, .inr (2, [.ref a1, .ref a2, .ref a3, .ref a4, .ref a5, .int xm, .int xd, .int xr, .int xf])), (a5, .inl (cy 0, 7, .inl fk))] sz [.ref h0] nE) (Qv (dC, dI) vwCl (fun (u : (Nat → Int32)) => True) (O_c_Col_clear cy h0 a1 a2 a3 a4 a5 xm xd xr xf fk) (va_A [(h0, .inr (2, [.ref a1, .ref a2, .ref a3, .ref a4, .ref a5, .int xm, .int xd, .int xr, .int xf])), (a5, .inl (cy 0, 7, .inl fk))] sz)) 0 0 (va_A [(h0, .inr (2, [.ref a1, .ref a2, .ref a3, .ref a4, .ref a5, .int xm, .int xd, .int xr, .int xf])), (a5, .inl (cy 0, 7, .inl fk))] sz) := by
  refine mw (Qc := Qv (dC, dI) vwCl (fun (u : (Nat → Int32)) => True) (O_c_Col_clear cy h0 a1 a2 a3 a4 a5 xm xd xr xf fk)) RX1 rfl (by decide +kernel) (Nat.le_of_ble_eq_true rfl) ?_
  intro p e s m below meth c A hx hb hr hlocks av9 hav hts hown hnm hml hK hP hD hA hS hE hAe Q9 hQ9 ls hl
  have hl : lv_has ls 2 [(0, .ref h0)] := hl
  refine lv_aload_n hx hb dX1_clear_0 rfl (lv_at hl 0 rfl) ?_
  refine lv_iconst (v := 0) hx hb dX1_clear_1 (by decide) ?_
  refine pf_X1_36 hx hb hts hown hK hP hD hS 0 rfl rfl rfl (Nat.le_of_ble_eq_true rfl) dX1_clear_2 (fun H locs hP hD hS => ?_)
  have hP : va_P (dC, dI) vwCl [(h0, .inr (2, [.ref a1, .ref a2, .ref a3, .ref a4, .ref a5, .int 0, .int xd, .int xr, .int xf])), (a5, .inl (cy 0, 7, .inl fk))] H := hP
  have hD : va_D A [(h0, .inr (2, [.ref a1, .ref a2, .ref a3, .ref a4, .ref a5, .int 0, .int xd, .int xr, .int xf])), (a5, .inl (cy 0, 7, .inl fk))] := hD
  refine lv_aload_n hx hb dX1_clear_5 rfl (lv_at hl 0 rfl) ?_
  refine lv_iconst (v := 0) hx hb dX1_clear_6 (by decide) ?_
  refine pf_X1_39 hx hb hts hown hK hP hD hS 0 rfl rfl rfl (Nat.le_of_ble_eq_true rfl) dX1_clear_7 (fun H locs hP hD hS => ?_)
  have hP : va_P (dC, dI) vwCl [(h0, .inr (2, [.ref a1, .ref a2, .ref a3, .ref a4, .ref a5, .int 0, .int 0, .int xr, .int xf])), (a5, .inl (cy 0, 7, .inl fk))] H := hP
  have hD : va_D A [(h0, .inr (2, [.ref a1, .ref a2, .ref a3, .ref a4, .ref a5, .int 0, .int 0, .int xr, .int xf])), (a5, .inl (cy 0, 7, .inl fk))] := hD
  refine lv_aload_n hx hb dX1_clear_10 rfl (lv_at hl 0 rfl) ?_
  refine lv_bipush (v := 60) hx hb dX1_clear_11 (by decide) ?_
  refine pf_X1_29 hx hb hts hown hK hP hD hS 0 rfl rfl rfl (Nat.le_of_ble_eq_true rfl) dX1_clear_13 (fun H locs hP hD hS => ?_)
  have hP : va_P (dC, dI) vwCl [(h0, .inr (2, [.ref a1, .ref a2, .ref a3, .ref a4, .ref a5, .int 0, .int 0, .int 60, .int xf])), (a5, .inl (cy 0, 7, .inl fk))] H := hP
  have hD : va_D A [(h0, .inr (2, [.ref a1, .ref a2, .ref a3, .ref a4, .ref a5, .int 0, .int 0, .int 60, .int xf])), (a5, .inl (cy 0, 7, .inl fk))] := hD
  refine lv_aload_n hx hb dX1_clear_16 rfl (lv_at hl 0 rfl) ?_
  refine lv_bipush (v := 10) hx hb dX1_clear_17 (by decide) ?_
  refine pf_X1_33 hx hb hts hown hK hP hD hS 0 rfl rfl rfl (Nat.le_of_ble_eq_true rfl) dX1_clear_19 (fun H locs hP hD hS => ?_)
  have hP : va_P (dC, dI) vwCl [(h0, .inr (2, [.ref a1, .ref a2, .ref a3, .ref a4, .ref a5, .int 0, .int 0, .int 60, .int 10])), (a5, .inl (cy 0, 7, .inl fk))] H := hP
  have hD : va_D A [(h0, .inr (2, [.ref a1, .ref a2, .ref a3, .ref a4, .ref a5, .int 0, .int 0, .int 60, .int 10])), (a5, .inl (cy 0, 7, .inl fk))] := hD
  refine lv_iconst (v := 0) hx hb dX1_clear_22 (by decide) ?_
  refine lv_istore_n (lv' := [(1, .int 0), (0, .ref h0)]) hx hb dX1_clear_23 rfl hl (by decide) rfl (fun ls hl => ?_)
  have loop1 : ∀ (n1_ i1 : Nat) (g_2 : Nat → Int32) , i1 + n1_ = 7 → ∀ (H : Heap) (locs : List Loc), va_P (dC, dI) vwCl [(h0, .inr (2, [.ref a1, .ref a2, .ref a3, .ref a4, .ref a5, .int 0, .int 0, .int 60, .int 10])), (a5, .inl (cy 0, 7, .inl g_2))] H → va_D A [(h0, .inr (2, [.ref a1, .ref a2, .ref a3, .ref a4, .ref a5, .int 0, .int 0, .int 60, .int 10])), (a5, .inl (cy 0, 7, .inl g_2))] → va_S A s.heap H locs → ∀ ls : Array Slot, lv_has ls 2 [(0, .ref h0), (1, .int (nI i1))] → W p l e ({ frames := 0, cells := 0, slots := 0, locals := 0 }) s m av9 below meth c H locs 0 0 Q9 (F0 m 24 ls []) := by
    intro n1_
    induction n1_ with
    | zero =>
      intro i1 g_2  hn1 H locs hP hD hS ls hl
      obtain rfl : i1 = 7 := by omega
      have hl : lv_has ls 2 [(0, .ref h0), (1, .int 7)] := hl
      have hP : va_P (dC, dI) vwCl [(h0, .inr (2, [.ref a1, .ref a2, .ref a3, .ref a4, .ref a5, .int 0, .int 0, .int 60, .int 10])), (a5, .inl (cy 0, 7, .inl g_2))] H := hP
      have hD : va_D A [(h0, .inr (2, [.ref a1, .ref a2, .ref a3, .ref a4, .ref a5, .int 0, .int 0, .int 60, .int 10])), (a5, .inl (cy 0, 7, .inl g_2))] := hD
      refine lv_iload_n hx hb dX1_clear_24 rfl (lv_at hl 1 rfl) ?_
      refine lv_bipush (v := 7) hx hb dX1_clear_25 (by decide) ?_
      refine lv_icmp_ge (tgt := 43) hx hb dX1_clear_27 (by decide) (fun _ => ?_) (fun c9 => absurd (by decide) c9)
      rw [hQ9]
      exact re_v g_2 hx hb hr hlocks trivial (hP.sub [0, 1] rfl) (hD.sub [0, 1] rfl rfl) hS dX1_clear_43
    | succ n1_ ih1 =>
      intro i1 g_2  hn1 H locs hP hD hS ls hl
      refine lv_iload_n hx hb dX1_clear_24 rfl (lv_at hl 1 rfl) ?_
      refine lv_bipush (v := 7) hx hb dX1_clear_25 (by decide) ?_
      refine lv_icmp_ge (tgt := 43) hx hb dX1_clear_27 (by decide) (fun c9 => absurd c9 (nI_ge (a := i1) (b := 7) (by omega) (by omega))) (fun _ => ?_)
      refine lv_aload_n hx hb dX1_clear_30 rfl (lv_at hl 0 rfl) ?_
      refine gf_X1_26 hx hb hts hown hK hP 0 rfl rfl dX1_clear_31 ?_
      refine lv_iload_n hx hb dX1_clear_34 rfl (lv_at hl 1 rfl) ?_
      refine lv_iconst (v := 0) hx hb dX1_clear_35 (by decide) ?_
      refine va_iast hx hb hK hP hD hS 1 0 rfl rfl (vp_in_nI (n := i1) (N := 7) (by omega) (by omega)) dX1_clear_36 (fun H locs hP hD hS => ?_)
      obtain ⟨f_3, ef_3⟩ : ∃ z : Nat → Int32, z = upd g_2 (Int32.toNatClampNeg (nI i1)) 0 := ⟨_, rfl⟩
      have hP : va_P (dC, dI) vwCl [(h0, .inr (2, [.ref a1, .ref a2, .ref a3, .ref a4, .ref a5, .int 0, .int 0, .int 60, .int 10])), (a5, .inl (cy 0, 7, .inl f_3))] H := by rw [ef_3]; exact hP
      have hD : va_D A [(h0, .inr (2, [.ref a1, .ref a2, .ref a3, .ref a4, .ref a5, .int 0, .int 0, .int 60, .int 10])), (a5, .inl (cy 0, 7, .inl f_3))] := by rw [ef_3]; exact hD
      rw [(nI_clamp (n := i1) (by omega))] at ef_3
      refine lv_iinc (v := nI (i1 + 1)) (lv' := [(1, .int (nI (i1 + 1))), (0, .ref h0)]) hx hb dX1_clear_37 hl (k := 1) rfl (nI_add i1 1) (by decide) rfl (fun ls hl => ?_)
      refine lv_goto (tgt := 24) hx hb dX1_clear_40 (by decide) ?_
      exact ih1 (i1 + 1) f_3  (by omega) _ _ (hP.sub [0, 1] rfl) (hD.sub [0, 1] rfl rfl) hS ls (lv_sub hl [1, 0] rfl)
  exact loop1 7 0 fk  (by omega) _ _ hP hD hS ls (lv_sub hl [1, 0] rfl)
abbrev cX8_advance : ByteArray := prog_10_method_4_code
def yX8_advance : MethodName := ⟨RX8, "advance", "()V"⟩
theorem t561 : Cond.code yX8_advance cX8_advance 1 none ∈ GW := gw_mem 675 (by decide +kernel) (by decide +kernel)
abbrev O_k_advance900 (cy : Nat → ClassId) (ad : Nat → Nat) (u : Unit) : va_W := [(ad 1, .inr (9, [.ref (ad 2), .ref (ad 3), .int 0, .int 900, .int 0, .int 3, .int 0, .int (-1), .long 0, .int 0, .int 0, .int 0]))]
theorem dX8_advance_0 : decode cX8_advance 0 = .ok (.aload_n 0, 1) := by decide +kernel
theorem dX8_advance_1 : decode cX8_advance 1 = .ok (.getfield 39, 3) := by decide +kernel
theorem t99 : Cond.fieldLink RX8 39 "LikenessPound$Tape" "at" "I" ∈ GW := gw_mem 213 (by decide +kernel) (by decide +kernel)
theorem gf_X8_39 {p : Program} {l : Launch} {e : Env} {R : Room} {s : State} {m : MethodId} {args : Array Value} {below : List Frame} {meth : Method} {c : Code} {H : Heap} {locs : List Loc} {cells slots : Nat} {Q : State → Prop} {cc : ByteArray} {pc : Nat} {ls : Array Slot} {rest : List Value} {D : va_G} {a : Nat} {tys : List (ClassId × FieldType)} {ws : va_W} (hx : p.tables.exec = Jvm.exec) (hb : c.code = cc) (hts : ∀ w ∈ GW, w.before args s = true) (hown : s.vm.findClass RX8 = some m.cls) (hK : va_K D vwCl tys s) (hP : va_P D vwCl ws H) (q0 : Nat) {fs : List Value} (he : ws[q0]? = some (a, .inr (9, fs))) {v : Value} (hv : fs[4]? = some v) (hdg : decode cc pc = .ok (.getfield 39, 3)) (kk : W p l e R s m args below meth c H locs cells slots Q (F0 m (pc + 3) ls (v :: rest))) : W p l e R s m args below meth c H locs cells slots Q (F0 m pc ls (.ref a :: rest)) := va_get (C := RX8) (T := TX8) (N := 12) (ci := 9) hx hb hts inX8 hown hK hP q0 he rfl 4 (by decide) (hts _ t99) (fun _ h => h) hv hdg kk
theorem dX8_advance_4 : decode cX8_advance 4 = .ok (.aload_n 0, 1) := by decide +kernel
theorem dX8_advance_5 : decode cX8_advance 5 = .ok (.getfield 33, 3) := by decide +kernel
theorem dX8_advance_8 : decode cX8_advance 8 = .ok (.if_icmp .ge 44, 3) := by decide +kernel
theorem dX8_advance_52 : decode cX8_advance 52 = .ok (.aload_n 0, 1) := by decide +kernel
theorem dX8_advance_53 : decode cX8_advance 53 = .ok (.aload_n 0, 1) := by decide +kernel
theorem dX8_advance_54 : decode cX8_advance 54 = .ok (.getfield 39, 3) := by decide +kernel
theorem dX8_advance_57 : decode cX8_advance 57 = .ok (.putfield 51, 3) := by decide +kernel
theorem t104 : Cond.fieldLink RX8 51 "LikenessPound$Tape" "start" "I" ∈ GW := gw_mem 218 (by decide +kernel) (by decide +kernel)
theorem pf_X8_51 {p : Program} {l : Launch} {e : Env} {R : Room} {s : State} {m : MethodId} {args : Array Value} {below : List Frame} {meth : Method} {c : Code} {H : Heap} {locs : List Loc} {cells slots : Nat} {Q : State → Prop} {cc : ByteArray} {pc : Nat} {ls : Array Slot} {rest : List Value} {D : va_G} {A : Nat → Prop} {a : Nat} {tys : List (ClassId × FieldType)} {ws : va_W} {H0 : Heap} (hx : p.tables.exec = Jvm.exec) (hb : c.code = cc) (hts : ∀ w ∈ GW, w.before args s = true) (hown : s.vm.findClass RX8 = some m.cls) (hK : va_K D vwCl tys s) (hP : va_P D vwCl ws H) (hD : va_D A ws) (hS0 : va_S A H0 H locs) (q0 : Nat) {fs : List Value} (he : ws[q0]? = some (a, .inr (9, fs))) {v : Value} (hn : narrow (tyX8 6) v = v) (hfit : fits (tyX8 6) v = true) (hl : 6 < fs.length) (hdg : decode cc pc = .ok (.putfield 51, 3)) (kk : ∀ (H1 : Heap) (locs1 : List Loc), va_P D vwCl (ws.set q0 (a, .inr (9, fs.set 6 v))) H1 → va_D A (ws.set q0 (a, .inr (9, fs.set 6 v))) → va_S A H0 H1 locs1 → W p l e R s m args below meth c H1 locs1 cells slots Q (F0 m (pc + 3) ls rest)) : W p l e R s m args below meth c H locs cells slots Q (F0 m pc ls (v :: .ref a :: rest)) := va_put (C := RX8) (T := TX8) (N := 12) (ci := 9) hx hb hts inX8 tyX8 tkX8 nmX8 hown hK hP hD hS0 q0 he rfl 6 (by decide) (hts _ t104) (fun _ h => h) rfl (tkX8 6 (by decide)) hn hfit hl hdg kk
theorem dX8_advance_60 : decode cX8_advance 60 = .ok (.aload_n 0, 1) := by decide +kernel
theorem dX8_advance_61 : decode cX8_advance 61 = .ok (.iconst (-1), 1) := by decide +kernel
theorem dX8_advance_62 : decode cX8_advance 62 = .ok (.putfield 54, 3) := by decide +kernel
theorem t107 : Cond.fieldLink RX8 54 "LikenessPound$Tape" "word" "I" ∈ GW := gw_mem 221 (by decide +kernel) (by decide +kernel)
theorem pf_X8_54 {p : Program} {l : Launch} {e : Env} {R : Room} {s : State} {m : MethodId} {args : Array Value} {below : List Frame} {meth : Method} {c : Code} {H : Heap} {locs : List Loc} {cells slots : Nat} {Q : State → Prop} {cc : ByteArray} {pc : Nat} {ls : Array Slot} {rest : List Value} {D : va_G} {A : Nat → Prop} {a : Nat} {tys : List (ClassId × FieldType)} {ws : va_W} {H0 : Heap} (hx : p.tables.exec = Jvm.exec) (hb : c.code = cc) (hts : ∀ w ∈ GW, w.before args s = true) (hown : s.vm.findClass RX8 = some m.cls) (hK : va_K D vwCl tys s) (hP : va_P D vwCl ws H) (hD : va_D A ws) (hS0 : va_S A H0 H locs) (q0 : Nat) {fs : List Value} (he : ws[q0]? = some (a, .inr (9, fs))) {v : Value} (hn : narrow (tyX8 7) v = v) (hfit : fits (tyX8 7) v = true) (hl : 7 < fs.length) (hdg : decode cc pc = .ok (.putfield 54, 3)) (kk : ∀ (H1 : Heap) (locs1 : List Loc), va_P D vwCl (ws.set q0 (a, .inr (9, fs.set 7 v))) H1 → va_D A (ws.set q0 (a, .inr (9, fs.set 7 v))) → va_S A H0 H1 locs1 → W p l e R s m args below meth c H1 locs1 cells slots Q (F0 m (pc + 3) ls rest)) : W p l e R s m args below meth c H locs cells slots Q (F0 m pc ls (v :: .ref a :: rest)) := va_put (C := RX8) (T := TX8) (N := 12) (ci := 9) hx hb hts inX8 tyX8 tkX8 nmX8 hown hK hP hD hS0 q0 he rfl 7 (by decide) (hts _ t107) (fun _ h => h) rfl (tkX8 7 (by decide)) hn hfit hl hdg kk
theorem dX8_advance_65 : decode cX8_advance 65 = .ok (.aload_n 0, 1) := by decide +kernel
theorem dX8_advance_66 : decode cX8_advance 66 = .ok (.getfield 33, 3) := by decide +kernel
theorem dX8_advance_69 : decode cX8_advance 69 = .ok (.aload_n 0, 1) := by decide +kernel
theorem dX8_advance_70 : decode cX8_advance 70 = .ok (.getfield 36, 3) := by decide +kernel
theorem t98 : Cond.fieldLink RX8 36 "LikenessPound$Tape" "limit" "I" ∈ GW := gw_mem 212 (by decide +kernel) (by decide +kernel)
theorem gf_X8_36 {p : Program} {l : Launch} {e : Env} {R : Room} {s : State} {m : MethodId} {args : Array Value} {below : List Frame} {meth : Method} {c : Code} {H : Heap} {locs : List Loc} {cells slots : Nat} {Q : State → Prop} {cc : ByteArray} {pc : Nat} {ls : Array Slot} {rest : List Value} {D : va_G} {a : Nat} {tys : List (ClassId × FieldType)} {ws : va_W} (hx : p.tables.exec = Jvm.exec) (hb : c.code = cc) (hts : ∀ w ∈ GW, w.before args s = true) (hown : s.vm.findClass RX8 = some m.cls) (hK : va_K D vwCl tys s) (hP : va_P D vwCl ws H) (q0 : Nat) {fs : List Value} (he : ws[q0]? = some (a, .inr (9, fs))) {v : Value} (hv : fs[3]? = some v) (hdg : decode cc pc = .ok (.getfield 36, 3)) (kk : W p l e R s m args below meth c H locs cells slots Q (F0 m (pc + 3) ls (v :: rest))) : W p l e R s m args below meth c H locs cells slots Q (F0 m pc ls (.ref a :: rest)) := va_get (C := RX8) (T := TX8) (N := 12) (ci := 9) hx hb hts inX8 hown hK hP q0 he rfl 3 (by decide) (hts _ t98) (fun _ h => h) hv hdg kk
theorem dX8_advance_73 : decode cX8_advance 73 = .ok (.if_icmp .le 30, 3) := by decide +kernel
theorem dX8_advance_103 : decode cX8_advance 103 = .ok (.aload_n 0, 1) := by decide +kernel
theorem dX8_advance_104 : decode cX8_advance 104 = .ok (.getfield 39, 3) := by decide +kernel
theorem dX8_advance_107 : decode cX8_advance 107 = .ok (.aload_n 0, 1) := by decide +kernel
theorem dX8_advance_108 : decode cX8_advance 108 = .ok (.getfield 33, 3) := by decide +kernel
theorem dX8_advance_111 : decode cX8_advance 111 = .ok (.if_icmp .lt 11, 3) := by decide +kernel
theorem dX8_advance_114 : decode cX8_advance 114 = .ok (.aload_n 0, 1) := by decide +kernel
theorem dX8_advance_115 : decode cX8_advance 115 = .ok (.iconst 3, 1) := by decide +kernel
theorem dX8_advance_116 : decode cX8_advance 116 = .ok (.putfield 57, 3) := by decide +kernel
theorem t103 : Cond.fieldLink RX8 57 "LikenessPound$Tape" "kind" "I" ∈ GW := gw_mem 217 (by decide +kernel) (by decide +kernel)
theorem pf_X8_57 {p : Program} {l : Launch} {e : Env} {R : Room} {s : State} {m : MethodId} {args : Array Value} {below : List Frame} {meth : Method} {c : Code} {H : Heap} {locs : List Loc} {cells slots : Nat} {Q : State → Prop} {cc : ByteArray} {pc : Nat} {ls : Array Slot} {rest : List Value} {D : va_G} {A : Nat → Prop} {a : Nat} {tys : List (ClassId × FieldType)} {ws : va_W} {H0 : Heap} (hx : p.tables.exec = Jvm.exec) (hb : c.code = cc) (hts : ∀ w ∈ GW, w.before args s = true) (hown : s.vm.findClass RX8 = some m.cls) (hK : va_K D vwCl tys s) (hP : va_P D vwCl ws H) (hD : va_D A ws) (hS0 : va_S A H0 H locs) (q0 : Nat) {fs : List Value} (he : ws[q0]? = some (a, .inr (9, fs))) {v : Value} (hn : narrow (tyX8 5) v = v) (hfit : fits (tyX8 5) v = true) (hl : 5 < fs.length) (hdg : decode cc pc = .ok (.putfield 57, 3)) (kk : ∀ (H1 : Heap) (locs1 : List Loc), va_P D vwCl (ws.set q0 (a, .inr (9, fs.set 5 v))) H1 → va_D A (ws.set q0 (a, .inr (9, fs.set 5 v))) → va_S A H0 H1 locs1 → W p l e R s m args below meth c H1 locs1 cells slots Q (F0 m (pc + 3) ls rest)) : W p l e R s m args below meth c H locs cells slots Q (F0 m pc ls (v :: .ref a :: rest)) := va_put (C := RX8) (T := TX8) (N := 12) (ci := 9) hx hb hts inX8 tyX8 tkX8 nmX8 hown hK hP hD hS0 q0 he rfl 5 (by decide) (hts _ t103) (fun _ h => h) rfl (tkX8 5 (by decide)) hn hfit hl hdg kk
theorem dX8_advance_119 : decode cX8_advance 119 = .ok (.goto 87, 3) := by decide +kernel
theorem dX8_advance_206 : decode cX8_advance 206 = .ok (.return_, 1) := by decide +kernel
set_option maxHeartbeats 4000000 in
set_option maxRecDepth 100000 in
theorem k_advance900 (l : Launch) (dC : Nat → ClassId) (dI : Nat → Nat → Nat) (cy : Nat → ClassId) (sz : Nat) (ad : Nat → Nat)  : Met l yX8_advance (wl yX8_advance cX8_advance 1 none) ({ frames := 1, cells := 0, slots := 0, locals := 64 }) (Pw (dC, dI) vwCl cy [(ad 1, .inr (9, [.ref (ad 2), .ref (ad 3), .int 0, .int 900, .int 0, .int 0, .int 0, .int 0, .long 0, .int 0, .int 0, .int 0]))] sz [.ref (ad 1)] nE) (Qv (dC, dI) vwCl (fun (u : Unit) => True) (O_k_advance900 cy ad) (va_A [(ad 1, .inr (9, [.ref (ad 2), .ref (ad 3), .int 0, .int 900, .int 0, .int 0, .int 0, .int 0, .long 0, .int 0, .int 0, .int 0]))] sz)) 0 0 (va_A [(ad 1, .inr (9, [.ref (ad 2), .ref (ad 3), .int 0, .int 900, .int 0, .int 0, .int 0, .int 0, .long 0, .int 0, .int 0, .int 0]))] sz) := by
  refine mw (Qc := Qv (dC, dI) vwCl (fun (u : Unit) => True) (O_k_advance900 cy ad)) RX8 rfl (by decide +kernel) (Nat.le_of_ble_eq_true rfl) ?_
  intro p e s m below meth c A hx hb hr hlocks av9 hav hts hown hnm hml hK hP hD hA hS hE hAe Q9 hQ9 ls hl
  have hl : lv_has ls 1 [(0, .ref (ad 1))] := hl
  refine lv_aload_n hx hb dX8_advance_0 rfl (lv_at hl 0 rfl) ?_
  refine gf_X8_39 hx hb hts hown hK hP 0 rfl rfl dX8_advance_1 ?_
  refine lv_aload_n hx hb dX8_advance_4 rfl (lv_at hl 0 rfl) ?_
  refine gf_X8_33 hx hb hts hown hK hP 0 rfl rfl dX8_advance_5 ?_
  refine lv_icmp_ge (tgt := 52) hx hb dX8_advance_8 (by decide) (fun _ => ?_) (fun c9 => absurd (by decide) c9)
  refine lv_aload_n hx hb dX8_advance_52 rfl (lv_at hl 0 rfl) ?_
  refine lv_aload_n hx hb dX8_advance_53 rfl (lv_at hl 0 rfl) ?_
  refine gf_X8_39 hx hb hts hown hK hP 0 rfl rfl dX8_advance_54 ?_
  refine pf_X8_51 hx hb hts hown hK hP hD hS 0 rfl rfl rfl (Nat.le_of_ble_eq_true rfl) dX8_advance_57 (fun H locs hP hD hS => ?_)
  have hP : va_P (dC, dI) vwCl [(ad 1, .inr (9, [.ref (ad 2), .ref (ad 3), .int 0, .int 900, .int 0, .int 0, .int 0, .int 0, .long 0, .int 0, .int 0, .int 0]))] H := hP
  have hD : va_D A [(ad 1, .inr (9, [.ref (ad 2), .ref (ad 3), .int 0, .int 900, .int 0, .int 0, .int 0, .int 0, .long 0, .int 0, .int 0, .int 0]))] := hD
  refine lv_aload_n hx hb dX8_advance_60 rfl (lv_at hl 0 rfl) ?_
  refine lv_iconst (v := (-1)) hx hb dX8_advance_61 (by decide) ?_
  refine pf_X8_54 hx hb hts hown hK hP hD hS 0 rfl rfl rfl (Nat.le_of_ble_eq_true rfl) dX8_advance_62 (fun H locs hP hD hS => ?_)
  have hP : va_P (dC, dI) vwCl [(ad 1, .inr (9, [.ref (ad 2), .ref (ad 3), .int 0, .int 900, .int 0, .int 0, .int 0, .int (-1), .long 0, .int 0, .int 0, .int 0]))] H := hP
  have hD : va_D A [(ad 1, .inr (9, [.ref (ad 2), .ref (ad 3), .int 0, .int 900, .int 0, .int 0, .int 0, .int (-1), .long 0, .int 0, .int 0, .int 0]))] := hD
  refine lv_aload_n hx hb dX8_advance_65 rfl (lv_at hl 0 rfl) ?_
  refine gf_X8_33 hx hb hts hown hK hP 0 rfl rfl dX8_advance_66 ?_
  refine lv_aload_n hx hb dX8_advance_69 rfl (lv_at hl 0 rfl) ?_
  refine gf_X8_36 hx hb hts hown hK hP 0 rfl rfl dX8_advance_70 ?_
  refine lv_icmp_le (tgt := 103) hx hb dX8_advance_73 (by decide) (fun _ => ?_) (fun c9 => absurd (by decide) c9)
  refine lv_aload_n hx hb dX8_advance_103 rfl (lv_at hl 0 rfl) ?_
  refine gf_X8_39 hx hb hts hown hK hP 0 rfl rfl dX8_advance_104 ?_
  refine lv_aload_n hx hb dX8_advance_107 rfl (lv_at hl 0 rfl) ?_
  refine gf_X8_33 hx hb hts hown hK hP 0 rfl rfl dX8_advance_108 ?_
  refine lv_icmp_lt (tgt := 122) hx hb dX8_advance_111 (by decide) (fun c9 => absurd c9 (by decide)) (fun _ => ?_)
  refine lv_aload_n hx hb dX8_advance_114 rfl (lv_at hl 0 rfl) ?_
  refine lv_iconst (v := 3) hx hb dX8_advance_115 (by decide) ?_
  refine pf_X8_57 hx hb hts hown hK hP hD hS 0 rfl rfl rfl (Nat.le_of_ble_eq_true rfl) dX8_advance_116 (fun H locs hP hD hS => ?_)
  have hP : va_P (dC, dI) vwCl [(ad 1, .inr (9, [.ref (ad 2), .ref (ad 3), .int 0, .int 900, .int 0, .int 3, .int 0, .int (-1), .long 0, .int 0, .int 0, .int 0]))] H := hP
  have hD : va_D A [(ad 1, .inr (9, [.ref (ad 2), .ref (ad 3), .int 0, .int 900, .int 0, .int 3, .int 0, .int (-1), .long 0, .int 0, .int 0, .int 0]))] := hD
  refine lv_goto (tgt := 206) hx hb dX8_advance_119 (by decide) ?_
  rw [hQ9]
  exact re_v () hx hb hr hlocks trivial (hP.sub [0] rfl) (hD.sub [0] rfl rfl) hS dX8_advance_206
abbrev cX8_open : ByteArray := prog_10_method_3_code
def yX8_open : MethodName := ⟨RX8, "open", "(I)V"⟩
theorem t557 : Cond.code yX8_open cX8_open 2 none ∈ GW := gw_mem 671 (by decide +kernel) (by decide +kernel)
abbrev O_k_open900 (cy : Nat → ClassId) (ad : Nat → Nat) (u : Unit) : va_W := [(ad 1, .inr (9, [.ref (ad 2), .ref (ad 3), .int 0, .int 900, .int 0, .int 3, .int 0, .int (-1), .long 0, .int 0, .int 0, .int 0]))]
theorem dX8_open_0 : decode cX8_open 0 = .ok (.aload_n 0, 1) := by decide +kernel
theorem dX8_open_1 : decode cX8_open 1 = .ok (.iload_n 1, 1) := by decide +kernel
theorem dX8_open_2 : decode cX8_open 2 = .ok (.putfield 36, 3) := by decide +kernel
theorem pf_X8_36 {p : Program} {l : Launch} {e : Env} {R : Room} {s : State} {m : MethodId} {args : Array Value} {below : List Frame} {meth : Method} {c : Code} {H : Heap} {locs : List Loc} {cells slots : Nat} {Q : State → Prop} {cc : ByteArray} {pc : Nat} {ls : Array Slot} {rest : List Value} {D : va_G} {A : Nat → Prop} {a : Nat} {tys : List (ClassId × FieldType)} {ws : va_W} {H0 : Heap} (hx : p.tables.exec = Jvm.exec) (hb : c.code = cc) (hts : ∀ w ∈ GW, w.before args s = true) (hown : s.vm.findClass RX8 = some m.cls) (hK : va_K D vwCl tys s) (hP : va_P D vwCl ws H) (hD : va_D A ws) (hS0 : va_S A H0 H locs) (q0 : Nat) {fs : List Value} (he : ws[q0]? = some (a, .inr (9, fs))) {v : Value} (hn : narrow (tyX8 3) v = v) (hfit : fits (tyX8 3) v = true) (hl : 3 < fs.length) (hdg : decode cc pc = .ok (.putfield 36, 3)) (kk : ∀ (H1 : Heap) (locs1 : List Loc), va_P D vwCl (ws.set q0 (a, .inr (9, fs.set 3 v))) H1 → va_D A (ws.set q0 (a, .inr (9, fs.set 3 v))) → va_S A H0 H1 locs1 → W p l e R s m args below meth c H1 locs1 cells slots Q (F0 m (pc + 3) ls rest)) : W p l e R s m args below meth c H locs cells slots Q (F0 m pc ls (v :: .ref a :: rest)) := va_put (C := RX8) (T := TX8) (N := 12) (ci := 9) hx hb hts inX8 tyX8 tkX8 nmX8 hown hK hP hD hS0 q0 he rfl 3 (by decide) (hts _ t98) (fun _ h => h) rfl (tkX8 3 (by decide)) hn hfit hl hdg kk
theorem dX8_open_5 : decode cX8_open 5 = .ok (.aload_n 0, 1) := by decide +kernel
theorem dX8_open_6 : decode cX8_open 6 = .ok (.iconst 0, 1) := by decide +kernel
theorem dX8_open_7 : decode cX8_open 7 = .ok (.putfield 39, 3) := by decide +kernel
theorem pf_X8_39 {p : Program} {l : Launch} {e : Env} {R : Room} {s : State} {m : MethodId} {args : Array Value} {below : List Frame} {meth : Method} {c : Code} {H : Heap} {locs : List Loc} {cells slots : Nat} {Q : State → Prop} {cc : ByteArray} {pc : Nat} {ls : Array Slot} {rest : List Value} {D : va_G} {A : Nat → Prop} {a : Nat} {tys : List (ClassId × FieldType)} {ws : va_W} {H0 : Heap} (hx : p.tables.exec = Jvm.exec) (hb : c.code = cc) (hts : ∀ w ∈ GW, w.before args s = true) (hown : s.vm.findClass RX8 = some m.cls) (hK : va_K D vwCl tys s) (hP : va_P D vwCl ws H) (hD : va_D A ws) (hS0 : va_S A H0 H locs) (q0 : Nat) {fs : List Value} (he : ws[q0]? = some (a, .inr (9, fs))) {v : Value} (hn : narrow (tyX8 4) v = v) (hfit : fits (tyX8 4) v = true) (hl : 4 < fs.length) (hdg : decode cc pc = .ok (.putfield 39, 3)) (kk : ∀ (H1 : Heap) (locs1 : List Loc), va_P D vwCl (ws.set q0 (a, .inr (9, fs.set 4 v))) H1 → va_D A (ws.set q0 (a, .inr (9, fs.set 4 v))) → va_S A H0 H1 locs1 → W p l e R s m args below meth c H1 locs1 cells slots Q (F0 m (pc + 3) ls rest)) : W p l e R s m args below meth c H locs cells slots Q (F0 m pc ls (v :: .ref a :: rest)) := va_put (C := RX8) (T := TX8) (N := 12) (ci := 9) hx hb hts inX8 tyX8 tkX8 nmX8 hown hK hP hD hS0 q0 he rfl 4 (by decide) (hts _ t99) (fun _ h => h) rfl (tkX8 4 (by decide)) hn hfit hl hdg kk
theorem dX8_open_10 : decode cX8_open 10 = .ok (.aload_n 0, 1) := by decide +kernel
theorem dX8_open_11 : decode cX8_open 11 = .ok (.iconst 0, 1) := by decide +kernel
theorem dX8_open_12 : decode cX8_open 12 = .ok (.putfield 42, 3) := by decide +kernel
theorem t114 : Cond.fieldLink RX8 42 "LikenessPound$Tape" "faultKind" "I" ∈ GW := gw_mem 228 (by decide +kernel) (by decide +kernel)
theorem pf_X8_42 {p : Program} {l : Launch} {e : Env} {R : Room} {s : State} {m : MethodId} {args : Array Value} {below : List Frame} {meth : Method} {c : Code} {H : Heap} {locs : List Loc} {cells slots : Nat} {Q : State → Prop} {cc : ByteArray} {pc : Nat} {ls : Array Slot} {rest : List Value} {D : va_G} {A : Nat → Prop} {a : Nat} {tys : List (ClassId × FieldType)} {ws : va_W} {H0 : Heap} (hx : p.tables.exec = Jvm.exec) (hb : c.code = cc) (hts : ∀ w ∈ GW, w.before args s = true) (hown : s.vm.findClass RX8 = some m.cls) (hK : va_K D vwCl tys s) (hP : va_P D vwCl ws H) (hD : va_D A ws) (hS0 : va_S A H0 H locs) (q0 : Nat) {fs : List Value} (he : ws[q0]? = some (a, .inr (9, fs))) {v : Value} (hn : narrow (tyX8 10) v = v) (hfit : fits (tyX8 10) v = true) (hl : 10 < fs.length) (hdg : decode cc pc = .ok (.putfield 42, 3)) (kk : ∀ (H1 : Heap) (locs1 : List Loc), va_P D vwCl (ws.set q0 (a, .inr (9, fs.set 10 v))) H1 → va_D A (ws.set q0 (a, .inr (9, fs.set 10 v))) → va_S A H0 H1 locs1 → W p l e R s m args below meth c H1 locs1 cells slots Q (F0 m (pc + 3) ls rest)) : W p l e R s m args below meth c H locs cells slots Q (F0 m pc ls (v :: .ref a :: rest)) := va_put (C := RX8) (T := TX8) (N := 12) (ci := 9) hx hb hts inX8 tyX8 tkX8 nmX8 hown hK hP hD hS0 q0 he rfl 10 (by decide) (hts _ t114) (fun _ h => h) rfl (tkX8 10 (by decide)) hn hfit hl hdg kk
theorem dX8_open_15 : decode cX8_open 15 = .ok (.aload_n 0, 1) := by decide +kernel
theorem dX8_open_16 : decode cX8_open 16 = .ok (.iconst 0, 1) := by decide +kernel
theorem dX8_open_17 : decode cX8_open 17 = .ok (.putfield 45, 3) := by decide +kernel
theorem t116 : Cond.fieldLink RX8 45 "LikenessPound$Tape" "faultPlace" "I" ∈ GW := gw_mem 230 (by decide +kernel) (by decide +kernel)
theorem pf_X8_45 {p : Program} {l : Launch} {e : Env} {R : Room} {s : State} {m : MethodId} {args : Array Value} {below : List Frame} {meth : Method} {c : Code} {H : Heap} {locs : List Loc} {cells slots : Nat} {Q : State → Prop} {cc : ByteArray} {pc : Nat} {ls : Array Slot} {rest : List Value} {D : va_G} {A : Nat → Prop} {a : Nat} {tys : List (ClassId × FieldType)} {ws : va_W} {H0 : Heap} (hx : p.tables.exec = Jvm.exec) (hb : c.code = cc) (hts : ∀ w ∈ GW, w.before args s = true) (hown : s.vm.findClass RX8 = some m.cls) (hK : va_K D vwCl tys s) (hP : va_P D vwCl ws H) (hD : va_D A ws) (hS0 : va_S A H0 H locs) (q0 : Nat) {fs : List Value} (he : ws[q0]? = some (a, .inr (9, fs))) {v : Value} (hn : narrow (tyX8 11) v = v) (hfit : fits (tyX8 11) v = true) (hl : 11 < fs.length) (hdg : decode cc pc = .ok (.putfield 45, 3)) (kk : ∀ (H1 : Heap) (locs1 : List Loc), va_P D vwCl (ws.set q0 (a, .inr (9, fs.set 11 v))) H1 → va_D A (ws.set q0 (a, .inr (9, fs.set 11 v))) → va_S A H0 H1 locs1 → W p l e R s m args below meth c H1 locs1 cells slots Q (F0 m (pc + 3) ls rest)) : W p l e R s m args below meth c H locs cells slots Q (F0 m pc ls (v :: .ref a :: rest)) := va_put (C := RX8) (T := TX8) (N := 12) (ci := 9) hx hb hts inX8 tyX8 tkX8 nmX8 hown hK hP hD hS0 q0 he rfl 11 (by decide) (hts _ t116) (fun _ h => h) rfl (tkX8 11 (by decide)) hn hfit hl hdg kk
theorem dX8_open_20 : decode cX8_open 20 = .ok (.aload_n 0, 1) := by decide +kernel
theorem dX8_open_21 : decode cX8_open 21 = .ok (.invokevirtual 48, 3) := by decide +kernel
theorem t558 : Cond.methodLink RX8 48 yX8_advance ∈ GW := gw_mem 672 (by decide +kernel) (by decide +kernel)
theorem t559 : Cond.instanceMethod yX8_advance ∈ GW := gw_mem 673 (by decide +kernel) (by decide +kernel)
theorem t560 : Cond.selects RX8 yX8_advance yX8_advance ∈ GW := gw_mem 674 (by decide +kernel) (by decide +kernel)
theorem cw_X8_48 {R : Room} {s : State} {args : Array Value} {rm : Room} {mc ms : Nat} (hts : ∀ w ∈ GW, w.before args s = true) (hrc : rm.cells = mc) (hrs : rm.slots = ms) (hR : rm.frames + 1 ≤ R.frames ∧ 8 + (1 + 11) + rm.locals ≤ R.locals) : CallW R s args RX8 RX8 48 yX8_advance cX8_advance 1 none (wl yX8_advance cX8_advance 1 none) rm mc ms 0 := cwV 0 hts (gi_V t558 t559 t560 t2 t561) rfl hrc hrs (by decide +kernel) hR
theorem dX8_open_24 : decode cX8_open 24 = .ok (.return_, 1) := by decide +kernel
set_option maxHeartbeats 4000000 in
set_option maxRecDepth 100000 in
theorem k_open900 (l : Launch) (dC : Nat → ClassId) (dI : Nat → Nat → Nat) (cy : Nat → ClassId) (sz : Nat) (ad : Nat → Nat)  : Met l yX8_open (wl yX8_open cX8_open 2 none) ({ frames := 2, cells := 0, slots := 0, locals := 128 }) (Pw (dC, dI) vwCl cy [(ad 1, .inr (9, [.ref (ad 2), .ref (ad 3), .int 0, .int 0, .int 0, .int 0, .int 0, .int 0, .long 0, .int 0, .int 0, .int 0]))] sz [.ref (ad 1), .int 900] nE) (Qv (dC, dI) vwCl (fun (u : Unit) => True) (O_k_open900 cy ad) (va_A [(ad 1, .inr (9, [.ref (ad 2), .ref (ad 3), .int 0, .int 0, .int 0, .int 0, .int 0, .int 0, .long 0, .int 0, .int 0, .int 0]))] sz)) 0 0 (va_A [(ad 1, .inr (9, [.ref (ad 2), .ref (ad 3), .int 0, .int 0, .int 0, .int 0, .int 0, .int 0, .long 0, .int 0, .int 0, .int 0]))] sz) := by
  refine mw (Qc := Qv (dC, dI) vwCl (fun (u : Unit) => True) (O_k_open900 cy ad)) RX8 rfl (by decide +kernel) (Nat.le_of_ble_eq_true rfl) ?_
  intro p e s m below meth c A hx hb hr hlocks av9 hav hts hown hnm hml hK hP hD hA hS hE hAe Q9 hQ9 ls hl
  have hl : lv_has ls 2 [(0, .ref (ad 1)), (1, .int 900)] := hl
  refine lv_aload_n hx hb dX8_open_0 rfl (lv_at hl 0 rfl) ?_
  refine lv_iload_n hx hb dX8_open_1 rfl (lv_at hl 1 rfl) ?_
  refine pf_X8_36 hx hb hts hown hK hP hD hS 0 rfl rfl rfl (Nat.le_of_ble_eq_true rfl) dX8_open_2 (fun H locs hP hD hS => ?_)
  have hP : va_P (dC, dI) vwCl [(ad 1, .inr (9, [.ref (ad 2), .ref (ad 3), .int 0, .int 900, .int 0, .int 0, .int 0, .int 0, .long 0, .int 0, .int 0, .int 0]))] H := hP
  have hD : va_D A [(ad 1, .inr (9, [.ref (ad 2), .ref (ad 3), .int 0, .int 900, .int 0, .int 0, .int 0, .int 0, .long 0, .int 0, .int 0, .int 0]))] := hD
  refine lv_aload_n hx hb dX8_open_5 rfl (lv_at hl 0 rfl) ?_
  refine lv_iconst (v := 0) hx hb dX8_open_6 (by decide) ?_
  refine pf_X8_39 hx hb hts hown hK hP hD hS 0 rfl rfl rfl (Nat.le_of_ble_eq_true rfl) dX8_open_7 (fun H locs hP hD hS => ?_)
  have hP : va_P (dC, dI) vwCl [(ad 1, .inr (9, [.ref (ad 2), .ref (ad 3), .int 0, .int 900, .int 0, .int 0, .int 0, .int 0, .long 0, .int 0, .int 0, .int 0]))] H := hP
  have hD : va_D A [(ad 1, .inr (9, [.ref (ad 2), .ref (ad 3), .int 0, .int 900, .int 0, .int 0, .int 0, .int 0, .long 0, .int 0, .int 0, .int 0]))] := hD
  refine lv_aload_n hx hb dX8_open_10 rfl (lv_at hl 0 rfl) ?_
  refine lv_iconst (v := 0) hx hb dX8_open_11 (by decide) ?_
  refine pf_X8_42 hx hb hts hown hK hP hD hS 0 rfl rfl rfl (Nat.le_of_ble_eq_true rfl) dX8_open_12 (fun H locs hP hD hS => ?_)
  have hP : va_P (dC, dI) vwCl [(ad 1, .inr (9, [.ref (ad 2), .ref (ad 3), .int 0, .int 900, .int 0, .int 0, .int 0, .int 0, .long 0, .int 0, .int 0, .int 0]))] H := hP
  have hD : va_D A [(ad 1, .inr (9, [.ref (ad 2), .ref (ad 3), .int 0, .int 900, .int 0, .int 0, .int 0, .int 0, .long 0, .int 0, .int 0, .int 0]))] := hD
  refine lv_aload_n hx hb dX8_open_15 rfl (lv_at hl 0 rfl) ?_
  refine lv_iconst (v := 0) hx hb dX8_open_16 (by decide) ?_
  refine pf_X8_45 hx hb hts hown hK hP hD hS 0 rfl rfl rfl (Nat.le_of_ble_eq_true rfl) dX8_open_17 (fun H locs hP hD hS => ?_)
  have hP : va_P (dC, dI) vwCl [(ad 1, .inr (9, [.ref (ad 2), .ref (ad 3), .int 0, .int 900, .int 0, .int 0, .int 0, .int 0, .long 0, .int 0, .int 0, .int 0]))] H := hP
  have hD : va_D A [(ad 1, .inr (9, [.ref (ad 2), .ref (ad 3), .int 0, .int 900, .int 0, .int 0, .int 0, .int 0, .long 0, .int 0, .int 0, .int 0]))] := hD
  refine lv_aload_n hx hb dX8_open_20 rfl (lv_at hl 0 rfl) ?_
  refine jn_v (wr := []) (rV (As := []) (rest := []) (ci := 9) ⟨hx, hb, hml, hown, hts⟩ (k_advance900 l dC dI cy _ ad ) (cw_X8_48 hts rfl rfl ⟨Nat.le_of_ble_eq_true rfl, Nat.le_of_ble_eq_true rfl⟩) hP hD hK [0] rfl rfl rfl rfl bl0 e0 rfl hl.1 rfl (Nat.le_of_ble_eq_true rfl) dX8_open_21 ⟨Nat.le_of_ble_eq_true rfl, Nat.le_of_ble_eq_true rfl⟩) hP hD hS hA [0] [] rfl rfl rfl (by decide) (fun u_3 H locs hp_2 hP hD hS => ?_)
  have hp_2 : True := hp_2
  have hP : va_P (dC, dI) vwCl [(ad 1, .inr (9, [.ref (ad 2), .ref (ad 3), .int 0, .int 900, .int 0, .int 3, .int 0, .int (-1), .long 0, .int 0, .int 0, .int 0]))] H := hP
  have hD : va_D A [(ad 1, .inr (9, [.ref (ad 2), .ref (ad 3), .int 0, .int 900, .int 0, .int 3, .int 0, .int (-1), .long 0, .int 0, .int 0, .int 0]))] := hD
  rw [hQ9]
  exact re_v () hx hb hr hlocks trivial (hP.sub [0] rfl) (hD.sub [0] rfl rfl) hS dX8_open_24
abbrev O_k_advance400 (cy : Nat → ClassId) (ad : Nat → Nat) (u : Unit) : va_W := [(ad 1, .inr (9, [.ref (ad 2), .ref (ad 3), .int 0, .int 400, .int 0, .int 3, .int 0, .int (-1), .long 0, .int 0, .int 0, .int 0]))]
set_option maxHeartbeats 4000000 in
set_option maxRecDepth 100000 in
theorem k_advance400 (l : Launch) (dC : Nat → ClassId) (dI : Nat → Nat → Nat) (cy : Nat → ClassId) (sz : Nat) (ad : Nat → Nat)  : Met l yX8_advance (wl yX8_advance cX8_advance 1 none) ({ frames := 1, cells := 0, slots := 0, locals := 64 }) (Pw (dC, dI) vwCl cy [(ad 1, .inr (9, [.ref (ad 2), .ref (ad 3), .int 0, .int 400, .int 0, .int 0, .int 0, .int 0, .long 0, .int 0, .int 0, .int 0]))] sz [.ref (ad 1)] nE) (Qv (dC, dI) vwCl (fun (u : Unit) => True) (O_k_advance400 cy ad) (va_A [(ad 1, .inr (9, [.ref (ad 2), .ref (ad 3), .int 0, .int 400, .int 0, .int 0, .int 0, .int 0, .long 0, .int 0, .int 0, .int 0]))] sz)) 0 0 (va_A [(ad 1, .inr (9, [.ref (ad 2), .ref (ad 3), .int 0, .int 400, .int 0, .int 0, .int 0, .int 0, .long 0, .int 0, .int 0, .int 0]))] sz) := by
  refine mw (Qc := Qv (dC, dI) vwCl (fun (u : Unit) => True) (O_k_advance400 cy ad)) RX8 rfl (by decide +kernel) (Nat.le_of_ble_eq_true rfl) ?_
  intro p e s m below meth c A hx hb hr hlocks av9 hav hts hown hnm hml hK hP hD hA hS hE hAe Q9 hQ9 ls hl
  have hl : lv_has ls 1 [(0, .ref (ad 1))] := hl
  refine lv_aload_n hx hb dX8_advance_0 rfl (lv_at hl 0 rfl) ?_
  refine gf_X8_39 hx hb hts hown hK hP 0 rfl rfl dX8_advance_1 ?_
  refine lv_aload_n hx hb dX8_advance_4 rfl (lv_at hl 0 rfl) ?_
  refine gf_X8_33 hx hb hts hown hK hP 0 rfl rfl dX8_advance_5 ?_
  refine lv_icmp_ge (tgt := 52) hx hb dX8_advance_8 (by decide) (fun _ => ?_) (fun c9 => absurd (by decide) c9)
  refine lv_aload_n hx hb dX8_advance_52 rfl (lv_at hl 0 rfl) ?_
  refine lv_aload_n hx hb dX8_advance_53 rfl (lv_at hl 0 rfl) ?_
  refine gf_X8_39 hx hb hts hown hK hP 0 rfl rfl dX8_advance_54 ?_
  refine pf_X8_51 hx hb hts hown hK hP hD hS 0 rfl rfl rfl (Nat.le_of_ble_eq_true rfl) dX8_advance_57 (fun H locs hP hD hS => ?_)
  have hP : va_P (dC, dI) vwCl [(ad 1, .inr (9, [.ref (ad 2), .ref (ad 3), .int 0, .int 400, .int 0, .int 0, .int 0, .int 0, .long 0, .int 0, .int 0, .int 0]))] H := hP
  have hD : va_D A [(ad 1, .inr (9, [.ref (ad 2), .ref (ad 3), .int 0, .int 400, .int 0, .int 0, .int 0, .int 0, .long 0, .int 0, .int 0, .int 0]))] := hD
  refine lv_aload_n hx hb dX8_advance_60 rfl (lv_at hl 0 rfl) ?_
  refine lv_iconst (v := (-1)) hx hb dX8_advance_61 (by decide) ?_
  refine pf_X8_54 hx hb hts hown hK hP hD hS 0 rfl rfl rfl (Nat.le_of_ble_eq_true rfl) dX8_advance_62 (fun H locs hP hD hS => ?_)
  have hP : va_P (dC, dI) vwCl [(ad 1, .inr (9, [.ref (ad 2), .ref (ad 3), .int 0, .int 400, .int 0, .int 0, .int 0, .int (-1), .long 0, .int 0, .int 0, .int 0]))] H := hP
  have hD : va_D A [(ad 1, .inr (9, [.ref (ad 2), .ref (ad 3), .int 0, .int 400, .int 0, .int 0, .int 0, .int (-1), .long 0, .int 0, .int 0, .int 0]))] := hD
  refine lv_aload_n hx hb dX8_advance_65 rfl (lv_at hl 0 rfl) ?_
  refine gf_X8_33 hx hb hts hown hK hP 0 rfl rfl dX8_advance_66 ?_
  refine lv_aload_n hx hb dX8_advance_69 rfl (lv_at hl 0 rfl) ?_
  refine gf_X8_36 hx hb hts hown hK hP 0 rfl rfl dX8_advance_70 ?_
  refine lv_icmp_le (tgt := 103) hx hb dX8_advance_73 (by decide) (fun _ => ?_) (fun c9 => absurd (by decide) c9)
  refine lv_aload_n hx hb dX8_advance_103 rfl (lv_at hl 0 rfl) ?_
  refine gf_X8_39 hx hb hts hown hK hP 0 rfl rfl dX8_advance_104 ?_
  refine lv_aload_n hx hb dX8_advance_107 rfl (lv_at hl 0 rfl) ?_
  refine gf_X8_33 hx hb hts hown hK hP 0 rfl rfl dX8_advance_108 ?_
  refine lv_icmp_lt (tgt := 122) hx hb dX8_advance_111 (by decide) (fun c9 => absurd c9 (by decide)) (fun _ => ?_)
  refine lv_aload_n hx hb dX8_advance_114 rfl (lv_at hl 0 rfl) ?_
  refine lv_iconst (v := 3) hx hb dX8_advance_115 (by decide) ?_
  refine pf_X8_57 hx hb hts hown hK hP hD hS 0 rfl rfl rfl (Nat.le_of_ble_eq_true rfl) dX8_advance_116 (fun H locs hP hD hS => ?_)
  have hP : va_P (dC, dI) vwCl [(ad 1, .inr (9, [.ref (ad 2), .ref (ad 3), .int 0, .int 400, .int 0, .int 3, .int 0, .int (-1), .long 0, .int 0, .int 0, .int 0]))] H := hP
  have hD : va_D A [(ad 1, .inr (9, [.ref (ad 2), .ref (ad 3), .int 0, .int 400, .int 0, .int 3, .int 0, .int (-1), .long 0, .int 0, .int 0, .int 0]))] := hD
  refine lv_goto (tgt := 206) hx hb dX8_advance_119 (by decide) ?_
  rw [hQ9]
  exact re_v () hx hb hr hlocks trivial (hP.sub [0] rfl) (hD.sub [0] rfl rfl) hS dX8_advance_206
abbrev O_k_open400 (cy : Nat → ClassId) (ad : Nat → Nat) (u : Unit) : va_W := [(ad 1, .inr (9, [.ref (ad 2), .ref (ad 3), .int 0, .int 400, .int 0, .int 3, .int 0, .int (-1), .long 0, .int 0, .int 0, .int 0]))]
set_option maxHeartbeats 4000000 in
set_option maxRecDepth 100000 in
theorem k_open400 (l : Launch) (dC : Nat → ClassId) (dI : Nat → Nat → Nat) (cy : Nat → ClassId) (sz : Nat) (ad : Nat → Nat)  : Met l yX8_open (wl yX8_open cX8_open 2 none) ({ frames := 2, cells := 0, slots := 0, locals := 128 }) (Pw (dC, dI) vwCl cy [(ad 1, .inr (9, [.ref (ad 2), .ref (ad 3), .int 0, .int 0, .int 0, .int 0, .int 0, .int 0, .long 0, .int 0, .int 0, .int 0]))] sz [.ref (ad 1), .int 400] nE) (Qv (dC, dI) vwCl (fun (u : Unit) => True) (O_k_open400 cy ad) (va_A [(ad 1, .inr (9, [.ref (ad 2), .ref (ad 3), .int 0, .int 0, .int 0, .int 0, .int 0, .int 0, .long 0, .int 0, .int 0, .int 0]))] sz)) 0 0 (va_A [(ad 1, .inr (9, [.ref (ad 2), .ref (ad 3), .int 0, .int 0, .int 0, .int 0, .int 0, .int 0, .long 0, .int 0, .int 0, .int 0]))] sz) := by
  refine mw (Qc := Qv (dC, dI) vwCl (fun (u : Unit) => True) (O_k_open400 cy ad)) RX8 rfl (by decide +kernel) (Nat.le_of_ble_eq_true rfl) ?_
  intro p e s m below meth c A hx hb hr hlocks av9 hav hts hown hnm hml hK hP hD hA hS hE hAe Q9 hQ9 ls hl
  have hl : lv_has ls 2 [(0, .ref (ad 1)), (1, .int 400)] := hl
  refine lv_aload_n hx hb dX8_open_0 rfl (lv_at hl 0 rfl) ?_
  refine lv_iload_n hx hb dX8_open_1 rfl (lv_at hl 1 rfl) ?_
  refine pf_X8_36 hx hb hts hown hK hP hD hS 0 rfl rfl rfl (Nat.le_of_ble_eq_true rfl) dX8_open_2 (fun H locs hP hD hS => ?_)
  have hP : va_P (dC, dI) vwCl [(ad 1, .inr (9, [.ref (ad 2), .ref (ad 3), .int 0, .int 400, .int 0, .int 0, .int 0, .int 0, .long 0, .int 0, .int 0, .int 0]))] H := hP
  have hD : va_D A [(ad 1, .inr (9, [.ref (ad 2), .ref (ad 3), .int 0, .int 400, .int 0, .int 0, .int 0, .int 0, .long 0, .int 0, .int 0, .int 0]))] := hD
  refine lv_aload_n hx hb dX8_open_5 rfl (lv_at hl 0 rfl) ?_
  refine lv_iconst (v := 0) hx hb dX8_open_6 (by decide) ?_
  refine pf_X8_39 hx hb hts hown hK hP hD hS 0 rfl rfl rfl (Nat.le_of_ble_eq_true rfl) dX8_open_7 (fun H locs hP hD hS => ?_)
  have hP : va_P (dC, dI) vwCl [(ad 1, .inr (9, [.ref (ad 2), .ref (ad 3), .int 0, .int 400, .int 0, .int 0, .int 0, .int 0, .long 0, .int 0, .int 0, .int 0]))] H := hP
  have hD : va_D A [(ad 1, .inr (9, [.ref (ad 2), .ref (ad 3), .int 0, .int 400, .int 0, .int 0, .int 0, .int 0, .long 0, .int 0, .int 0, .int 0]))] := hD
  refine lv_aload_n hx hb dX8_open_10 rfl (lv_at hl 0 rfl) ?_
  refine lv_iconst (v := 0) hx hb dX8_open_11 (by decide) ?_
  refine pf_X8_42 hx hb hts hown hK hP hD hS 0 rfl rfl rfl (Nat.le_of_ble_eq_true rfl) dX8_open_12 (fun H locs hP hD hS => ?_)
  have hP : va_P (dC, dI) vwCl [(ad 1, .inr (9, [.ref (ad 2), .ref (ad 3), .int 0, .int 400, .int 0, .int 0, .int 0, .int 0, .long 0, .int 0, .int 0, .int 0]))] H := hP
  have hD : va_D A [(ad 1, .inr (9, [.ref (ad 2), .ref (ad 3), .int 0, .int 400, .int 0, .int 0, .int 0, .int 0, .long 0, .int 0, .int 0, .int 0]))] := hD
  refine lv_aload_n hx hb dX8_open_15 rfl (lv_at hl 0 rfl) ?_
  refine lv_iconst (v := 0) hx hb dX8_open_16 (by decide) ?_
  refine pf_X8_45 hx hb hts hown hK hP hD hS 0 rfl rfl rfl (Nat.le_of_ble_eq_true rfl) dX8_open_17 (fun H locs hP hD hS => ?_)
  have hP : va_P (dC, dI) vwCl [(ad 1, .inr (9, [.ref (ad 2), .ref (ad 3), .int 0, .int 400, .int 0, .int 0, .int 0, .int 0, .long 0, .int 0, .int 0, .int 0]))] H := hP
  have hD : va_D A [(ad 1, .inr (9, [.ref (ad 2), .ref (ad 3), .int 0, .int 400, .int 0, .int 0, .int 0, .int 0, .long 0, .int 0, .int 0, .int 0]))] := hD
  refine lv_aload_n hx hb dX8_open_20 rfl (lv_at hl 0 rfl) ?_
  refine jn_v (wr := []) (rV (As := []) (rest := []) (ci := 9) ⟨hx, hb, hml, hown, hts⟩ (k_advance400 l dC dI cy _ ad ) (cw_X8_48 hts rfl rfl ⟨Nat.le_of_ble_eq_true rfl, Nat.le_of_ble_eq_true rfl⟩) hP hD hK [0] rfl rfl rfl rfl bl0 e0 rfl hl.1 rfl (Nat.le_of_ble_eq_true rfl) dX8_open_21 ⟨Nat.le_of_ble_eq_true rfl, Nat.le_of_ble_eq_true rfl⟩) hP hD hS hA [0] [] rfl rfl rfl (by decide) (fun u_3 H locs hp_2 hP hD hS => ?_)
  have hp_2 : True := hp_2
  have hP : va_P (dC, dI) vwCl [(ad 1, .inr (9, [.ref (ad 2), .ref (ad 3), .int 0, .int 400, .int 0, .int 3, .int 0, .int (-1), .long 0, .int 0, .int 0, .int 0]))] H := hP
  have hD : va_D A [(ad 1, .inr (9, [.ref (ad 2), .ref (ad 3), .int 0, .int 400, .int 0, .int 3, .int 0, .int (-1), .long 0, .int 0, .int 0, .int 0]))] := hD
  rw [hQ9]
  exact re_v () hx hb hr hlocks trivial (hP.sub [0] rfl) (hD.sub [0] rfl rfl) hS dX8_open_24
abbrev O_k_advance200 (cy : Nat → ClassId) (ad : Nat → Nat) (u : Unit) : va_W := [(ad 1, .inr (9, [.ref (ad 2), .ref (ad 3), .int 0, .int 200, .int 0, .int 3, .int 0, .int (-1), .long 0, .int 0, .int 0, .int 0]))]
set_option maxHeartbeats 4000000 in
set_option maxRecDepth 100000 in
theorem k_advance200 (l : Launch) (dC : Nat → ClassId) (dI : Nat → Nat → Nat) (cy : Nat → ClassId) (sz : Nat) (ad : Nat → Nat)  : Met l yX8_advance (wl yX8_advance cX8_advance 1 none) ({ frames := 1, cells := 0, slots := 0, locals := 64 }) (Pw (dC, dI) vwCl cy [(ad 1, .inr (9, [.ref (ad 2), .ref (ad 3), .int 0, .int 200, .int 0, .int 0, .int 0, .int 0, .long 0, .int 0, .int 0, .int 0]))] sz [.ref (ad 1)] nE) (Qv (dC, dI) vwCl (fun (u : Unit) => True) (O_k_advance200 cy ad) (va_A [(ad 1, .inr (9, [.ref (ad 2), .ref (ad 3), .int 0, .int 200, .int 0, .int 0, .int 0, .int 0, .long 0, .int 0, .int 0, .int 0]))] sz)) 0 0 (va_A [(ad 1, .inr (9, [.ref (ad 2), .ref (ad 3), .int 0, .int 200, .int 0, .int 0, .int 0, .int 0, .long 0, .int 0, .int 0, .int 0]))] sz) := by
  refine mw (Qc := Qv (dC, dI) vwCl (fun (u : Unit) => True) (O_k_advance200 cy ad)) RX8 rfl (by decide +kernel) (Nat.le_of_ble_eq_true rfl) ?_
  intro p e s m below meth c A hx hb hr hlocks av9 hav hts hown hnm hml hK hP hD hA hS hE hAe Q9 hQ9 ls hl
  have hl : lv_has ls 1 [(0, .ref (ad 1))] := hl
  refine lv_aload_n hx hb dX8_advance_0 rfl (lv_at hl 0 rfl) ?_
  refine gf_X8_39 hx hb hts hown hK hP 0 rfl rfl dX8_advance_1 ?_
  refine lv_aload_n hx hb dX8_advance_4 rfl (lv_at hl 0 rfl) ?_
  refine gf_X8_33 hx hb hts hown hK hP 0 rfl rfl dX8_advance_5 ?_
  refine lv_icmp_ge (tgt := 52) hx hb dX8_advance_8 (by decide) (fun _ => ?_) (fun c9 => absurd (by decide) c9)
  refine lv_aload_n hx hb dX8_advance_52 rfl (lv_at hl 0 rfl) ?_
  refine lv_aload_n hx hb dX8_advance_53 rfl (lv_at hl 0 rfl) ?_
  refine gf_X8_39 hx hb hts hown hK hP 0 rfl rfl dX8_advance_54 ?_
  refine pf_X8_51 hx hb hts hown hK hP hD hS 0 rfl rfl rfl (Nat.le_of_ble_eq_true rfl) dX8_advance_57 (fun H locs hP hD hS => ?_)
  have hP : va_P (dC, dI) vwCl [(ad 1, .inr (9, [.ref (ad 2), .ref (ad 3), .int 0, .int 200, .int 0, .int 0, .int 0, .int 0, .long 0, .int 0, .int 0, .int 0]))] H := hP
  have hD : va_D A [(ad 1, .inr (9, [.ref (ad 2), .ref (ad 3), .int 0, .int 200, .int 0, .int 0, .int 0, .int 0, .long 0, .int 0, .int 0, .int 0]))] := hD
  refine lv_aload_n hx hb dX8_advance_60 rfl (lv_at hl 0 rfl) ?_
  refine lv_iconst (v := (-1)) hx hb dX8_advance_61 (by decide) ?_
  refine pf_X8_54 hx hb hts hown hK hP hD hS 0 rfl rfl rfl (Nat.le_of_ble_eq_true rfl) dX8_advance_62 (fun H locs hP hD hS => ?_)
  have hP : va_P (dC, dI) vwCl [(ad 1, .inr (9, [.ref (ad 2), .ref (ad 3), .int 0, .int 200, .int 0, .int 0, .int 0, .int (-1), .long 0, .int 0, .int 0, .int 0]))] H := hP
  have hD : va_D A [(ad 1, .inr (9, [.ref (ad 2), .ref (ad 3), .int 0, .int 200, .int 0, .int 0, .int 0, .int (-1), .long 0, .int 0, .int 0, .int 0]))] := hD
  refine lv_aload_n hx hb dX8_advance_65 rfl (lv_at hl 0 rfl) ?_
  refine gf_X8_33 hx hb hts hown hK hP 0 rfl rfl dX8_advance_66 ?_
  refine lv_aload_n hx hb dX8_advance_69 rfl (lv_at hl 0 rfl) ?_
  refine gf_X8_36 hx hb hts hown hK hP 0 rfl rfl dX8_advance_70 ?_
  refine lv_icmp_le (tgt := 103) hx hb dX8_advance_73 (by decide) (fun _ => ?_) (fun c9 => absurd (by decide) c9)
  refine lv_aload_n hx hb dX8_advance_103 rfl (lv_at hl 0 rfl) ?_
  refine gf_X8_39 hx hb hts hown hK hP 0 rfl rfl dX8_advance_104 ?_
  refine lv_aload_n hx hb dX8_advance_107 rfl (lv_at hl 0 rfl) ?_
  refine gf_X8_33 hx hb hts hown hK hP 0 rfl rfl dX8_advance_108 ?_
  refine lv_icmp_lt (tgt := 122) hx hb dX8_advance_111 (by decide) (fun c9 => absurd c9 (by decide)) (fun _ => ?_)
  refine lv_aload_n hx hb dX8_advance_114 rfl (lv_at hl 0 rfl) ?_
  refine lv_iconst (v := 3) hx hb dX8_advance_115 (by decide) ?_
  refine pf_X8_57 hx hb hts hown hK hP hD hS 0 rfl rfl rfl (Nat.le_of_ble_eq_true rfl) dX8_advance_116 (fun H locs hP hD hS => ?_)
  have hP : va_P (dC, dI) vwCl [(ad 1, .inr (9, [.ref (ad 2), .ref (ad 3), .int 0, .int 200, .int 0, .int 3, .int 0, .int (-1), .long 0, .int 0, .int 0, .int 0]))] H := hP
  have hD : va_D A [(ad 1, .inr (9, [.ref (ad 2), .ref (ad 3), .int 0, .int 200, .int 0, .int 3, .int 0, .int (-1), .long 0, .int 0, .int 0, .int 0]))] := hD
  refine lv_goto (tgt := 206) hx hb dX8_advance_119 (by decide) ?_
  rw [hQ9]
  exact re_v () hx hb hr hlocks trivial (hP.sub [0] rfl) (hD.sub [0] rfl rfl) hS dX8_advance_206
abbrev O_k_open200 (cy : Nat → ClassId) (ad : Nat → Nat) (u : Unit) : va_W := [(ad 1, .inr (9, [.ref (ad 2), .ref (ad 3), .int 0, .int 200, .int 0, .int 3, .int 0, .int (-1), .long 0, .int 0, .int 0, .int 0]))]
set_option maxHeartbeats 4000000 in
set_option maxRecDepth 100000 in
theorem k_open200 (l : Launch) (dC : Nat → ClassId) (dI : Nat → Nat → Nat) (cy : Nat → ClassId) (sz : Nat) (ad : Nat → Nat)  : Met l yX8_open (wl yX8_open cX8_open 2 none) ({ frames := 2, cells := 0, slots := 0, locals := 128 }) (Pw (dC, dI) vwCl cy [(ad 1, .inr (9, [.ref (ad 2), .ref (ad 3), .int 0, .int 0, .int 0, .int 0, .int 0, .int 0, .long 0, .int 0, .int 0, .int 0]))] sz [.ref (ad 1), .int 200] nE) (Qv (dC, dI) vwCl (fun (u : Unit) => True) (O_k_open200 cy ad) (va_A [(ad 1, .inr (9, [.ref (ad 2), .ref (ad 3), .int 0, .int 0, .int 0, .int 0, .int 0, .int 0, .long 0, .int 0, .int 0, .int 0]))] sz)) 0 0 (va_A [(ad 1, .inr (9, [.ref (ad 2), .ref (ad 3), .int 0, .int 0, .int 0, .int 0, .int 0, .int 0, .long 0, .int 0, .int 0, .int 0]))] sz) := by
  refine mw (Qc := Qv (dC, dI) vwCl (fun (u : Unit) => True) (O_k_open200 cy ad)) RX8 rfl (by decide +kernel) (Nat.le_of_ble_eq_true rfl) ?_
  intro p e s m below meth c A hx hb hr hlocks av9 hav hts hown hnm hml hK hP hD hA hS hE hAe Q9 hQ9 ls hl
  have hl : lv_has ls 2 [(0, .ref (ad 1)), (1, .int 200)] := hl
  refine lv_aload_n hx hb dX8_open_0 rfl (lv_at hl 0 rfl) ?_
  refine lv_iload_n hx hb dX8_open_1 rfl (lv_at hl 1 rfl) ?_
  refine pf_X8_36 hx hb hts hown hK hP hD hS 0 rfl rfl rfl (Nat.le_of_ble_eq_true rfl) dX8_open_2 (fun H locs hP hD hS => ?_)
  have hP : va_P (dC, dI) vwCl [(ad 1, .inr (9, [.ref (ad 2), .ref (ad 3), .int 0, .int 200, .int 0, .int 0, .int 0, .int 0, .long 0, .int 0, .int 0, .int 0]))] H := hP
  have hD : va_D A [(ad 1, .inr (9, [.ref (ad 2), .ref (ad 3), .int 0, .int 200, .int 0, .int 0, .int 0, .int 0, .long 0, .int 0, .int 0, .int 0]))] := hD
  refine lv_aload_n hx hb dX8_open_5 rfl (lv_at hl 0 rfl) ?_
  refine lv_iconst (v := 0) hx hb dX8_open_6 (by decide) ?_
  refine pf_X8_39 hx hb hts hown hK hP hD hS 0 rfl rfl rfl (Nat.le_of_ble_eq_true rfl) dX8_open_7 (fun H locs hP hD hS => ?_)
  have hP : va_P (dC, dI) vwCl [(ad 1, .inr (9, [.ref (ad 2), .ref (ad 3), .int 0, .int 200, .int 0, .int 0, .int 0, .int 0, .long 0, .int 0, .int 0, .int 0]))] H := hP
  have hD : va_D A [(ad 1, .inr (9, [.ref (ad 2), .ref (ad 3), .int 0, .int 200, .int 0, .int 0, .int 0, .int 0, .long 0, .int 0, .int 0, .int 0]))] := hD
  refine lv_aload_n hx hb dX8_open_10 rfl (lv_at hl 0 rfl) ?_
  refine lv_iconst (v := 0) hx hb dX8_open_11 (by decide) ?_
  refine pf_X8_42 hx hb hts hown hK hP hD hS 0 rfl rfl rfl (Nat.le_of_ble_eq_true rfl) dX8_open_12 (fun H locs hP hD hS => ?_)
  have hP : va_P (dC, dI) vwCl [(ad 1, .inr (9, [.ref (ad 2), .ref (ad 3), .int 0, .int 200, .int 0, .int 0, .int 0, .int 0, .long 0, .int 0, .int 0, .int 0]))] H := hP
  have hD : va_D A [(ad 1, .inr (9, [.ref (ad 2), .ref (ad 3), .int 0, .int 200, .int 0, .int 0, .int 0, .int 0, .long 0, .int 0, .int 0, .int 0]))] := hD
  refine lv_aload_n hx hb dX8_open_15 rfl (lv_at hl 0 rfl) ?_
  refine lv_iconst (v := 0) hx hb dX8_open_16 (by decide) ?_
  refine pf_X8_45 hx hb hts hown hK hP hD hS 0 rfl rfl rfl (Nat.le_of_ble_eq_true rfl) dX8_open_17 (fun H locs hP hD hS => ?_)
  have hP : va_P (dC, dI) vwCl [(ad 1, .inr (9, [.ref (ad 2), .ref (ad 3), .int 0, .int 200, .int 0, .int 0, .int 0, .int 0, .long 0, .int 0, .int 0, .int 0]))] H := hP
  have hD : va_D A [(ad 1, .inr (9, [.ref (ad 2), .ref (ad 3), .int 0, .int 200, .int 0, .int 0, .int 0, .int 0, .long 0, .int 0, .int 0, .int 0]))] := hD
  refine lv_aload_n hx hb dX8_open_20 rfl (lv_at hl 0 rfl) ?_
  refine jn_v (wr := []) (rV (As := []) (rest := []) (ci := 9) ⟨hx, hb, hml, hown, hts⟩ (k_advance200 l dC dI cy _ ad ) (cw_X8_48 hts rfl rfl ⟨Nat.le_of_ble_eq_true rfl, Nat.le_of_ble_eq_true rfl⟩) hP hD hK [0] rfl rfl rfl rfl bl0 e0 rfl hl.1 rfl (Nat.le_of_ble_eq_true rfl) dX8_open_21 ⟨Nat.le_of_ble_eq_true rfl, Nat.le_of_ble_eq_true rfl⟩) hP hD hS hA [0] [] rfl rfl rfl (by decide) (fun u_3 H locs hp_2 hP hD hS => ?_)
  have hp_2 : True := hp_2
  have hP : va_P (dC, dI) vwCl [(ad 1, .inr (9, [.ref (ad 2), .ref (ad 3), .int 0, .int 200, .int 0, .int 3, .int 0, .int (-1), .long 0, .int 0, .int 0, .int 0]))] H := hP
  have hD : va_D A [(ad 1, .inr (9, [.ref (ad 2), .ref (ad 3), .int 0, .int 200, .int 0, .int 3, .int 0, .int (-1), .long 0, .int 0, .int 0, .int 0]))] := hD
  rw [hQ9]
  exact re_v () hx hb hr hlocks trivial (hP.sub [0] rfl) (hD.sub [0] rfl rfl) hS dX8_open_24
abbrev cX2_read : ByteArray := prog_4_method_2_code
def yX2_read : MethodName := ⟨RX2, "read", "(LLikenessPound$Tape;LLikenessPound$Colony;LLikenessPound$Life;)Z"⟩
theorem t548 : Cond.code yX2_read cX2_read 4 (some .boolean) ∈ GW := gw_mem 662 (by decide +kernel) (by decide +kernel)
abbrev O_k_ctread (cy : Nat → ClassId) (ad : Nat → Nat) (ai : Nat → Nat → Int32) (u : Unit) : va_W := [(ad 4, .inr (3, [.int 0, .int 0, .int 0, .int 0, .int 0])), (ad 1, .inr (9, [.ref (ad 2), .ref (ad 3), .int 0, .int 900, .int 0, .int 3, .int 0, .int (-1), .long 0, .int 0, .int 0, .int 0]))]
theorem dX2_read_0 : decode cX2_read 0 = .ok (.aload_n 2, 1) := by decide +kernel
theorem dX2_read_1 : decode cX2_read 1 = .ok (.invokevirtual 9, 3) := by decide +kernel
theorem t549 : Cond.methodLink RX2 9 yX1_clear ∈ GW := gw_mem 663 (by decide +kernel) (by decide +kernel)
theorem t550 : Cond.instanceMethod yX1_clear ∈ GW := gw_mem 664 (by decide +kernel) (by decide +kernel)
theorem t551 : Cond.selects RX1 yX1_clear yX1_clear ∈ GW := gw_mem 665 (by decide +kernel) (by decide +kernel)
theorem cw_X2_9 {R : Room} {s : State} {args : Array Value} {rm : Room} {mc ms : Nat} (hts : ∀ w ∈ GW, w.before args s = true) (hrc : rm.cells = mc) (hrs : rm.slots = ms) (hR : rm.frames + 1 ≤ R.frames ∧ 8 + (2 + 11) + rm.locals ≤ R.locals) : CallW R s args RX2 RX1 9 yX1_clear cX1_clear 2 none (wl yX1_clear cX1_clear 2 none) rm mc ms 0 := cwV 0 hts (gi_V t549 t550 t551 t16 t552) rfl hrc hrs (by decide +kernel) hR
theorem dX2_read_4 : decode cX2_read 4 = .ok (.aload_n 3, 1) := by decide +kernel
theorem dX2_read_5 : decode cX2_read 5 = .ok (.invokevirtual 14, 3) := by decide +kernel
theorem t553 : Cond.methodLink RX2 14 yX4_clear ∈ GW := gw_mem 667 (by decide +kernel) (by decide +kernel)
theorem t225 : Cond.instanceMethod yX4_clear ∈ GW := gw_mem 339 (by decide +kernel) (by decide +kernel)
theorem t226 : Cond.selects RX4 yX4_clear yX4_clear ∈ GW := gw_mem 340 (by decide +kernel) (by decide +kernel)
theorem cw_X2_14 {R : Room} {s : State} {args : Array Value} {rm : Room} {mc ms : Nat} (hts : ∀ w ∈ GW, w.before args s = true) (hrc : rm.cells = mc) (hrs : rm.slots = ms) (hR : rm.frames + 1 ≤ R.frames ∧ 8 + (2 + 11) + rm.locals ≤ R.locals) : CallW R s args RX2 RX4 14 yX4_clear cX4_clear 2 none (wl yX4_clear cX4_clear 2 none) rm mc ms 0 := cwV 0 hts (gi_V t553 t225 t226 t10 t227) rfl hrc hrs (by decide +kernel) hR
theorem dX2_read_8 : decode cX2_read 8 = .ok (.aload_n 0, 1) := by decide +kernel
theorem dX2_read_9 : decode cX2_read 9 = .ok (.iconst 0, 1) := by decide +kernel
theorem dX2_read_10 : decode cX2_read 10 = .ok (.putfield 17, 3) := by decide +kernel
theorem t156 : Cond.fieldLink RX2 17 "LikenessPound$ColonyText" "roomTold" "Z" ∈ GW := gw_mem 270 (by decide +kernel) (by decide +kernel)
theorem pf_X2_17 {p : Program} {l : Launch} {e : Env} {R : Room} {s : State} {m : MethodId} {args : Array Value} {below : List Frame} {meth : Method} {c : Code} {H : Heap} {locs : List Loc} {cells slots : Nat} {Q : State → Prop} {cc : ByteArray} {pc : Nat} {ls : Array Slot} {rest : List Value} {D : va_G} {A : Nat → Prop} {a : Nat} {tys : List (ClassId × FieldType)} {ws : va_W} {H0 : Heap} (hx : p.tables.exec = Jvm.exec) (hb : c.code = cc) (hts : ∀ w ∈ GW, w.before args s = true) (hown : s.vm.findClass RX2 = some m.cls) (hK : va_K D vwCl tys s) (hP : va_P D vwCl ws H) (hD : va_D A ws) (hS0 : va_S A H0 H locs) (q0 : Nat) {fs : List Value} (he : ws[q0]? = some (a, .inr (3, fs))) {v : Value} (hn : narrow (tyX2 3) v = v) (hfit : fits (tyX2 3) v = true) (hl : 3 < fs.length) (hdg : decode cc pc = .ok (.putfield 17, 3)) (kk : ∀ (H1 : Heap) (locs1 : List Loc), va_P D vwCl (ws.set q0 (a, .inr (3, fs.set 3 v))) H1 → va_D A (ws.set q0 (a, .inr (3, fs.set 3 v))) → va_S A H0 H1 locs1 → W p l e R s m args below meth c H1 locs1 cells slots Q (F0 m (pc + 3) ls rest)) : W p l e R s m args below meth c H locs cells slots Q (F0 m pc ls (v :: .ref a :: rest)) := va_put (C := RX2) (T := TX2) (N := 5) (ci := 3) hx hb hts inX2 tyX2 tkX2 nmX2 hown hK hP hD hS0 q0 he rfl 3 (by decide) (hts _ t156) (fun _ h => h) rfl (tkX2 3 (by decide)) hn hfit hl hdg kk
theorem dX2_read_13 : decode cX2_read 13 = .ok (.aload_n 0, 1) := by decide +kernel
theorem dX2_read_14 : decode cX2_read 14 = .ok (.iconst 0, 1) := by decide +kernel
theorem dX2_read_15 : decode cX2_read 15 = .ok (.putfield 23, 3) := by decide +kernel
theorem t157 : Cond.fieldLink RX2 23 "LikenessPound$ColonyText" "faintTold" "Z" ∈ GW := gw_mem 271 (by decide +kernel) (by decide +kernel)
theorem pf_X2_23 {p : Program} {l : Launch} {e : Env} {R : Room} {s : State} {m : MethodId} {args : Array Value} {below : List Frame} {meth : Method} {c : Code} {H : Heap} {locs : List Loc} {cells slots : Nat} {Q : State → Prop} {cc : ByteArray} {pc : Nat} {ls : Array Slot} {rest : List Value} {D : va_G} {A : Nat → Prop} {a : Nat} {tys : List (ClassId × FieldType)} {ws : va_W} {H0 : Heap} (hx : p.tables.exec = Jvm.exec) (hb : c.code = cc) (hts : ∀ w ∈ GW, w.before args s = true) (hown : s.vm.findClass RX2 = some m.cls) (hK : va_K D vwCl tys s) (hP : va_P D vwCl ws H) (hD : va_D A ws) (hS0 : va_S A H0 H locs) (q0 : Nat) {fs : List Value} (he : ws[q0]? = some (a, .inr (3, fs))) {v : Value} (hn : narrow (tyX2 4) v = v) (hfit : fits (tyX2 4) v = true) (hl : 4 < fs.length) (hdg : decode cc pc = .ok (.putfield 23, 3)) (kk : ∀ (H1 : Heap) (locs1 : List Loc), va_P D vwCl (ws.set q0 (a, .inr (3, fs.set 4 v))) H1 → va_D A (ws.set q0 (a, .inr (3, fs.set 4 v))) → va_S A H0 H1 locs1 → W p l e R s m args below meth c H1 locs1 cells slots Q (F0 m (pc + 3) ls rest)) : W p l e R s m args below meth c H locs cells slots Q (F0 m pc ls (v :: .ref a :: rest)) := va_put (C := RX2) (T := TX2) (N := 5) (ci := 3) hx hb hts inX2 tyX2 tkX2 nmX2 hown hK hP hD hS0 q0 he rfl 4 (by decide) (hts _ t157) (fun _ h => h) rfl (tkX2 4 (by decide)) hn hfit hl hdg kk
theorem dX2_read_18 : decode cX2_read 18 = .ok (.aload_n 0, 1) := by decide +kernel
theorem dX2_read_19 : decode cX2_read 19 = .ok (.iconst 0, 1) := by decide +kernel
theorem dX2_read_20 : decode cX2_read 20 = .ok (.putfield 26, 3) := by decide +kernel
theorem t152 : Cond.fieldLink RX2 26 "LikenessPound$ColonyText" "lines" "I" ∈ GW := gw_mem 266 (by decide +kernel) (by decide +kernel)
theorem pf_X2_26 {p : Program} {l : Launch} {e : Env} {R : Room} {s : State} {m : MethodId} {args : Array Value} {below : List Frame} {meth : Method} {c : Code} {H : Heap} {locs : List Loc} {cells slots : Nat} {Q : State → Prop} {cc : ByteArray} {pc : Nat} {ls : Array Slot} {rest : List Value} {D : va_G} {A : Nat → Prop} {a : Nat} {tys : List (ClassId × FieldType)} {ws : va_W} {H0 : Heap} (hx : p.tables.exec = Jvm.exec) (hb : c.code = cc) (hts : ∀ w ∈ GW, w.before args s = true) (hown : s.vm.findClass RX2 = some m.cls) (hK : va_K D vwCl tys s) (hP : va_P D vwCl ws H) (hD : va_D A ws) (hS0 : va_S A H0 H locs) (q0 : Nat) {fs : List Value} (he : ws[q0]? = some (a, .inr (3, fs))) {v : Value} (hn : narrow (tyX2 0) v = v) (hfit : fits (tyX2 0) v = true) (hl : 0 < fs.length) (hdg : decode cc pc = .ok (.putfield 26, 3)) (kk : ∀ (H1 : Heap) (locs1 : List Loc), va_P D vwCl (ws.set q0 (a, .inr (3, fs.set 0 v))) H1 → va_D A (ws.set q0 (a, .inr (3, fs.set 0 v))) → va_S A H0 H1 locs1 → W p l e R s m args below meth c H1 locs1 cells slots Q (F0 m (pc + 3) ls rest)) : W p l e R s m args below meth c H locs cells slots Q (F0 m pc ls (v :: .ref a :: rest)) := va_put (C := RX2) (T := TX2) (N := 5) (ci := 3) hx hb hts inX2 tyX2 tkX2 nmX2 hown hK hP hD hS0 q0 he rfl 0 (by decide) (hts _ t152) (fun _ h => h) rfl (tkX2 0 (by decide)) hn hfit hl hdg kk
theorem dX2_read_23 : decode cX2_read 23 = .ok (.aload_n 1, 1) := by decide +kernel
theorem dX2_read_24 : decode cX2_read 24 = .ok (.sipush 900, 3) := by decide +kernel
theorem dX2_read_27 : decode cX2_read 27 = .ok (.invokevirtual 30, 3) := by decide +kernel
theorem t554 : Cond.methodLink RX2 30 yX8_open ∈ GW := gw_mem 668 (by decide +kernel) (by decide +kernel)
theorem t555 : Cond.instanceMethod yX8_open ∈ GW := gw_mem 669 (by decide +kernel) (by decide +kernel)
theorem t556 : Cond.selects RX8 yX8_open yX8_open ∈ GW := gw_mem 670 (by decide +kernel) (by decide +kernel)
theorem cw_X2_30 {R : Room} {s : State} {args : Array Value} {rm : Room} {mc ms : Nat} (hts : ∀ w ∈ GW, w.before args s = true) (hrc : rm.cells = mc) (hrs : rm.slots = ms) (hR : rm.frames + 1 ≤ R.frames ∧ 8 + (2 + 11) + rm.locals ≤ R.locals) : CallW R s args RX2 RX8 30 yX8_open cX8_open 2 none (wl yX8_open cX8_open 2 none) rm mc ms 1 := cwV 1 hts (gi_V t554 t555 t556 t2 t557) rfl hrc hrs (by decide +kernel) hR
theorem dX2_read_30 : decode cX2_read 30 = .ok (.aload_n 0, 1) := by decide +kernel
theorem dX2_read_31 : decode cX2_read 31 = .ok (.getfield 26, 3) := by decide +kernel
theorem gf_X2_26 {p : Program} {l : Launch} {e : Env} {R : Room} {s : State} {m : MethodId} {args : Array Value} {below : List Frame} {meth : Method} {c : Code} {H : Heap} {locs : List Loc} {cells slots : Nat} {Q : State → Prop} {cc : ByteArray} {pc : Nat} {ls : Array Slot} {rest : List Value} {D : va_G} {a : Nat} {tys : List (ClassId × FieldType)} {ws : va_W} (hx : p.tables.exec = Jvm.exec) (hb : c.code = cc) (hts : ∀ w ∈ GW, w.before args s = true) (hown : s.vm.findClass RX2 = some m.cls) (hK : va_K D vwCl tys s) (hP : va_P D vwCl ws H) (q0 : Nat) {fs : List Value} (he : ws[q0]? = some (a, .inr (3, fs))) {v : Value} (hv : fs[0]? = some v) (hdg : decode cc pc = .ok (.getfield 26, 3)) (kk : W p l e R s m args below meth c H locs cells slots Q (F0 m (pc + 3) ls (v :: rest))) : W p l e R s m args below meth c H locs cells slots Q (F0 m pc ls (.ref a :: rest)) := va_get (C := RX2) (T := TX2) (N := 5) (ci := 3) hx hb hts inX2 hown hK hP q0 he rfl 0 (by decide) (hts _ t152) (fun _ h => h) hv hdg kk
theorem dX2_read_34 : decode cX2_read 34 = .ok (.sipush 940, 3) := by decide +kernel
theorem dX2_read_37 : decode cX2_read 37 = .ok (.if_icmp .ge 45, 3) := by decide +kernel
theorem dX2_read_40 : decode cX2_read 40 = .ok (.aload_n 1, 1) := by decide +kernel
theorem dX2_read_41 : decode cX2_read 41 = .ok (.getfield 36, 3) := by decide +kernel
theorem t101 : Cond.fieldLink RX2 36 "LikenessPound$Tape" "kind" "I" ∈ GW := gw_mem 215 (by decide +kernel) (by decide +kernel)
theorem gf_X2_36 {p : Program} {l : Launch} {e : Env} {R : Room} {s : State} {m : MethodId} {args : Array Value} {below : List Frame} {meth : Method} {c : Code} {H : Heap} {locs : List Loc} {cells slots : Nat} {Q : State → Prop} {cc : ByteArray} {pc : Nat} {ls : Array Slot} {rest : List Value} {D : va_G} {a : Nat} {tys : List (ClassId × FieldType)} {ws : va_W} (hx : p.tables.exec = Jvm.exec) (hb : c.code = cc) (hts : ∀ w ∈ GW, w.before args s = true) (hown : s.vm.findClass RX2 = some m.cls) (hK : va_K D vwCl tys s) (hP : va_P D vwCl ws H) (q0 : Nat) {fs : List Value} (he : ws[q0]? = some (a, .inr (9, fs))) {v : Value} (hv : fs[5]? = some v) (hdg : decode cc pc = .ok (.getfield 36, 3)) (kk : W p l e R s m args below meth c H locs cells slots Q (F0 m (pc + 3) ls (v :: rest))) : W p l e R s m args below meth c H locs cells slots Q (F0 m pc ls (.ref a :: rest)) := va_get (C := RX8) (T := TX8) (N := 12) (ci := 9) hx hb hts inX8 hown hK hP q0 he rfl 5 (by decide) (hts _ t101) (fun _ h => h) hv hdg kk
theorem dX2_read_44 : decode cX2_read 44 = .ok (.iconst 3, 1) := by decide +kernel
theorem dX2_read_45 : decode cX2_read 45 = .ok (.if_icmp .eq 37, 3) := by decide +kernel
theorem dX2_read_82 : decode cX2_read 82 = .ok (.iconst 1, 1) := by decide +kernel
theorem dX2_read_83 : decode cX2_read 83 = .ok (.ireturn, 1) := by decide +kernel
set_option maxHeartbeats 4000000 in
set_option maxRecDepth 100000 in
theorem k_ctread (l : Launch) (dC : Nat → ClassId) (dI : Nat → Nat → Nat) (cy : Nat → ClassId) (sz : Nat) (ad : Nat → Nat) (ai : Nat → Nat → Int32)  : Met l yX2_read (wl yX2_read cX2_read 4 (some .boolean)) ({ frames := 3, cells := 0, slots := 0, locals := 192 }) (Pw (dC, dI) vwCl cy [(ad 4, .inr (3, [.int 0, .int 0, .int 0, .int 0, .int 0])), (ad 1, .inr (9, [.ref (ad 2), .ref (ad 3), .int 0, .int 0, .int 0, .int 0, .int 0, .int 0, .long 0, .int 0, .int 0, .int 0])), (ad 55, .inr (2, [.ref (ad 56), .ref (ad 57), .ref (ad 58), .ref (ad 59), .ref (ad 60), .int 0, .int 0, .int 60, .int 10])), (ad 60, .inl (cy 0, 7, .inl (ai 60))), (ad 61, .inr (5, [.ref (ad 62), .ref (ad 63), .ref (ad 64), .ref (ad 65), .ref (ad 66), .ref (ad 67), .ref (ad 68), .ref (ad 69), .ref (ad 70), .ref (ad 71), .int 0])), (ad 62, .inl (cy 0, 7, .inl (ai 62))), (ad 63, .inl (cy 0, 70, .inl (ai 63))), (ad 64, .inl (cy 0, 49, .inl (ai 64))), (ad 65, .inl (cy 0, 7, .inl (ai 65))), (ad 66, .inl (cy 0, 7, .inl (ai 66))), (ad 67, .inl (cy 0, 7, .inl (ai 67)))] sz [.ref (ad 4), .ref (ad 1), .ref (ad 55), .ref (ad 61)] nE) (Qi (dC, dI) vwCl (fun (r : Int32) (u : Unit) => r = 1) (O_k_ctread cy ad ai) (va_A [(ad 4, .inr (3, [.int 0, .int 0, .int 0, .int 0, .int 0])), (ad 1, .inr (9, [.ref (ad 2), .ref (ad 3), .int 0, .int 0, .int 0, .int 0, .int 0, .int 0, .long 0, .int 0, .int 0, .int 0])), (ad 55, .inr (2, [.ref (ad 56), .ref (ad 57), .ref (ad 58), .ref (ad 59), .ref (ad 60), .int 0, .int 0, .int 60, .int 10])), (ad 60, .inl (cy 0, 7, .inl (ai 60))), (ad 61, .inr (5, [.ref (ad 62), .ref (ad 63), .ref (ad 64), .ref (ad 65), .ref (ad 66), .ref (ad 67), .ref (ad 68), .ref (ad 69), .ref (ad 70), .ref (ad 71), .int 0])), (ad 62, .inl (cy 0, 7, .inl (ai 62))), (ad 63, .inl (cy 0, 70, .inl (ai 63))), (ad 64, .inl (cy 0, 49, .inl (ai 64))), (ad 65, .inl (cy 0, 7, .inl (ai 65))), (ad 66, .inl (cy 0, 7, .inl (ai 66))), (ad 67, .inl (cy 0, 7, .inl (ai 67)))] sz)) 0 0 (va_A [(ad 4, .inr (3, [.int 0, .int 0, .int 0, .int 0, .int 0])), (ad 1, .inr (9, [.ref (ad 2), .ref (ad 3), .int 0, .int 0, .int 0, .int 0, .int 0, .int 0, .long 0, .int 0, .int 0, .int 0])), (ad 55, .inr (2, [.ref (ad 56), .ref (ad 57), .ref (ad 58), .ref (ad 59), .ref (ad 60), .int 0, .int 0, .int 60, .int 10])), (ad 60, .inl (cy 0, 7, .inl (ai 60))), (ad 61, .inr (5, [.ref (ad 62), .ref (ad 63), .ref (ad 64), .ref (ad 65), .ref (ad 66), .ref (ad 67), .ref (ad 68), .ref (ad 69), .ref (ad 70), .ref (ad 71), .int 0])), (ad 62, .inl (cy 0, 7, .inl (ai 62))), (ad 63, .inl (cy 0, 70, .inl (ai 63))), (ad 64, .inl (cy 0, 49, .inl (ai 64))), (ad 65, .inl (cy 0, 7, .inl (ai 65))), (ad 66, .inl (cy 0, 7, .inl (ai 66))), (ad 67, .inl (cy 0, 7, .inl (ai 67)))] sz) := by
  refine mw (Qc := Qi (dC, dI) vwCl (fun (r : Int32) (u : Unit) => r = 1) (O_k_ctread cy ad ai)) RX2 rfl (by decide +kernel) (Nat.le_of_ble_eq_true rfl) ?_
  intro p e s m below meth c A hx hb hr hlocks av9 hav hts hown hnm hml hK hP hD hA hS hE hAe Q9 hQ9 ls hl
  have hl : lv_has ls 4 [(0, .ref (ad 4)), (1, .ref (ad 1)), (2, .ref (ad 55)), (3, .ref (ad 61))] := hl
  refine lv_aload_n hx hb dX2_read_0 rfl (lv_at hl 2 rfl) ?_
  refine jn_v (wr := [(ad 4, .inr (3, [.int 0, .int 0, .int 0, .int 0, .int 0])), (ad 1, .inr (9, [.ref (ad 2), .ref (ad 3), .int 0, .int 0, .int 0, .int 0, .int 0, .int 0, .long 0, .int 0, .int 0, .int 0])), (ad 61, .inr (5, [.ref (ad 62), .ref (ad 63), .ref (ad 64), .ref (ad 65), .ref (ad 66), .ref (ad 67), .ref (ad 68), .ref (ad 69), .ref (ad 70), .ref (ad 71), .int 0])), (ad 62, .inl (cy 0, 7, .inl (ai 62))), (ad 63, .inl (cy 0, 70, .inl (ai 63))), (ad 64, .inl (cy 0, 49, .inl (ai 64))), (ad 65, .inl (cy 0, 7, .inl (ai 65))), (ad 66, .inl (cy 0, 7, .inl (ai 66))), (ad 67, .inl (cy 0, 7, .inl (ai 67)))]) (rV (As := []) (rest := []) (ci := 2) ⟨hx, hb, hml, hown, hts⟩ (c_Col_clear l dC dI cy _ (ad 55) (ad 56) (ad 57) (ad 58) (ad 59) (ad 60) 0 0 60 10 (ai 60) ) (cw_X2_9 hts rfl rfl ⟨Nat.le_of_ble_eq_true rfl, Nat.le_of_ble_eq_true rfl⟩) hP hD hK [2, 3] rfl rfl rfl rfl bl0 e0 rfl hl.1 rfl (Nat.le_of_ble_eq_true rfl) dX2_read_1 ⟨Nat.le_of_ble_eq_true rfl, Nat.le_of_ble_eq_true rfl⟩) hP hD hS hA [2, 3] [0, 1, 4, 5, 6, 7, 8, 9, 10] rfl rfl rfl (by decide) (fun u_3 H locs hp_2 hP hD hS => ?_)
  obtain ⟨ok_4, rfl⟩ : ∃ z, z = u_3 := ⟨_, rfl⟩
  have hp_2 : True := hp_2
  have hP : va_P (dC, dI) vwCl [(ad 4, .inr (3, [.int 0, .int 0, .int 0, .int 0, .int 0])), (ad 1, .inr (9, [.ref (ad 2), .ref (ad 3), .int 0, .int 0, .int 0, .int 0, .int 0, .int 0, .long 0, .int 0, .int 0, .int 0])), (ad 61, .inr (5, [.ref (ad 62), .ref (ad 63), .ref (ad 64), .ref (ad 65), .ref (ad 66), .ref (ad 67), .ref (ad 68), .ref (ad 69), .ref (ad 70), .ref (ad 71), .int 0])), (ad 62, .inl (cy 0, 7, .inl (ai 62))), (ad 63, .inl (cy 0, 70, .inl (ai 63))), (ad 64, .inl (cy 0, 49, .inl (ai 64))), (ad 65, .inl (cy 0, 7, .inl (ai 65))), (ad 66, .inl (cy 0, 7, .inl (ai 66))), (ad 67, .inl (cy 0, 7, .inl (ai 67))), (ad 55, .inr (2, [.ref (ad 56), .ref (ad 57), .ref (ad 58), .ref (ad 59), .ref (ad 60), .int 0, .int 0, .int 60, .int 10])), (ad 60, .inl (cy 0, 7, .inl ok_4))] H := hP
  have hD : va_D A [(ad 4, .inr (3, [.int 0, .int 0, .int 0, .int 0, .int 0])), (ad 1, .inr (9, [.ref (ad 2), .ref (ad 3), .int 0, .int 0, .int 0, .int 0, .int 0, .int 0, .long 0, .int 0, .int 0, .int 0])), (ad 61, .inr (5, [.ref (ad 62), .ref (ad 63), .ref (ad 64), .ref (ad 65), .ref (ad 66), .ref (ad 67), .ref (ad 68), .ref (ad 69), .ref (ad 70), .ref (ad 71), .int 0])), (ad 62, .inl (cy 0, 7, .inl (ai 62))), (ad 63, .inl (cy 0, 70, .inl (ai 63))), (ad 64, .inl (cy 0, 49, .inl (ai 64))), (ad 65, .inl (cy 0, 7, .inl (ai 65))), (ad 66, .inl (cy 0, 7, .inl (ai 66))), (ad 67, .inl (cy 0, 7, .inl (ai 67))), (ad 55, .inr (2, [.ref (ad 56), .ref (ad 57), .ref (ad 58), .ref (ad 59), .ref (ad 60), .int 0, .int 0, .int 60, .int 10])), (ad 60, .inl (cy 0, 7, .inl ok_4))] := hD
  refine lv_aload_n hx hb dX2_read_4 rfl (lv_at hl 3 rfl) ?_
  refine jn_v (wr := [(ad 4, .inr (3, [.int 0, .int 0, .int 0, .int 0, .int 0])), (ad 1, .inr (9, [.ref (ad 2), .ref (ad 3), .int 0, .int 0, .int 0, .int 0, .int 0, .int 0, .long 0, .int 0, .int 0, .int 0])), (ad 55, .inr (2, [.ref (ad 56), .ref (ad 57), .ref (ad 58), .ref (ad 59), .ref (ad 60), .int 0, .int 0, .int 60, .int 10])), (ad 60, .inl (cy 0, 7, .inl ok_4))]) (rV (As := []) (rest := []) (ci := 5) ⟨hx, hb, hml, hown, hts⟩ (c_Life_clear l dC dI cy _ (ad 61) (ad 62) (ad 63) (ad 64) (ad 65) (ad 66) (ad 67) (ad 68) (ad 69) (ad 70) (ad 71) 0 (ai 62) (ai 63) (ai 64) (ai 65) (ai 66) (ai 67) ) (cw_X2_14 hts rfl rfl ⟨Nat.le_of_ble_eq_true rfl, Nat.le_of_ble_eq_true rfl⟩) hP hD hK [2, 3, 4, 5, 6, 7, 8] rfl rfl rfl rfl bl0 e0 rfl hl.1 rfl (Nat.le_of_ble_eq_true rfl) dX2_read_5 ⟨Nat.le_of_ble_eq_true rfl, Nat.le_of_ble_eq_true rfl⟩) hP hD hS hA [2, 3, 4, 5, 6, 7, 8] [0, 1, 9, 10] rfl rfl rfl (by decide) (fun u_7 H locs hp_6 hP hD hS => ?_)
  obtain ⟨o1_8, o2_9, o3_10, o4_11, o5_12, o6_13⟩ := u_7
  have hp_6 : ∀ j : Nat, j < 7 → o6_13 j = 0 := hp_6
  have hP : va_P (dC, dI) vwCl [(ad 4, .inr (3, [.int 0, .int 0, .int 0, .int 0, .int 0])), (ad 1, .inr (9, [.ref (ad 2), .ref (ad 3), .int 0, .int 0, .int 0, .int 0, .int 0, .int 0, .long 0, .int 0, .int 0, .int 0])), (ad 55, .inr (2, [.ref (ad 56), .ref (ad 57), .ref (ad 58), .ref (ad 59), .ref (ad 60), .int 0, .int 0, .int 60, .int 10])), (ad 60, .inl (cy 0, 7, .inl ok_4)), (ad 61, .inr (5, [.ref (ad 62), .ref (ad 63), .ref (ad 64), .ref (ad 65), .ref (ad 66), .ref (ad 67), .ref (ad 68), .ref (ad 69), .ref (ad 70), .ref (ad 71), .int 0])), (ad 62, .inl (cy 0, 7, .inl o1_8)), (ad 63, .inl (cy 0, 70, .inl o2_9)), (ad 64, .inl (cy 0, 49, .inl o3_10)), (ad 65, .inl (cy 0, 7, .inl o4_11)), (ad 66, .inl (cy 0, 7, .inl o5_12)), (ad 67, .inl (cy 0, 7, .inl o6_13))] H := hP
  have hD : va_D A [(ad 4, .inr (3, [.int 0, .int 0, .int 0, .int 0, .int 0])), (ad 1, .inr (9, [.ref (ad 2), .ref (ad 3), .int 0, .int 0, .int 0, .int 0, .int 0, .int 0, .long 0, .int 0, .int 0, .int 0])), (ad 55, .inr (2, [.ref (ad 56), .ref (ad 57), .ref (ad 58), .ref (ad 59), .ref (ad 60), .int 0, .int 0, .int 60, .int 10])), (ad 60, .inl (cy 0, 7, .inl ok_4)), (ad 61, .inr (5, [.ref (ad 62), .ref (ad 63), .ref (ad 64), .ref (ad 65), .ref (ad 66), .ref (ad 67), .ref (ad 68), .ref (ad 69), .ref (ad 70), .ref (ad 71), .int 0])), (ad 62, .inl (cy 0, 7, .inl o1_8)), (ad 63, .inl (cy 0, 70, .inl o2_9)), (ad 64, .inl (cy 0, 49, .inl o3_10)), (ad 65, .inl (cy 0, 7, .inl o4_11)), (ad 66, .inl (cy 0, 7, .inl o5_12)), (ad 67, .inl (cy 0, 7, .inl o6_13))] := hD
  refine lv_aload_n hx hb dX2_read_8 rfl (lv_at hl 0 rfl) ?_
  refine lv_iconst (v := 0) hx hb dX2_read_9 (by decide) ?_
  refine pf_X2_17 hx hb hts hown hK hP hD hS 0 rfl rfl rfl (Nat.le_of_ble_eq_true rfl) dX2_read_10 (fun H locs hP hD hS => ?_)
  have hP : va_P (dC, dI) vwCl [(ad 4, .inr (3, [.int 0, .int 0, .int 0, .int 0, .int 0])), (ad 1, .inr (9, [.ref (ad 2), .ref (ad 3), .int 0, .int 0, .int 0, .int 0, .int 0, .int 0, .long 0, .int 0, .int 0, .int 0])), (ad 55, .inr (2, [.ref (ad 56), .ref (ad 57), .ref (ad 58), .ref (ad 59), .ref (ad 60), .int 0, .int 0, .int 60, .int 10])), (ad 60, .inl (cy 0, 7, .inl ok_4)), (ad 61, .inr (5, [.ref (ad 62), .ref (ad 63), .ref (ad 64), .ref (ad 65), .ref (ad 66), .ref (ad 67), .ref (ad 68), .ref (ad 69), .ref (ad 70), .ref (ad 71), .int 0])), (ad 62, .inl (cy 0, 7, .inl o1_8)), (ad 63, .inl (cy 0, 70, .inl o2_9)), (ad 64, .inl (cy 0, 49, .inl o3_10)), (ad 65, .inl (cy 0, 7, .inl o4_11)), (ad 66, .inl (cy 0, 7, .inl o5_12)), (ad 67, .inl (cy 0, 7, .inl o6_13))] H := hP
  have hD : va_D A [(ad 4, .inr (3, [.int 0, .int 0, .int 0, .int 0, .int 0])), (ad 1, .inr (9, [.ref (ad 2), .ref (ad 3), .int 0, .int 0, .int 0, .int 0, .int 0, .int 0, .long 0, .int 0, .int 0, .int 0])), (ad 55, .inr (2, [.ref (ad 56), .ref (ad 57), .ref (ad 58), .ref (ad 59), .ref (ad 60), .int 0, .int 0, .int 60, .int 10])), (ad 60, .inl (cy 0, 7, .inl ok_4)), (ad 61, .inr (5, [.ref (ad 62), .ref (ad 63), .ref (ad 64), .ref (ad 65), .ref (ad 66), .ref (ad 67), .ref (ad 68), .ref (ad 69), .ref (ad 70), .ref (ad 71), .int 0])), (ad 62, .inl (cy 0, 7, .inl o1_8)), (ad 63, .inl (cy 0, 70, .inl o2_9)), (ad 64, .inl (cy 0, 49, .inl o3_10)), (ad 65, .inl (cy 0, 7, .inl o4_11)), (ad 66, .inl (cy 0, 7, .inl o5_12)), (ad 67, .inl (cy 0, 7, .inl o6_13))] := hD
  refine lv_aload_n hx hb dX2_read_13 rfl (lv_at hl 0 rfl) ?_
  refine lv_iconst (v := 0) hx hb dX2_read_14 (by decide) ?_
  refine pf_X2_23 hx hb hts hown hK hP hD hS 0 rfl rfl rfl (Nat.le_of_ble_eq_true rfl) dX2_read_15 (fun H locs hP hD hS => ?_)
  have hP : va_P (dC, dI) vwCl [(ad 4, .inr (3, [.int 0, .int 0, .int 0, .int 0, .int 0])), (ad 1, .inr (9, [.ref (ad 2), .ref (ad 3), .int 0, .int 0, .int 0, .int 0, .int 0, .int 0, .long 0, .int 0, .int 0, .int 0])), (ad 55, .inr (2, [.ref (ad 56), .ref (ad 57), .ref (ad 58), .ref (ad 59), .ref (ad 60), .int 0, .int 0, .int 60, .int 10])), (ad 60, .inl (cy 0, 7, .inl ok_4)), (ad 61, .inr (5, [.ref (ad 62), .ref (ad 63), .ref (ad 64), .ref (ad 65), .ref (ad 66), .ref (ad 67), .ref (ad 68), .ref (ad 69), .ref (ad 70), .ref (ad 71), .int 0])), (ad 62, .inl (cy 0, 7, .inl o1_8)), (ad 63, .inl (cy 0, 70, .inl o2_9)), (ad 64, .inl (cy 0, 49, .inl o3_10)), (ad 65, .inl (cy 0, 7, .inl o4_11)), (ad 66, .inl (cy 0, 7, .inl o5_12)), (ad 67, .inl (cy 0, 7, .inl o6_13))] H := hP
  have hD : va_D A [(ad 4, .inr (3, [.int 0, .int 0, .int 0, .int 0, .int 0])), (ad 1, .inr (9, [.ref (ad 2), .ref (ad 3), .int 0, .int 0, .int 0, .int 0, .int 0, .int 0, .long 0, .int 0, .int 0, .int 0])), (ad 55, .inr (2, [.ref (ad 56), .ref (ad 57), .ref (ad 58), .ref (ad 59), .ref (ad 60), .int 0, .int 0, .int 60, .int 10])), (ad 60, .inl (cy 0, 7, .inl ok_4)), (ad 61, .inr (5, [.ref (ad 62), .ref (ad 63), .ref (ad 64), .ref (ad 65), .ref (ad 66), .ref (ad 67), .ref (ad 68), .ref (ad 69), .ref (ad 70), .ref (ad 71), .int 0])), (ad 62, .inl (cy 0, 7, .inl o1_8)), (ad 63, .inl (cy 0, 70, .inl o2_9)), (ad 64, .inl (cy 0, 49, .inl o3_10)), (ad 65, .inl (cy 0, 7, .inl o4_11)), (ad 66, .inl (cy 0, 7, .inl o5_12)), (ad 67, .inl (cy 0, 7, .inl o6_13))] := hD
  refine lv_aload_n hx hb dX2_read_18 rfl (lv_at hl 0 rfl) ?_
  refine lv_iconst (v := 0) hx hb dX2_read_19 (by decide) ?_
  refine pf_X2_26 hx hb hts hown hK hP hD hS 0 rfl rfl rfl (Nat.le_of_ble_eq_true rfl) dX2_read_20 (fun H locs hP hD hS => ?_)
  have hP : va_P (dC, dI) vwCl [(ad 4, .inr (3, [.int 0, .int 0, .int 0, .int 0, .int 0])), (ad 1, .inr (9, [.ref (ad 2), .ref (ad 3), .int 0, .int 0, .int 0, .int 0, .int 0, .int 0, .long 0, .int 0, .int 0, .int 0])), (ad 55, .inr (2, [.ref (ad 56), .ref (ad 57), .ref (ad 58), .ref (ad 59), .ref (ad 60), .int 0, .int 0, .int 60, .int 10])), (ad 60, .inl (cy 0, 7, .inl ok_4)), (ad 61, .inr (5, [.ref (ad 62), .ref (ad 63), .ref (ad 64), .ref (ad 65), .ref (ad 66), .ref (ad 67), .ref (ad 68), .ref (ad 69), .ref (ad 70), .ref (ad 71), .int 0])), (ad 62, .inl (cy 0, 7, .inl o1_8)), (ad 63, .inl (cy 0, 70, .inl o2_9)), (ad 64, .inl (cy 0, 49, .inl o3_10)), (ad 65, .inl (cy 0, 7, .inl o4_11)), (ad 66, .inl (cy 0, 7, .inl o5_12)), (ad 67, .inl (cy 0, 7, .inl o6_13))] H := hP
  have hD : va_D A [(ad 4, .inr (3, [.int 0, .int 0, .int 0, .int 0, .int 0])), (ad 1, .inr (9, [.ref (ad 2), .ref (ad 3), .int 0, .int 0, .int 0, .int 0, .int 0, .int 0, .long 0, .int 0, .int 0, .int 0])), (ad 55, .inr (2, [.ref (ad 56), .ref (ad 57), .ref (ad 58), .ref (ad 59), .ref (ad 60), .int 0, .int 0, .int 60, .int 10])), (ad 60, .inl (cy 0, 7, .inl ok_4)), (ad 61, .inr (5, [.ref (ad 62), .ref (ad 63), .ref (ad 64), .ref (ad 65), .ref (ad 66), .ref (ad 67), .ref (ad 68), .ref (ad 69), .ref (ad 70), .ref (ad 71), .int 0])), (ad 62, .inl (cy 0, 7, .inl o1_8)), (ad 63, .inl (cy 0, 70, .inl o2_9)), (ad 64, .inl (cy 0, 49, .inl o3_10)), (ad 65, .inl (cy 0, 7, .inl o4_11)), (ad 66, .inl (cy 0, 7, .inl o5_12)), (ad 67, .inl (cy 0, 7, .inl o6_13))] := hD
  refine lv_aload_n hx hb dX2_read_23 rfl (lv_at hl 1 rfl) ?_
  refine lv_sipush (v := 900) hx hb dX2_read_24 (by decide) ?_
  refine jn_v (wr := [(ad 4, .inr (3, [.int 0, .int 0, .int 0, .int 0, .int 0])), (ad 55, .inr (2, [.ref (ad 56), .ref (ad 57), .ref (ad 58), .ref (ad 59), .ref (ad 60), .int 0, .int 0, .int 60, .int 10])), (ad 60, .inl (cy 0, 7, .inl ok_4)), (ad 61, .inr (5, [.ref (ad 62), .ref (ad 63), .ref (ad 64), .ref (ad 65), .ref (ad 66), .ref (ad 67), .ref (ad 68), .ref (ad 69), .ref (ad 70), .ref (ad 71), .int 0])), (ad 62, .inl (cy 0, 7, .inl o1_8)), (ad 63, .inl (cy 0, 70, .inl o2_9)), (ad 64, .inl (cy 0, 49, .inl o3_10)), (ad 65, .inl (cy 0, 7, .inl o4_11)), (ad 66, .inl (cy 0, 7, .inl o5_12)), (ad 67, .inl (cy 0, 7, .inl o6_13))]) (rV (As := [.int 900]) (rest := []) (ci := 9) ⟨hx, hb, hml, hown, hts⟩ (k_open900 l dC dI cy _ ad ) (cw_X2_30 hts rfl rfl ⟨Nat.le_of_ble_eq_true rfl, Nat.le_of_ble_eq_true rfl⟩) hP hD hK [1] rfl rfl rfl rfl bl0 e0 rfl hl.1 rfl (Nat.le_of_ble_eq_true rfl) dX2_read_27 ⟨Nat.le_of_ble_eq_true rfl, Nat.le_of_ble_eq_true rfl⟩) hP hD hS hA [1] [0, 2, 3, 4, 5, 6, 7, 8, 9, 10] rfl rfl rfl (by decide) (fun u_16 H locs hp_15 hP hD hS => ?_)
  have hp_15 : True := hp_15
  have hP : va_P (dC, dI) vwCl [(ad 4, .inr (3, [.int 0, .int 0, .int 0, .int 0, .int 0])), (ad 55, .inr (2, [.ref (ad 56), .ref (ad 57), .ref (ad 58), .ref (ad 59), .ref (ad 60), .int 0, .int 0, .int 60, .int 10])), (ad 60, .inl (cy 0, 7, .inl ok_4)), (ad 61, .inr (5, [.ref (ad 62), .ref (ad 63), .ref (ad 64), .ref (ad 65), .ref (ad 66), .ref (ad 67), .ref (ad 68), .ref (ad 69), .ref (ad 70), .ref (ad 71), .int 0])), (ad 62, .inl (cy 0, 7, .inl o1_8)), (ad 63, .inl (cy 0, 70, .inl o2_9)), (ad 64, .inl (cy 0, 49, .inl o3_10)), (ad 65, .inl (cy 0, 7, .inl o4_11)), (ad 66, .inl (cy 0, 7, .inl o5_12)), (ad 67, .inl (cy 0, 7, .inl o6_13)), (ad 1, .inr (9, [.ref (ad 2), .ref (ad 3), .int 0, .int 900, .int 0, .int 3, .int 0, .int (-1), .long 0, .int 0, .int 0, .int 0]))] H := hP
  have hD : va_D A [(ad 4, .inr (3, [.int 0, .int 0, .int 0, .int 0, .int 0])), (ad 55, .inr (2, [.ref (ad 56), .ref (ad 57), .ref (ad 58), .ref (ad 59), .ref (ad 60), .int 0, .int 0, .int 60, .int 10])), (ad 60, .inl (cy 0, 7, .inl ok_4)), (ad 61, .inr (5, [.ref (ad 62), .ref (ad 63), .ref (ad 64), .ref (ad 65), .ref (ad 66), .ref (ad 67), .ref (ad 68), .ref (ad 69), .ref (ad 70), .ref (ad 71), .int 0])), (ad 62, .inl (cy 0, 7, .inl o1_8)), (ad 63, .inl (cy 0, 70, .inl o2_9)), (ad 64, .inl (cy 0, 49, .inl o3_10)), (ad 65, .inl (cy 0, 7, .inl o4_11)), (ad 66, .inl (cy 0, 7, .inl o5_12)), (ad 67, .inl (cy 0, 7, .inl o6_13)), (ad 1, .inr (9, [.ref (ad 2), .ref (ad 3), .int 0, .int 900, .int 0, .int 3, .int 0, .int (-1), .long 0, .int 0, .int 0, .int 0]))] := hD
  refine lv_aload_n hx hb dX2_read_30 rfl (lv_at hl 0 rfl) ?_
  refine gf_X2_26 hx hb hts hown hK hP 0 rfl rfl dX2_read_31 ?_
  refine lv_sipush (v := 940) hx hb dX2_read_34 (by decide) ?_
  refine lv_icmp_ge (tgt := 82) hx hb dX2_read_37 (by decide) (fun c9 => absurd c9 (by decide)) (fun _ => ?_)
  refine lv_aload_n hx hb dX2_read_40 rfl (lv_at hl 1 rfl) ?_
  refine gf_X2_36 hx hb hts hown hK hP 10 rfl rfl dX2_read_41 ?_
  refine lv_iconst (v := 3) hx hb dX2_read_44 (by decide) ?_
  refine lv_icmp_eq (tgt := 82) hx hb dX2_read_45 (by decide) (fun _ => ?_) (fun c9 => absurd (by decide) c9)
  refine lv_iconst (v := 1) hx hb dX2_read_82 (by decide) ?_
  rw [hQ9]
  exact re_z () hx hb hr hlocks (Or.inr rfl) rfl (hP.sub [0, 10] rfl) (hD.sub [0, 10] rfl rfl) hS dX2_read_83
abbrev cX6_clear : ByteArray := prog_8_method_2_code
def yX6_clear : MethodName := ⟨RX6, "clear", "()V"⟩
theorem t660 : Cond.code yX6_clear cX6_clear 1 none ∈ GW := gw_mem 774 (by decide +kernel) (by decide +kernel)
abbrev O_k_seclear (cy : Nat → ClassId) (h0 : Nat) (a1 : Nat) (a2 : Nat) (a3 : Nat) (a4 : Nat) (x1 : Int32) (x2 : Int32) (u : Unit) : va_W := [(h0, .inr (7, [.ref a1, .ref a2, .ref a3, .ref a4, .int 0, .int 0]))]
theorem dX6_clear_0 : decode cX6_clear 0 = .ok (.aload_n 0, 1) := by decide +kernel
theorem dX6_clear_1 : decode cX6_clear 1 = .ok (.iconst 0, 1) := by decide +kernel
theorem dX6_clear_2 : decode cX6_clear 2 = .ok (.putfield 24, 3) := by decide +kernel
theorem t443 : Cond.fieldLink RX6 24 "LikenessPound$Sentence" "steps" "I" ∈ GW := gw_mem 557 (by decide +kernel) (by decide +kernel)
theorem pf_X6_24 {p : Program} {l : Launch} {e : Env} {R : Room} {s : State} {m : MethodId} {args : Array Value} {below : List Frame} {meth : Method} {c : Code} {H : Heap} {locs : List Loc} {cells slots : Nat} {Q : State → Prop} {cc : ByteArray} {pc : Nat} {ls : Array Slot} {rest : List Value} {D : va_G} {A : Nat → Prop} {a : Nat} {tys : List (ClassId × FieldType)} {ws : va_W} {H0 : Heap} (hx : p.tables.exec = Jvm.exec) (hb : c.code = cc) (hts : ∀ w ∈ GW, w.before args s = true) (hown : s.vm.findClass RX6 = some m.cls) (hK : va_K D vwCl tys s) (hP : va_P D vwCl ws H) (hD : va_D A ws) (hS0 : va_S A H0 H locs) (q0 : Nat) {fs : List Value} (he : ws[q0]? = some (a, .inr (7, fs))) {v : Value} (hn : narrow (tyX6 4) v = v) (hfit : fits (tyX6 4) v = true) (hl : 4 < fs.length) (hdg : decode cc pc = .ok (.putfield 24, 3)) (kk : ∀ (H1 : Heap) (locs1 : List Loc), va_P D vwCl (ws.set q0 (a, .inr (7, fs.set 4 v))) H1 → va_D A (ws.set q0 (a, .inr (7, fs.set 4 v))) → va_S A H0 H1 locs1 → W p l e R s m args below meth c H1 locs1 cells slots Q (F0 m (pc + 3) ls rest)) : W p l e R s m args below meth c H locs cells slots Q (F0 m pc ls (v :: .ref a :: rest)) := va_put (C := RX6) (T := TX6) (N := 6) (ci := 7) hx hb hts inX6 tyX6 tkX6 nmX6 hown hK hP hD hS0 q0 he rfl 4 (by decide) (hts _ t443) (fun _ h => h) rfl (tkX6 4 (by decide)) hn hfit hl hdg kk
theorem dX6_clear_5 : decode cX6_clear 5 = .ok (.aload_n 0, 1) := by decide +kernel
theorem dX6_clear_6 : decode cX6_clear 6 = .ok (.iconst 0, 1) := by decide +kernel
theorem dX6_clear_7 : decode cX6_clear 7 = .ok (.putfield 28, 3) := by decide +kernel
theorem t444 : Cond.fieldLink RX6 28 "LikenessPound$Sentence" "ones" "I" ∈ GW := gw_mem 558 (by decide +kernel) (by decide +kernel)
theorem pf_X6_28 {p : Program} {l : Launch} {e : Env} {R : Room} {s : State} {m : MethodId} {args : Array Value} {below : List Frame} {meth : Method} {c : Code} {H : Heap} {locs : List Loc} {cells slots : Nat} {Q : State → Prop} {cc : ByteArray} {pc : Nat} {ls : Array Slot} {rest : List Value} {D : va_G} {A : Nat → Prop} {a : Nat} {tys : List (ClassId × FieldType)} {ws : va_W} {H0 : Heap} (hx : p.tables.exec = Jvm.exec) (hb : c.code = cc) (hts : ∀ w ∈ GW, w.before args s = true) (hown : s.vm.findClass RX6 = some m.cls) (hK : va_K D vwCl tys s) (hP : va_P D vwCl ws H) (hD : va_D A ws) (hS0 : va_S A H0 H locs) (q0 : Nat) {fs : List Value} (he : ws[q0]? = some (a, .inr (7, fs))) {v : Value} (hn : narrow (tyX6 5) v = v) (hfit : fits (tyX6 5) v = true) (hl : 5 < fs.length) (hdg : decode cc pc = .ok (.putfield 28, 3)) (kk : ∀ (H1 : Heap) (locs1 : List Loc), va_P D vwCl (ws.set q0 (a, .inr (7, fs.set 5 v))) H1 → va_D A (ws.set q0 (a, .inr (7, fs.set 5 v))) → va_S A H0 H1 locs1 → W p l e R s m args below meth c H1 locs1 cells slots Q (F0 m (pc + 3) ls rest)) : W p l e R s m args below meth c H locs cells slots Q (F0 m pc ls (v :: .ref a :: rest)) := va_put (C := RX6) (T := TX6) (N := 6) (ci := 7) hx hb hts inX6 tyX6 tkX6 nmX6 hown hK hP hD hS0 q0 he rfl 5 (by decide) (hts _ t444) (fun _ h => h) rfl (tkX6 5 (by decide)) hn hfit hl hdg kk
theorem dX6_clear_10 : decode cX6_clear 10 = .ok (.return_, 1) := by decide +kernel
set_option maxHeartbeats 4000000 in
set_option maxRecDepth 100000 in
theorem k_seclear (l : Launch) (dC : Nat → ClassId) (dI : Nat → Nat → Nat) (cy : Nat → ClassId) (sz : Nat) (h0 : Nat) (a1 : Nat) (a2 : Nat) (a3 : Nat) (a4 : Nat) (x1 : Int32) (x2 : Int32)  : Met l yX6_clear (wl yX6_clear cX6_clear 1 none) ({ frames := 0, cells := 0, slots := 0, locals := 0 }) (Pw (dC, dI) vwCl cy [(h0, .inr (7, [.ref a1, .ref a2, .ref a3, .ref a4, .int x1, .int x2]))] sz [.ref h0] nE) (Qv (dC, dI) vwCl (fun (u : Unit) => True) (O_k_seclear cy h0 a1 a2 a3 a4 x1 x2) (va_A [(h0, .inr (7, [.ref a1, .ref a2, .ref a3, .ref a4, .int x1, .int x2]))] sz)) 0 0 (va_A [(h0, .inr (7, [.ref a1, .ref a2, .ref a3, .ref a4, .int x1, .int x2]))] sz) := by
  refine mw (Qc := Qv (dC, dI) vwCl (fun (u : Unit) => True) (O_k_seclear cy h0 a1 a2 a3 a4 x1 x2)) RX6 rfl (by decide +kernel) (Nat.le_of_ble_eq_true rfl) ?_
  intro p e s m below meth c A hx hb hr hlocks av9 hav hts hown hnm hml hK hP hD hA hS hE hAe Q9 hQ9 ls hl
  have hl : lv_has ls 1 [(0, .ref h0)] := hl
  refine lv_aload_n hx hb dX6_clear_0 rfl (lv_at hl 0 rfl) ?_
  refine lv_iconst (v := 0) hx hb dX6_clear_1 (by decide) ?_
  refine pf_X6_24 hx hb hts hown hK hP hD hS 0 rfl rfl rfl (Nat.le_of_ble_eq_true rfl) dX6_clear_2 (fun H locs hP hD hS => ?_)
  have hP : va_P (dC, dI) vwCl [(h0, .inr (7, [.ref a1, .ref a2, .ref a3, .ref a4, .int 0, .int x2]))] H := hP
  have hD : va_D A [(h0, .inr (7, [.ref a1, .ref a2, .ref a3, .ref a4, .int 0, .int x2]))] := hD
  refine lv_aload_n hx hb dX6_clear_5 rfl (lv_at hl 0 rfl) ?_
  refine lv_iconst (v := 0) hx hb dX6_clear_6 (by decide) ?_
  refine pf_X6_28 hx hb hts hown hK hP hD hS 0 rfl rfl rfl (Nat.le_of_ble_eq_true rfl) dX6_clear_7 (fun H locs hP hD hS => ?_)
  have hP : va_P (dC, dI) vwCl [(h0, .inr (7, [.ref a1, .ref a2, .ref a3, .ref a4, .int 0, .int 0]))] H := hP
  have hD : va_D A [(h0, .inr (7, [.ref a1, .ref a2, .ref a3, .ref a4, .int 0, .int 0]))] := hD
  rw [hQ9]
  exact re_v () hx hb hr hlocks trivial (hP.sub [0] rfl) (hD.sub [0] rfl rfl) hS dX6_clear_10
abbrev cX5_clear : ByteArray := prog_7_method_2_code
def yX5_clear : MethodName := ⟨RX5, "clear", "()V"⟩
theorem t664 : Cond.code yX5_clear cX5_clear 1 none ∈ GW := gw_mem 778 (by decide +kernel) (by decide +kernel)
abbrev O_k_paclear (cy : Nat → ClassId) (h0 : Nat) (a1 : Nat) (x1 : Int32) (x2 : Int32) (u : Unit) : va_W := [(h0, .inr (6, [.ref a1, .int 0, .int x2]))]
theorem dX5_clear_0 : decode cX5_clear 0 = .ok (.aload_n 0, 1) := by decide +kernel
theorem dX5_clear_1 : decode cX5_clear 1 = .ok (.iconst 0, 1) := by decide +kernel
theorem dX5_clear_2 : decode cX5_clear 2 = .ok (.putfield 18, 3) := by decide +kernel
theorem pf_X5_18 {p : Program} {l : Launch} {e : Env} {R : Room} {s : State} {m : MethodId} {args : Array Value} {below : List Frame} {meth : Method} {c : Code} {H : Heap} {locs : List Loc} {cells slots : Nat} {Q : State → Prop} {cc : ByteArray} {pc : Nat} {ls : Array Slot} {rest : List Value} {D : va_G} {A : Nat → Prop} {a : Nat} {tys : List (ClassId × FieldType)} {ws : va_W} {H0 : Heap} (hx : p.tables.exec = Jvm.exec) (hb : c.code = cc) (hts : ∀ w ∈ GW, w.before args s = true) (hown : s.vm.findClass RX5 = some m.cls) (hK : va_K D vwCl tys s) (hP : va_P D vwCl ws H) (hD : va_D A ws) (hS0 : va_S A H0 H locs) (q0 : Nat) {fs : List Value} (he : ws[q0]? = some (a, .inr (6, fs))) {v : Value} (hn : narrow (tyX5 1) v = v) (hfit : fits (tyX5 1) v = true) (hl : 1 < fs.length) (hdg : decode cc pc = .ok (.putfield 18, 3)) (kk : ∀ (H1 : Heap) (locs1 : List Loc), va_P D vwCl (ws.set q0 (a, .inr (6, fs.set 1 v))) H1 → va_D A (ws.set q0 (a, .inr (6, fs.set 1 v))) → va_S A H0 H1 locs1 → W p l e R s m args below meth c H1 locs1 cells slots Q (F0 m (pc + 3) ls rest)) : W p l e R s m args below meth c H locs cells slots Q (F0 m pc ls (v :: .ref a :: rest)) := va_put (C := RX5) (T := TX5) (N := 3) (ci := 6) hx hb hts inX5 tyX5 tkX5 nmX5 hown hK hP hD hS0 q0 he rfl 1 (by decide) (hts _ t294) (fun _ h => h) rfl (tkX5 1 (by decide)) hn hfit hl hdg kk
theorem dX5_clear_5 : decode cX5_clear 5 = .ok (.return_, 1) := by decide +kernel
set_option maxHeartbeats 4000000 in
set_option maxRecDepth 100000 in
theorem k_paclear (l : Launch) (dC : Nat → ClassId) (dI : Nat → Nat → Nat) (cy : Nat → ClassId) (sz : Nat) (h0 : Nat) (a1 : Nat) (x1 : Int32) (x2 : Int32)  : Met l yX5_clear (wl yX5_clear cX5_clear 1 none) ({ frames := 0, cells := 0, slots := 0, locals := 0 }) (Pw (dC, dI) vwCl cy [(h0, .inr (6, [.ref a1, .int x1, .int x2]))] sz [.ref h0] nE) (Qv (dC, dI) vwCl (fun (u : Unit) => True) (O_k_paclear cy h0 a1 x1 x2) (va_A [(h0, .inr (6, [.ref a1, .int x1, .int x2]))] sz)) 0 0 (va_A [(h0, .inr (6, [.ref a1, .int x1, .int x2]))] sz) := by
  refine mw (Qc := Qv (dC, dI) vwCl (fun (u : Unit) => True) (O_k_paclear cy h0 a1 x1 x2)) RX5 rfl (by decide +kernel) (Nat.le_of_ble_eq_true rfl) ?_
  intro p e s m below meth c A hx hb hr hlocks av9 hav hts hown hnm hml hK hP hD hA hS hE hAe Q9 hQ9 ls hl
  have hl : lv_has ls 1 [(0, .ref h0)] := hl
  refine lv_aload_n hx hb dX5_clear_0 rfl (lv_at hl 0 rfl) ?_
  refine lv_iconst (v := 0) hx hb dX5_clear_1 (by decide) ?_
  refine pf_X5_18 hx hb hts hown hK hP hD hS 0 rfl rfl rfl (Nat.le_of_ble_eq_true rfl) dX5_clear_2 (fun H locs hP hD hS => ?_)
  have hP : va_P (dC, dI) vwCl [(h0, .inr (6, [.ref a1, .int 0, .int x2]))] H := hP
  have hD : va_D A [(h0, .inr (6, [.ref a1, .int 0, .int x2]))] := hD
  rw [hQ9]
  exact re_v () hx hb hr hlocks trivial (hP.sub [0] rfl) (hD.sub [0] rfl rfl) hS dX5_clear_5
abbrev cX10_colony : ByteArray := prog_1_method_4_code
def yX10_colony : MethodName := ⟨RX10, "colony", "()I"⟩
theorem t544 : Cond.code yX10_colony cX10_colony 3 (some .int) ∈ GW := gw_mem 658 (by decide +kernel) (by decide +kernel)
theorem dX10_colony_0 : decode cX10_colony 0 = .ok (.aload_n 0, 1) := by decide +kernel
theorem dX10_colony_1 : decode cX10_colony 1 = .ok (.getfield 19, 3) := by decide +kernel
theorem t478 : Cond.fieldLink RX10 19 "LikenessPound" "colonyText" "LLikenessPound$ColonyText;" ∈ GW := gw_mem 592 (by decide +kernel) (by decide +kernel)
theorem gf_X10_19 {p : Program} {l : Launch} {e : Env} {R : Room} {s : State} {m : MethodId} {args : Array Value} {below : List Frame} {meth : Method} {c : Code} {H : Heap} {locs : List Loc} {cells slots : Nat} {Q : State → Prop} {cc : ByteArray} {pc : Nat} {ls : Array Slot} {rest : List Value} {D : va_G} {a : Nat} {tys : List (ClassId × FieldType)} {ws : va_W} (hx : p.tables.exec = Jvm.exec) (hb : c.code = cc) (hts : ∀ w ∈ GW, w.before args s = true) (hown : s.vm.findClass RX10 = some m.cls) (hK : va_K D vwCl tys s) (hP : va_P D vwCl ws H) (q0 : Nat) {fs : List Value} (he : ws[q0]? = some (a, .inr (11, fs))) {v : Value} (hv : fs[1]? = some v) (hdg : decode cc pc = .ok (.getfield 19, 3)) (kk : W p l e R s m args below meth c H locs cells slots Q (F0 m (pc + 3) ls (v :: rest))) : W p l e R s m args below meth c H locs cells slots Q (F0 m pc ls (.ref a :: rest)) := va_get (C := RX10) (T := TX10) (N := 17) (ci := 11) hx hb hts inX10 hown hK hP q0 he rfl 1 (by decide) (hts _ t478) (fun _ h => h) hv hdg kk
theorem dX10_colony_4 : decode cX10_colony 4 = .ok (.aload_n 0, 1) := by decide +kernel
theorem dX10_colony_5 : decode cX10_colony 5 = .ok (.getfield 10, 3) := by decide +kernel
theorem dX10_colony_8 : decode cX10_colony 8 = .ok (.aload_n 0, 1) := by decide +kernel
theorem dX10_colony_9 : decode cX10_colony 9 = .ok (.getfield 80, 3) := by decide +kernel
theorem t489 : Cond.fieldLink RX10 80 "LikenessPound" "draft" "LLikenessPound$World;" ∈ GW := gw_mem 603 (by decide +kernel) (by decide +kernel)
theorem gf_X10_80 {p : Program} {l : Launch} {e : Env} {R : Room} {s : State} {m : MethodId} {args : Array Value} {below : List Frame} {meth : Method} {c : Code} {H : Heap} {locs : List Loc} {cells slots : Nat} {Q : State → Prop} {cc : ByteArray} {pc : Nat} {ls : Array Slot} {rest : List Value} {D : va_G} {a : Nat} {tys : List (ClassId × FieldType)} {ws : va_W} (hx : p.tables.exec = Jvm.exec) (hb : c.code = cc) (hts : ∀ w ∈ GW, w.before args s = true) (hown : s.vm.findClass RX10 = some m.cls) (hK : va_K D vwCl tys s) (hP : va_P D vwCl ws H) (q0 : Nat) {fs : List Value} (he : ws[q0]? = some (a, .inr (11, fs))) {v : Value} (hv : fs[12]? = some v) (hdg : decode cc pc = .ok (.getfield 80, 3)) (kk : W p l e R s m args below meth c H locs cells slots Q (F0 m (pc + 3) ls (v :: rest))) : W p l e R s m args below meth c H locs cells slots Q (F0 m pc ls (.ref a :: rest)) := va_get (C := RX10) (T := TX10) (N := 17) (ci := 11) hx hb hts inX10 hown hK hP q0 he rfl 12 (by decide) (hts _ t489) (fun _ h => h) hv hdg kk
theorem dX10_colony_12 : decode cX10_colony 12 = .ok (.getfield 94, 3) := by decide +kernel
theorem dX10_colony_15 : decode cX10_colony 15 = .ok (.aload_n 0, 1) := by decide +kernel
theorem dX10_colony_16 : decode cX10_colony 16 = .ok (.getfield 80, 3) := by decide +kernel
theorem dX10_colony_19 : decode cX10_colony 19 = .ok (.getfield 98, 3) := by decide +kernel
theorem dX10_colony_22 : decode cX10_colony 22 = .ok (.invokevirtual 102, 3) := by decide +kernel
theorem t545 : Cond.methodLink RX10 102 yX2_read ∈ GW := gw_mem 659 (by decide +kernel) (by decide +kernel)
theorem t7 : Cond.initialized RX2 ∈ GW := gw_mem 121 (by decide +kernel) (by decide +kernel)
theorem t546 : Cond.instanceMethod yX2_read ∈ GW := gw_mem 660 (by decide +kernel) (by decide +kernel)
theorem t547 : Cond.selects RX2 yX2_read yX2_read ∈ GW := gw_mem 661 (by decide +kernel) (by decide +kernel)
theorem cw_X10_102 {R : Room} {s : State} {args : Array Value} {rm : Room} {mc ms : Nat} (hts : ∀ w ∈ GW, w.before args s = true) (hrc : rm.cells = mc) (hrs : rm.slots = ms) (hR : rm.frames + 1 ≤ R.frames ∧ 8 + (4 + 11) + rm.locals ≤ R.locals) : CallW R s args RX10 RX2 102 yX2_read cX2_read 4 (some .boolean) (wl yX2_read cX2_read 4 (some .boolean)) rm mc ms 3 := cwV 3 hts (gi_V t545 t546 t547 t7 t548) rfl hrc hrs (by decide +kernel) hR
theorem dX10_colony_25 : decode cX10_colony 25 = .ok (.istore_n 1, 1) := by decide +kernel
theorem dX10_colony_26 : decode cX10_colony 26 = .ok (.aload_n 0, 1) := by decide +kernel
theorem dX10_colony_27 : decode cX10_colony 27 = .ok (.getfield 10, 3) := by decide +kernel
theorem dX10_colony_30 : decode cX10_colony 30 = .ok (.iconst 0, 1) := by decide +kernel
theorem dX10_colony_31 : decode cX10_colony 31 = .ok (.putfield 87, 3) := by decide +kernel
theorem dX10_colony_34 : decode cX10_colony 34 = .ok (.aload_n 0, 1) := by decide +kernel
theorem dX10_colony_35 : decode cX10_colony 35 = .ok (.aload_n 0, 1) := by decide +kernel
theorem dX10_colony_36 : decode cX10_colony 36 = .ok (.getfield 10, 3) := by decide +kernel
theorem dX10_colony_39 : decode cX10_colony 39 = .ok (.getfield 106, 3) := by decide +kernel
theorem t115 : Cond.fieldLink RX10 106 "LikenessPound$Tape" "faultKind" "I" ∈ GW := gw_mem 229 (by decide +kernel) (by decide +kernel)
theorem gf_X10_106 {p : Program} {l : Launch} {e : Env} {R : Room} {s : State} {m : MethodId} {args : Array Value} {below : List Frame} {meth : Method} {c : Code} {H : Heap} {locs : List Loc} {cells slots : Nat} {Q : State → Prop} {cc : ByteArray} {pc : Nat} {ls : Array Slot} {rest : List Value} {D : va_G} {a : Nat} {tys : List (ClassId × FieldType)} {ws : va_W} (hx : p.tables.exec = Jvm.exec) (hb : c.code = cc) (hts : ∀ w ∈ GW, w.before args s = true) (hown : s.vm.findClass RX10 = some m.cls) (hK : va_K D vwCl tys s) (hP : va_P D vwCl ws H) (q0 : Nat) {fs : List Value} (he : ws[q0]? = some (a, .inr (9, fs))) {v : Value} (hv : fs[10]? = some v) (hdg : decode cc pc = .ok (.getfield 106, 3)) (kk : W p l e R s m args below meth c H locs cells slots Q (F0 m (pc + 3) ls (v :: rest))) : W p l e R s m args below meth c H locs cells slots Q (F0 m pc ls (.ref a :: rest)) := va_get (C := RX8) (T := TX8) (N := 12) (ci := 9) hx hb hts inX8 hown hK hP q0 he rfl 10 (by decide) (hts _ t115) (fun _ h => h) hv hdg kk
theorem dX10_colony_42 : decode cX10_colony 42 = .ok (.putfield 109, 3) := by decide +kernel
theorem pf_X10_109 {p : Program} {l : Launch} {e : Env} {R : Room} {s : State} {m : MethodId} {args : Array Value} {below : List Frame} {meth : Method} {c : Code} {H : Heap} {locs : List Loc} {cells slots : Nat} {Q : State → Prop} {cc : ByteArray} {pc : Nat} {ls : Array Slot} {rest : List Value} {D : va_G} {A : Nat → Prop} {a : Nat} {tys : List (ClassId × FieldType)} {ws : va_W} {H0 : Heap} (hx : p.tables.exec = Jvm.exec) (hb : c.code = cc) (hts : ∀ w ∈ GW, w.before args s = true) (hown : s.vm.findClass RX10 = some m.cls) (hK : va_K D vwCl tys s) (hP : va_P D vwCl ws H) (hD : va_D A ws) (hS0 : va_S A H0 H locs) (q0 : Nat) {fs : List Value} (he : ws[q0]? = some (a, .inr (11, fs))) {v : Value} (hn : narrow (tyX10 13) v = v) (hfit : fits (tyX10 13) v = true) (hl : 13 < fs.length) (hdg : decode cc pc = .ok (.putfield 109, 3)) (kk : ∀ (H1 : Heap) (locs1 : List Loc), va_P D vwCl (ws.set q0 (a, .inr (11, fs.set 13 v))) H1 → va_D A (ws.set q0 (a, .inr (11, fs.set 13 v))) → va_S A H0 H1 locs1 → W p l e R s m args below meth c H1 locs1 cells slots Q (F0 m (pc + 3) ls rest)) : W p l e R s m args below meth c H locs cells slots Q (F0 m pc ls (v :: .ref a :: rest)) := va_put (C := RX10) (T := TX10) (N := 17) (ci := 11) hx hb hts inX10 tyX10 tkX10 nmX10 hown hK hP hD hS0 q0 he rfl 13 (by decide) (hts _ t490) (fun _ h => h) rfl (tkX10 13 (by decide)) hn hfit hl hdg kk
theorem dX10_colony_45 : decode cX10_colony 45 = .ok (.iload_n 1, 1) := by decide +kernel
theorem dX10_colony_46 : decode cX10_colony 46 = .ok (.ifCond .ne 13, 3) := by decide +kernel
theorem dX10_colony_59 : decode cX10_colony 59 = .ok (.aload_n 0, 1) := by decide +kernel
theorem dX10_colony_60 : decode cX10_colony 60 = .ok (.getfield 76, 3) := by decide +kernel
theorem dX10_colony_63 : decode cX10_colony 63 = .ok (.astore_n 2, 1) := by decide +kernel
theorem dX10_colony_64 : decode cX10_colony 64 = .ok (.aload_n 0, 1) := by decide +kernel
theorem dX10_colony_65 : decode cX10_colony 65 = .ok (.aload_n 0, 1) := by decide +kernel
theorem dX10_colony_66 : decode cX10_colony 66 = .ok (.getfield 80, 3) := by decide +kernel
theorem dX10_colony_69 : decode cX10_colony 69 = .ok (.putfield 76, 3) := by decide +kernel
theorem pf_X10_76 {p : Program} {l : Launch} {e : Env} {R : Room} {s : State} {m : MethodId} {args : Array Value} {below : List Frame} {meth : Method} {c : Code} {H : Heap} {locs : List Loc} {cells slots : Nat} {Q : State → Prop} {cc : ByteArray} {pc : Nat} {ls : Array Slot} {rest : List Value} {D : va_G} {A : Nat → Prop} {a : Nat} {tys : List (ClassId × FieldType)} {ws : va_W} {H0 : Heap} (hx : p.tables.exec = Jvm.exec) (hb : c.code = cc) (hts : ∀ w ∈ GW, w.before args s = true) (hown : s.vm.findClass RX10 = some m.cls) (hK : va_K D vwCl tys s) (hP : va_P D vwCl ws H) (hD : va_D A ws) (hS0 : va_S A H0 H locs) (q0 : Nat) {fs : List Value} (he : ws[q0]? = some (a, .inr (11, fs))) {v : Value} (hn : narrow (tyX10 11) v = v) (hfit : fits (tyX10 11) v = true) (hl : 11 < fs.length) (hdg : decode cc pc = .ok (.putfield 76, 3)) (kk : ∀ (H1 : Heap) (locs1 : List Loc), va_P D vwCl (ws.set q0 (a, .inr (11, fs.set 11 v))) H1 → va_D A (ws.set q0 (a, .inr (11, fs.set 11 v))) → va_S A H0 H1 locs1 → W p l e R s m args below meth c H1 locs1 cells slots Q (F0 m (pc + 3) ls rest)) : W p l e R s m args below meth c H locs cells slots Q (F0 m pc ls (v :: .ref a :: rest)) := va_put (C := RX10) (T := TX10) (N := 17) (ci := 11) hx hb hts inX10 tyX10 tkX10 nmX10 hown hK hP hD hS0 q0 he rfl 11 (by decide) (hts _ t488) (fun _ h => h) rfl (tkX10 11 (by decide)) hn hfit hl hdg kk
theorem dX10_colony_72 : decode cX10_colony 72 = .ok (.aload_n 0, 1) := by decide +kernel
theorem dX10_colony_73 : decode cX10_colony 73 = .ok (.aload_n 2, 1) := by decide +kernel
theorem dX10_colony_74 : decode cX10_colony 74 = .ok (.putfield 80, 3) := by decide +kernel
theorem pf_X10_80 {p : Program} {l : Launch} {e : Env} {R : Room} {s : State} {m : MethodId} {args : Array Value} {below : List Frame} {meth : Method} {c : Code} {H : Heap} {locs : List Loc} {cells slots : Nat} {Q : State → Prop} {cc : ByteArray} {pc : Nat} {ls : Array Slot} {rest : List Value} {D : va_G} {A : Nat → Prop} {a : Nat} {tys : List (ClassId × FieldType)} {ws : va_W} {H0 : Heap} (hx : p.tables.exec = Jvm.exec) (hb : c.code = cc) (hts : ∀ w ∈ GW, w.before args s = true) (hown : s.vm.findClass RX10 = some m.cls) (hK : va_K D vwCl tys s) (hP : va_P D vwCl ws H) (hD : va_D A ws) (hS0 : va_S A H0 H locs) (q0 : Nat) {fs : List Value} (he : ws[q0]? = some (a, .inr (11, fs))) {v : Value} (hn : narrow (tyX10 12) v = v) (hfit : fits (tyX10 12) v = true) (hl : 12 < fs.length) (hdg : decode cc pc = .ok (.putfield 80, 3)) (kk : ∀ (H1 : Heap) (locs1 : List Loc), va_P D vwCl (ws.set q0 (a, .inr (11, fs.set 12 v))) H1 → va_D A (ws.set q0 (a, .inr (11, fs.set 12 v))) → va_S A H0 H1 locs1 → W p l e R s m args below meth c H1 locs1 cells slots Q (F0 m (pc + 3) ls rest)) : W p l e R s m args below meth c H locs cells slots Q (F0 m pc ls (v :: .ref a :: rest)) := va_put (C := RX10) (T := TX10) (N := 17) (ci := 11) hx hb hts inX10 tyX10 tkX10 nmX10 hown hK hP hD hS0 q0 he rfl 12 (by decide) (hts _ t489) (fun _ h => h) rfl (tkX10 12 (by decide)) hn hfit hl hdg kk
theorem dX10_colony_77 : decode cX10_colony 77 = .ok (.aload_n 0, 1) := by decide +kernel
theorem dX10_colony_78 : decode cX10_colony 78 = .ok (.getfield 76, 3) := by decide +kernel
theorem dX10_colony_81 : decode cX10_colony 81 = .ok (.getfield 115, 3) := by decide +kernel
theorem dX10_colony_84 : decode cX10_colony 84 = .ok (.invokevirtual 119, 3) := by decide +kernel
theorem t657 : Cond.methodLink RX10 119 yX6_clear ∈ GW := gw_mem 771 (by decide +kernel) (by decide +kernel)
theorem t17 : Cond.initialized RX6 ∈ GW := gw_mem 131 (by decide +kernel) (by decide +kernel)
theorem t658 : Cond.instanceMethod yX6_clear ∈ GW := gw_mem 772 (by decide +kernel) (by decide +kernel)
theorem t659 : Cond.selects RX6 yX6_clear yX6_clear ∈ GW := gw_mem 773 (by decide +kernel) (by decide +kernel)
theorem cw_X10_119 {R : Room} {s : State} {args : Array Value} {rm : Room} {mc ms : Nat} (hts : ∀ w ∈ GW, w.before args s = true) (hrc : rm.cells = mc) (hrs : rm.slots = ms) (hR : rm.frames + 1 ≤ R.frames ∧ 8 + (1 + 11) + rm.locals ≤ R.locals) : CallW R s args RX10 RX6 119 yX6_clear cX6_clear 1 none (wl yX6_clear cX6_clear 1 none) rm mc ms 0 := cwV 0 hts (gi_V t657 t658 t659 t17 t660) rfl hrc hrs (by decide +kernel) hR
theorem dX10_colony_87 : decode cX10_colony 87 = .ok (.aload_n 0, 1) := by decide +kernel
theorem dX10_colony_88 : decode cX10_colony 88 = .ok (.getfield 33, 3) := by decide +kernel
theorem dX10_colony_91 : decode cX10_colony 91 = .ok (.invokevirtual 124, 3) := by decide +kernel
theorem t661 : Cond.methodLink RX10 124 yX5_clear ∈ GW := gw_mem 775 (by decide +kernel) (by decide +kernel)
theorem t662 : Cond.instanceMethod yX5_clear ∈ GW := gw_mem 776 (by decide +kernel) (by decide +kernel)
theorem t663 : Cond.selects RX5 yX5_clear yX5_clear ∈ GW := gw_mem 777 (by decide +kernel) (by decide +kernel)
theorem cw_X10_124 {R : Room} {s : State} {args : Array Value} {rm : Room} {mc ms : Nat} (hts : ∀ w ∈ GW, w.before args s = true) (hrc : rm.cells = mc) (hrs : rm.slots = ms) (hR : rm.frames + 1 ≤ R.frames ∧ 8 + (1 + 11) + rm.locals ≤ R.locals) : CallW R s args RX10 RX5 124 yX5_clear cX5_clear 1 none (wl yX5_clear cX5_clear 1 none) rm mc ms 0 := cwV 0 hts (gi_V t661 t662 t663 t9 t664) rfl hrc hrs (by decide +kernel) hR
theorem dX10_colony_94 : decode cX10_colony 94 = .ok (.aload_n 0, 1) := by decide +kernel
theorem dX10_colony_95 : decode cX10_colony 95 = .ok (.getfield 19, 3) := by decide +kernel
theorem dX10_colony_98 : decode cX10_colony 98 = .ok (.getfield 125, 3) := by decide +kernel
theorem t153 : Cond.fieldLink RX10 125 "LikenessPound$ColonyText" "lines" "I" ∈ GW := gw_mem 267 (by decide +kernel) (by decide +kernel)
theorem gf_X10_125 {p : Program} {l : Launch} {e : Env} {R : Room} {s : State} {m : MethodId} {args : Array Value} {below : List Frame} {meth : Method} {c : Code} {H : Heap} {locs : List Loc} {cells slots : Nat} {Q : State → Prop} {cc : ByteArray} {pc : Nat} {ls : Array Slot} {rest : List Value} {D : va_G} {a : Nat} {tys : List (ClassId × FieldType)} {ws : va_W} (hx : p.tables.exec = Jvm.exec) (hb : c.code = cc) (hts : ∀ w ∈ GW, w.before args s = true) (hown : s.vm.findClass RX10 = some m.cls) (hK : va_K D vwCl tys s) (hP : va_P D vwCl ws H) (q0 : Nat) {fs : List Value} (he : ws[q0]? = some (a, .inr (3, fs))) {v : Value} (hv : fs[0]? = some v) (hdg : decode cc pc = .ok (.getfield 125, 3)) (kk : W p l e R s m args below meth c H locs cells slots Q (F0 m (pc + 3) ls (v :: rest))) : W p l e R s m args below meth c H locs cells slots Q (F0 m pc ls (.ref a :: rest)) := va_get (C := RX2) (T := TX2) (N := 5) (ci := 3) hx hb hts inX2 hown hK hP q0 he rfl 0 (by decide) (hts _ t153) (fun _ h => h) hv hdg kk
theorem dX10_colony_101 : decode cX10_colony 101 = .ok (.ireturn, 1) := by decide +kernel
set_option maxHeartbeats 4000000 in
set_option maxRecDepth 100000 in
theorem k_colony (l : Launch) (dC : Nat → ClassId) (dI : Nat → Nat → Nat) (cy : Nat → ClassId) (sz : Nat) (ad : Nat → Nat) (ai : Nat → Nat → Int32)  : Met l yX10_colony (wl yX10_colony cX10_colony 3 (some .int)) ({ frames := 4, cells := 0, slots := 0, locals := 256 }) (Pw (dC, dI) vwCl cy [(ad 0, .inr (11, [.ref (ad 1), .ref (ad 4), .ref (ad 5), .ref (ad 10), .ref (ad 23), .ref (ad 24), .ref (ad 25), .ref (ad 27), .ref (ad 28), .ref (ad 29), .ref (ad 30), .ref (ad 31), .ref (ad 54), .int 0, .int (-1), .int 0, .int 0])), (ad 1, .inr (9, [.ref (ad 2), .ref (ad 3), .int 0, .int 0, .int 0, .int 0, .int 0, .int 0, .long 0, .int 0, .int 0, .int 0])), (ad 4, .inr (3, [.int 0, .int 0, .int 0, .int 0, .int 0])), (ad 10, .inr (6, [.ref (ad 11), .int 0, .int 0])), (ad 31, .inr (10, [.ref (ad 32), .ref (ad 38), .ref (ad 49)])), (ad 54, .inr (10, [.ref (ad 55), .ref (ad 61), .ref (ad 72)])), (ad 55, .inr (2, [.ref (ad 56), .ref (ad 57), .ref (ad 58), .ref (ad 59), .ref (ad 60), .int 0, .int 0, .int 60, .int 10])), (ad 60, .inl (cy 0, 7, .inl (ai 60))), (ad 61, .inr (5, [.ref (ad 62), .ref (ad 63), .ref (ad 64), .ref (ad 65), .ref (ad 66), .ref (ad 67), .ref (ad 68), .ref (ad 69), .ref (ad 70), .ref (ad 71), .int 0])), (ad 62, .inl (cy 0, 7, .inl (ai 62))), (ad 63, .inl (cy 0, 70, .inl (ai 63))), (ad 64, .inl (cy 0, 49, .inl (ai 64))), (ad 65, .inl (cy 0, 7, .inl (ai 65))), (ad 66, .inl (cy 0, 7, .inl (ai 66))), (ad 67, .inl (cy 0, 7, .inl (ai 67))), (ad 72, .inr (7, [.ref (ad 73), .ref (ad 74), .ref (ad 75), .ref (ad 76), .int 0, .int 0]))] sz [.ref (ad 0)] nE) (Qi (dC, dI) vwCl (fun (r : Int32) (u : Unit) => r = 0) (fun (u : Unit) => []) (va_A [(ad 0, .inr (11, [.ref (ad 1), .ref (ad 4), .ref (ad 5), .ref (ad 10), .ref (ad 23), .ref (ad 24), .ref (ad 25), .ref (ad 27), .ref (ad 28), .ref (ad 29), .ref (ad 30), .ref (ad 31), .ref (ad 54), .int 0, .int (-1), .int 0, .int 0])), (ad 1, .inr (9, [.ref (ad 2), .ref (ad 3), .int 0, .int 0, .int 0, .int 0, .int 0, .int 0, .long 0, .int 0, .int 0, .int 0])), (ad 4, .inr (3, [.int 0, .int 0, .int 0, .int 0, .int 0])), (ad 10, .inr (6, [.ref (ad 11), .int 0, .int 0])), (ad 31, .inr (10, [.ref (ad 32), .ref (ad 38), .ref (ad 49)])), (ad 54, .inr (10, [.ref (ad 55), .ref (ad 61), .ref (ad 72)])), (ad 55, .inr (2, [.ref (ad 56), .ref (ad 57), .ref (ad 58), .ref (ad 59), .ref (ad 60), .int 0, .int 0, .int 60, .int 10])), (ad 60, .inl (cy 0, 7, .inl (ai 60))), (ad 61, .inr (5, [.ref (ad 62), .ref (ad 63), .ref (ad 64), .ref (ad 65), .ref (ad 66), .ref (ad 67), .ref (ad 68), .ref (ad 69), .ref (ad 70), .ref (ad 71), .int 0])), (ad 62, .inl (cy 0, 7, .inl (ai 62))), (ad 63, .inl (cy 0, 70, .inl (ai 63))), (ad 64, .inl (cy 0, 49, .inl (ai 64))), (ad 65, .inl (cy 0, 7, .inl (ai 65))), (ad 66, .inl (cy 0, 7, .inl (ai 66))), (ad 67, .inl (cy 0, 7, .inl (ai 67))), (ad 72, .inr (7, [.ref (ad 73), .ref (ad 74), .ref (ad 75), .ref (ad 76), .int 0, .int 0]))] sz)) 0 0 (va_A [(ad 0, .inr (11, [.ref (ad 1), .ref (ad 4), .ref (ad 5), .ref (ad 10), .ref (ad 23), .ref (ad 24), .ref (ad 25), .ref (ad 27), .ref (ad 28), .ref (ad 29), .ref (ad 30), .ref (ad 31), .ref (ad 54), .int 0, .int (-1), .int 0, .int 0])), (ad 1, .inr (9, [.ref (ad 2), .ref (ad 3), .int 0, .int 0, .int 0, .int 0, .int 0, .int 0, .long 0, .int 0, .int 0, .int 0])), (ad 4, .inr (3, [.int 0, .int 0, .int 0, .int 0, .int 0])), (ad 10, .inr (6, [.ref (ad 11), .int 0, .int 0])), (ad 31, .inr (10, [.ref (ad 32), .ref (ad 38), .ref (ad 49)])), (ad 54, .inr (10, [.ref (ad 55), .ref (ad 61), .ref (ad 72)])), (ad 55, .inr (2, [.ref (ad 56), .ref (ad 57), .ref (ad 58), .ref (ad 59), .ref (ad 60), .int 0, .int 0, .int 60, .int 10])), (ad 60, .inl (cy 0, 7, .inl (ai 60))), (ad 61, .inr (5, [.ref (ad 62), .ref (ad 63), .ref (ad 64), .ref (ad 65), .ref (ad 66), .ref (ad 67), .ref (ad 68), .ref (ad 69), .ref (ad 70), .ref (ad 71), .int 0])), (ad 62, .inl (cy 0, 7, .inl (ai 62))), (ad 63, .inl (cy 0, 70, .inl (ai 63))), (ad 64, .inl (cy 0, 49, .inl (ai 64))), (ad 65, .inl (cy 0, 7, .inl (ai 65))), (ad 66, .inl (cy 0, 7, .inl (ai 66))), (ad 67, .inl (cy 0, 7, .inl (ai 67))), (ad 72, .inr (7, [.ref (ad 73), .ref (ad 74), .ref (ad 75), .ref (ad 76), .int 0, .int 0]))] sz) := by
  refine mw (Qc := Qi (dC, dI) vwCl (fun (r : Int32) (u : Unit) => r = 0) (fun (u : Unit) => [])) RX10 rfl (by decide +kernel) (Nat.le_of_ble_eq_true rfl) ?_
  intro p e s m below meth c A hx hb hr hlocks av9 hav hts hown hnm hml hK hP hD hA hS hE hAe Q9 hQ9 ls hl
  have hl : lv_has ls 3 [(0, .ref (ad 0))] := hl
  refine lv_aload_n hx hb dX10_colony_0 rfl (lv_at hl 0 rfl) ?_
  refine gf_X10_19 hx hb hts hown hK hP 0 rfl rfl dX10_colony_1 ?_
  refine lv_aload_n hx hb dX10_colony_4 rfl (lv_at hl 0 rfl) ?_
  refine gf_X10_10 hx hb hts hown hK hP 0 rfl rfl dX10_colony_5 ?_
  refine lv_aload_n hx hb dX10_colony_8 rfl (lv_at hl 0 rfl) ?_
  refine gf_X10_80 hx hb hts hown hK hP 0 rfl rfl dX10_colony_9 ?_
  refine gf_X10_94 hx hb hts hown hK hP 5 rfl rfl dX10_colony_12 ?_
  refine lv_aload_n hx hb dX10_colony_15 rfl (lv_at hl 0 rfl) ?_
  refine gf_X10_80 hx hb hts hown hK hP 0 rfl rfl dX10_colony_16 ?_
  refine gf_X10_98 hx hb hts hown hK hP 5 rfl rfl dX10_colony_19 ?_
  refine jn_i (wr := [(ad 0, .inr (11, [.ref (ad 1), .ref (ad 4), .ref (ad 5), .ref (ad 10), .ref (ad 23), .ref (ad 24), .ref (ad 25), .ref (ad 27), .ref (ad 28), .ref (ad 29), .ref (ad 30), .ref (ad 31), .ref (ad 54), .int 0, .int (-1), .int 0, .int 0])), (ad 10, .inr (6, [.ref (ad 11), .int 0, .int 0])), (ad 31, .inr (10, [.ref (ad 32), .ref (ad 38), .ref (ad 49)])), (ad 54, .inr (10, [.ref (ad 55), .ref (ad 61), .ref (ad 72)])), (ad 72, .inr (7, [.ref (ad 73), .ref (ad 74), .ref (ad 75), .ref (ad 76), .int 0, .int 0]))]) (rV (As := [.ref (ad 1), .ref (ad 55), .ref (ad 61)]) (rest := []) (ci := 3) ⟨hx, hb, hml, hown, hts⟩ (k_ctread l dC dI cy _ ad ai ) (cw_X10_102 hts rfl rfl ⟨Nat.le_of_ble_eq_true rfl, Nat.le_of_ble_eq_true rfl⟩) hP hD hK [2, 1, 6, 7, 8, 9, 10, 11, 12, 13, 14] rfl rfl rfl rfl bl0 e0 rfl hl.1 rfl (Nat.le_of_ble_eq_true rfl) dX10_colony_22 ⟨Nat.le_of_ble_eq_true rfl, Nat.le_of_ble_eq_true rfl⟩) hP hD hS hA [2, 1, 6, 7, 8, 9, 10, 11, 12, 13, 14] [0, 3, 4, 5, 15] rfl rfl rfl (by decide) (fun r_1 u_3 H locs hp_2 hP hD hS => ?_)
  have hp_2 : r_1 = 1 := hp_2
  have hP : va_P (dC, dI) vwCl [(ad 0, .inr (11, [.ref (ad 1), .ref (ad 4), .ref (ad 5), .ref (ad 10), .ref (ad 23), .ref (ad 24), .ref (ad 25), .ref (ad 27), .ref (ad 28), .ref (ad 29), .ref (ad 30), .ref (ad 31), .ref (ad 54), .int 0, .int (-1), .int 0, .int 0])), (ad 10, .inr (6, [.ref (ad 11), .int 0, .int 0])), (ad 31, .inr (10, [.ref (ad 32), .ref (ad 38), .ref (ad 49)])), (ad 54, .inr (10, [.ref (ad 55), .ref (ad 61), .ref (ad 72)])), (ad 72, .inr (7, [.ref (ad 73), .ref (ad 74), .ref (ad 75), .ref (ad 76), .int 0, .int 0])), (ad 4, .inr (3, [.int 0, .int 0, .int 0, .int 0, .int 0])), (ad 1, .inr (9, [.ref (ad 2), .ref (ad 3), .int 0, .int 900, .int 0, .int 3, .int 0, .int (-1), .long 0, .int 0, .int 0, .int 0]))] H := hP
  have hD : va_D A [(ad 0, .inr (11, [.ref (ad 1), .ref (ad 4), .ref (ad 5), .ref (ad 10), .ref (ad 23), .ref (ad 24), .ref (ad 25), .ref (ad 27), .ref (ad 28), .ref (ad 29), .ref (ad 30), .ref (ad 31), .ref (ad 54), .int 0, .int (-1), .int 0, .int 0])), (ad 10, .inr (6, [.ref (ad 11), .int 0, .int 0])), (ad 31, .inr (10, [.ref (ad 32), .ref (ad 38), .ref (ad 49)])), (ad 54, .inr (10, [.ref (ad 55), .ref (ad 61), .ref (ad 72)])), (ad 72, .inr (7, [.ref (ad 73), .ref (ad 74), .ref (ad 75), .ref (ad 76), .int 0, .int 0])), (ad 4, .inr (3, [.int 0, .int 0, .int 0, .int 0, .int 0])), (ad 1, .inr (9, [.ref (ad 2), .ref (ad 3), .int 0, .int 900, .int 0, .int 3, .int 0, .int (-1), .long 0, .int 0, .int 0, .int 0]))] := hD
  refine as_i 1 hp_2 ?_
  refine lv_istore_n (lv' := [(1, .int 1), (0, .ref (ad 0))]) hx hb dX10_colony_25 rfl hl (by decide) rfl (fun ls hl => ?_)
  refine lv_aload_n hx hb dX10_colony_26 rfl (lv_at hl 1 rfl) ?_
  refine gf_X10_10 hx hb hts hown hK hP 0 rfl rfl dX10_colony_27 ?_
  refine lv_iconst (v := 0) hx hb dX10_colony_30 (by decide) ?_
  refine pf_X10_87 hx hb hts hown hK hP hD hS 6 rfl rfl rfl (Nat.le_of_ble_eq_true rfl) dX10_colony_31 (fun H locs hP hD hS => ?_)
  have hP : va_P (dC, dI) vwCl [(ad 0, .inr (11, [.ref (ad 1), .ref (ad 4), .ref (ad 5), .ref (ad 10), .ref (ad 23), .ref (ad 24), .ref (ad 25), .ref (ad 27), .ref (ad 28), .ref (ad 29), .ref (ad 30), .ref (ad 31), .ref (ad 54), .int 0, .int (-1), .int 0, .int 0])), (ad 10, .inr (6, [.ref (ad 11), .int 0, .int 0])), (ad 31, .inr (10, [.ref (ad 32), .ref (ad 38), .ref (ad 49)])), (ad 54, .inr (10, [.ref (ad 55), .ref (ad 61), .ref (ad 72)])), (ad 72, .inr (7, [.ref (ad 73), .ref (ad 74), .ref (ad 75), .ref (ad 76), .int 0, .int 0])), (ad 4, .inr (3, [.int 0, .int 0, .int 0, .int 0, .int 0])), (ad 1, .inr (9, [.ref (ad 2), .ref (ad 3), .int 0, .int 900, .int 0, .int 3, .int 0, .int (-1), .long 0, .int 0, .int 0, .int 0]))] H := hP
  have hD : va_D A [(ad 0, .inr (11, [.ref (ad 1), .ref (ad 4), .ref (ad 5), .ref (ad 10), .ref (ad 23), .ref (ad 24), .ref (ad 25), .ref (ad 27), .ref (ad 28), .ref (ad 29), .ref (ad 30), .ref (ad 31), .ref (ad 54), .int 0, .int (-1), .int 0, .int 0])), (ad 10, .inr (6, [.ref (ad 11), .int 0, .int 0])), (ad 31, .inr (10, [.ref (ad 32), .ref (ad 38), .ref (ad 49)])), (ad 54, .inr (10, [.ref (ad 55), .ref (ad 61), .ref (ad 72)])), (ad 72, .inr (7, [.ref (ad 73), .ref (ad 74), .ref (ad 75), .ref (ad 76), .int 0, .int 0])), (ad 4, .inr (3, [.int 0, .int 0, .int 0, .int 0, .int 0])), (ad 1, .inr (9, [.ref (ad 2), .ref (ad 3), .int 0, .int 900, .int 0, .int 3, .int 0, .int (-1), .long 0, .int 0, .int 0, .int 0]))] := hD
  refine lv_aload_n hx hb dX10_colony_34 rfl (lv_at hl 1 rfl) ?_
  refine lv_aload_n hx hb dX10_colony_35 rfl (lv_at hl 1 rfl) ?_
  refine gf_X10_10 hx hb hts hown hK hP 0 rfl rfl dX10_colony_36 ?_
  refine gf_X10_106 hx hb hts hown hK hP 6 rfl rfl dX10_colony_39 ?_
  refine pf_X10_109 hx hb hts hown hK hP hD hS 0 rfl rfl rfl (Nat.le_of_ble_eq_true rfl) dX10_colony_42 (fun H locs hP hD hS => ?_)
  have hP : va_P (dC, dI) vwCl [(ad 0, .inr (11, [.ref (ad 1), .ref (ad 4), .ref (ad 5), .ref (ad 10), .ref (ad 23), .ref (ad 24), .ref (ad 25), .ref (ad 27), .ref (ad 28), .ref (ad 29), .ref (ad 30), .ref (ad 31), .ref (ad 54), .int 0, .int (-1), .int 0, .int 0])), (ad 10, .inr (6, [.ref (ad 11), .int 0, .int 0])), (ad 31, .inr (10, [.ref (ad 32), .ref (ad 38), .ref (ad 49)])), (ad 54, .inr (10, [.ref (ad 55), .ref (ad 61), .ref (ad 72)])), (ad 72, .inr (7, [.ref (ad 73), .ref (ad 74), .ref (ad 75), .ref (ad 76), .int 0, .int 0])), (ad 4, .inr (3, [.int 0, .int 0, .int 0, .int 0, .int 0])), (ad 1, .inr (9, [.ref (ad 2), .ref (ad 3), .int 0, .int 900, .int 0, .int 3, .int 0, .int (-1), .long 0, .int 0, .int 0, .int 0]))] H := hP
  have hD : va_D A [(ad 0, .inr (11, [.ref (ad 1), .ref (ad 4), .ref (ad 5), .ref (ad 10), .ref (ad 23), .ref (ad 24), .ref (ad 25), .ref (ad 27), .ref (ad 28), .ref (ad 29), .ref (ad 30), .ref (ad 31), .ref (ad 54), .int 0, .int (-1), .int 0, .int 0])), (ad 10, .inr (6, [.ref (ad 11), .int 0, .int 0])), (ad 31, .inr (10, [.ref (ad 32), .ref (ad 38), .ref (ad 49)])), (ad 54, .inr (10, [.ref (ad 55), .ref (ad 61), .ref (ad 72)])), (ad 72, .inr (7, [.ref (ad 73), .ref (ad 74), .ref (ad 75), .ref (ad 76), .int 0, .int 0])), (ad 4, .inr (3, [.int 0, .int 0, .int 0, .int 0, .int 0])), (ad 1, .inr (9, [.ref (ad 2), .ref (ad 3), .int 0, .int 900, .int 0, .int 3, .int 0, .int (-1), .long 0, .int 0, .int 0, .int 0]))] := hD
  refine lv_iload_n hx hb dX10_colony_45 rfl (lv_at hl 0 rfl) ?_
  refine lv_if_ne (tgt := 59) hx hb dX10_colony_46 (by decide) (fun _ => ?_) (fun c9 => absurd c9 (by decide))
  refine lv_aload_n hx hb dX10_colony_59 rfl (lv_at hl 1 rfl) ?_
  refine gf_X10_76 hx hb hts hown hK hP 0 rfl rfl dX10_colony_60 ?_
  refine lv_astore_n (lv' := [(2, .ref (ad 31)), (1, .int 1), (0, .ref (ad 0))]) hx hb dX10_colony_63 rfl hl (by decide) rfl (fun ls hl => ?_)
  refine lv_aload_n hx hb dX10_colony_64 rfl (lv_at hl 2 rfl) ?_
  refine lv_aload_n hx hb dX10_colony_65 rfl (lv_at hl 2 rfl) ?_
  refine gf_X10_80 hx hb hts hown hK hP 0 rfl rfl dX10_colony_66 ?_
  refine pf_X10_76 hx hb hts hown hK hP hD hS 0 rfl rfl rfl (Nat.le_of_ble_eq_true rfl) dX10_colony_69 (fun H locs hP hD hS => ?_)
  have hP : va_P (dC, dI) vwCl [(ad 0, .inr (11, [.ref (ad 1), .ref (ad 4), .ref (ad 5), .ref (ad 10), .ref (ad 23), .ref (ad 24), .ref (ad 25), .ref (ad 27), .ref (ad 28), .ref (ad 29), .ref (ad 30), .ref (ad 54), .ref (ad 54), .int 0, .int (-1), .int 0, .int 0])), (ad 10, .inr (6, [.ref (ad 11), .int 0, .int 0])), (ad 31, .inr (10, [.ref (ad 32), .ref (ad 38), .ref (ad 49)])), (ad 54, .inr (10, [.ref (ad 55), .ref (ad 61), .ref (ad 72)])), (ad 72, .inr (7, [.ref (ad 73), .ref (ad 74), .ref (ad 75), .ref (ad 76), .int 0, .int 0])), (ad 4, .inr (3, [.int 0, .int 0, .int 0, .int 0, .int 0])), (ad 1, .inr (9, [.ref (ad 2), .ref (ad 3), .int 0, .int 900, .int 0, .int 3, .int 0, .int (-1), .long 0, .int 0, .int 0, .int 0]))] H := hP
  have hD : va_D A [(ad 0, .inr (11, [.ref (ad 1), .ref (ad 4), .ref (ad 5), .ref (ad 10), .ref (ad 23), .ref (ad 24), .ref (ad 25), .ref (ad 27), .ref (ad 28), .ref (ad 29), .ref (ad 30), .ref (ad 54), .ref (ad 54), .int 0, .int (-1), .int 0, .int 0])), (ad 10, .inr (6, [.ref (ad 11), .int 0, .int 0])), (ad 31, .inr (10, [.ref (ad 32), .ref (ad 38), .ref (ad 49)])), (ad 54, .inr (10, [.ref (ad 55), .ref (ad 61), .ref (ad 72)])), (ad 72, .inr (7, [.ref (ad 73), .ref (ad 74), .ref (ad 75), .ref (ad 76), .int 0, .int 0])), (ad 4, .inr (3, [.int 0, .int 0, .int 0, .int 0, .int 0])), (ad 1, .inr (9, [.ref (ad 2), .ref (ad 3), .int 0, .int 900, .int 0, .int 3, .int 0, .int (-1), .long 0, .int 0, .int 0, .int 0]))] := hD
  refine lv_aload_n hx hb dX10_colony_72 rfl (lv_at hl 2 rfl) ?_
  refine lv_aload_n hx hb dX10_colony_73 rfl (lv_at hl 0 rfl) ?_
  refine pf_X10_80 hx hb hts hown hK hP hD hS 0 rfl rfl rfl (Nat.le_of_ble_eq_true rfl) dX10_colony_74 (fun H locs hP hD hS => ?_)
  have hP : va_P (dC, dI) vwCl [(ad 0, .inr (11, [.ref (ad 1), .ref (ad 4), .ref (ad 5), .ref (ad 10), .ref (ad 23), .ref (ad 24), .ref (ad 25), .ref (ad 27), .ref (ad 28), .ref (ad 29), .ref (ad 30), .ref (ad 54), .ref (ad 31), .int 0, .int (-1), .int 0, .int 0])), (ad 10, .inr (6, [.ref (ad 11), .int 0, .int 0])), (ad 31, .inr (10, [.ref (ad 32), .ref (ad 38), .ref (ad 49)])), (ad 54, .inr (10, [.ref (ad 55), .ref (ad 61), .ref (ad 72)])), (ad 72, .inr (7, [.ref (ad 73), .ref (ad 74), .ref (ad 75), .ref (ad 76), .int 0, .int 0])), (ad 4, .inr (3, [.int 0, .int 0, .int 0, .int 0, .int 0])), (ad 1, .inr (9, [.ref (ad 2), .ref (ad 3), .int 0, .int 900, .int 0, .int 3, .int 0, .int (-1), .long 0, .int 0, .int 0, .int 0]))] H := hP
  have hD : va_D A [(ad 0, .inr (11, [.ref (ad 1), .ref (ad 4), .ref (ad 5), .ref (ad 10), .ref (ad 23), .ref (ad 24), .ref (ad 25), .ref (ad 27), .ref (ad 28), .ref (ad 29), .ref (ad 30), .ref (ad 54), .ref (ad 31), .int 0, .int (-1), .int 0, .int 0])), (ad 10, .inr (6, [.ref (ad 11), .int 0, .int 0])), (ad 31, .inr (10, [.ref (ad 32), .ref (ad 38), .ref (ad 49)])), (ad 54, .inr (10, [.ref (ad 55), .ref (ad 61), .ref (ad 72)])), (ad 72, .inr (7, [.ref (ad 73), .ref (ad 74), .ref (ad 75), .ref (ad 76), .int 0, .int 0])), (ad 4, .inr (3, [.int 0, .int 0, .int 0, .int 0, .int 0])), (ad 1, .inr (9, [.ref (ad 2), .ref (ad 3), .int 0, .int 900, .int 0, .int 3, .int 0, .int (-1), .long 0, .int 0, .int 0, .int 0]))] := hD
  refine lv_aload_n hx hb dX10_colony_77 rfl (lv_at hl 2 rfl) ?_
  refine gf_X10_76 hx hb hts hown hK hP 0 rfl rfl dX10_colony_78 ?_
  refine gf_X10_115 hx hb hts hown hK hP 3 rfl rfl dX10_colony_81 ?_
  refine jn_v (wr := [(ad 0, .inr (11, [.ref (ad 1), .ref (ad 4), .ref (ad 5), .ref (ad 10), .ref (ad 23), .ref (ad 24), .ref (ad 25), .ref (ad 27), .ref (ad 28), .ref (ad 29), .ref (ad 30), .ref (ad 54), .ref (ad 31), .int 0, .int (-1), .int 0, .int 0])), (ad 10, .inr (6, [.ref (ad 11), .int 0, .int 0])), (ad 31, .inr (10, [.ref (ad 32), .ref (ad 38), .ref (ad 49)])), (ad 54, .inr (10, [.ref (ad 55), .ref (ad 61), .ref (ad 72)])), (ad 4, .inr (3, [.int 0, .int 0, .int 0, .int 0, .int 0])), (ad 1, .inr (9, [.ref (ad 2), .ref (ad 3), .int 0, .int 900, .int 0, .int 3, .int 0, .int (-1), .long 0, .int 0, .int 0, .int 0]))]) (rV (As := []) (rest := []) (ci := 7) ⟨hx, hb, hml, hown, hts⟩ (k_seclear l dC dI cy _ (ad 72) (ad 73) (ad 74) (ad 75) (ad 76) 0 0 ) (cw_X10_119 hts rfl rfl ⟨Nat.le_of_ble_eq_true rfl, Nat.le_of_ble_eq_true rfl⟩) hP hD hK [4] rfl rfl rfl rfl bl0 e0 rfl hl.1 rfl (Nat.le_of_ble_eq_true rfl) dX10_colony_84 ⟨Nat.le_of_ble_eq_true rfl, Nat.le_of_ble_eq_true rfl⟩) hP hD hS hA [4] [0, 1, 2, 3, 5, 6] rfl rfl rfl (by decide) (fun u_6 H locs hp_5 hP hD hS => ?_)
  have hp_5 : True := hp_5
  have hP : va_P (dC, dI) vwCl [(ad 0, .inr (11, [.ref (ad 1), .ref (ad 4), .ref (ad 5), .ref (ad 10), .ref (ad 23), .ref (ad 24), .ref (ad 25), .ref (ad 27), .ref (ad 28), .ref (ad 29), .ref (ad 30), .ref (ad 54), .ref (ad 31), .int 0, .int (-1), .int 0, .int 0])), (ad 10, .inr (6, [.ref (ad 11), .int 0, .int 0])), (ad 31, .inr (10, [.ref (ad 32), .ref (ad 38), .ref (ad 49)])), (ad 54, .inr (10, [.ref (ad 55), .ref (ad 61), .ref (ad 72)])), (ad 4, .inr (3, [.int 0, .int 0, .int 0, .int 0, .int 0])), (ad 1, .inr (9, [.ref (ad 2), .ref (ad 3), .int 0, .int 900, .int 0, .int 3, .int 0, .int (-1), .long 0, .int 0, .int 0, .int 0])), (ad 72, .inr (7, [.ref (ad 73), .ref (ad 74), .ref (ad 75), .ref (ad 76), .int 0, .int 0]))] H := hP
  have hD : va_D A [(ad 0, .inr (11, [.ref (ad 1), .ref (ad 4), .ref (ad 5), .ref (ad 10), .ref (ad 23), .ref (ad 24), .ref (ad 25), .ref (ad 27), .ref (ad 28), .ref (ad 29), .ref (ad 30), .ref (ad 54), .ref (ad 31), .int 0, .int (-1), .int 0, .int 0])), (ad 10, .inr (6, [.ref (ad 11), .int 0, .int 0])), (ad 31, .inr (10, [.ref (ad 32), .ref (ad 38), .ref (ad 49)])), (ad 54, .inr (10, [.ref (ad 55), .ref (ad 61), .ref (ad 72)])), (ad 4, .inr (3, [.int 0, .int 0, .int 0, .int 0, .int 0])), (ad 1, .inr (9, [.ref (ad 2), .ref (ad 3), .int 0, .int 900, .int 0, .int 3, .int 0, .int (-1), .long 0, .int 0, .int 0, .int 0])), (ad 72, .inr (7, [.ref (ad 73), .ref (ad 74), .ref (ad 75), .ref (ad 76), .int 0, .int 0]))] := hD
  refine lv_aload_n hx hb dX10_colony_87 rfl (lv_at hl 2 rfl) ?_
  refine gf_X10_33 hx hb hts hown hK hP 0 rfl rfl dX10_colony_88 ?_
  refine jn_v (wr := [(ad 0, .inr (11, [.ref (ad 1), .ref (ad 4), .ref (ad 5), .ref (ad 10), .ref (ad 23), .ref (ad 24), .ref (ad 25), .ref (ad 27), .ref (ad 28), .ref (ad 29), .ref (ad 30), .ref (ad 54), .ref (ad 31), .int 0, .int (-1), .int 0, .int 0])), (ad 31, .inr (10, [.ref (ad 32), .ref (ad 38), .ref (ad 49)])), (ad 54, .inr (10, [.ref (ad 55), .ref (ad 61), .ref (ad 72)])), (ad 4, .inr (3, [.int 0, .int 0, .int 0, .int 0, .int 0])), (ad 1, .inr (9, [.ref (ad 2), .ref (ad 3), .int 0, .int 900, .int 0, .int 3, .int 0, .int (-1), .long 0, .int 0, .int 0, .int 0])), (ad 72, .inr (7, [.ref (ad 73), .ref (ad 74), .ref (ad 75), .ref (ad 76), .int 0, .int 0]))]) (rV (As := []) (rest := []) (ci := 6) ⟨hx, hb, hml, hown, hts⟩ (k_paclear l dC dI cy _ (ad 10) (ad 11) 0 0 ) (cw_X10_124 hts rfl rfl ⟨Nat.le_of_ble_eq_true rfl, Nat.le_of_ble_eq_true rfl⟩) hP hD hK [1] rfl rfl rfl rfl bl0 e0 rfl hl.1 rfl (Nat.le_of_ble_eq_true rfl) dX10_colony_91 ⟨Nat.le_of_ble_eq_true rfl, Nat.le_of_ble_eq_true rfl⟩) hP hD hS hA [1] [0, 2, 3, 4, 5, 6] rfl rfl rfl (by decide) (fun u_9 H locs hp_8 hP hD hS => ?_)
  have hp_8 : True := hp_8
  have hP : va_P (dC, dI) vwCl [(ad 0, .inr (11, [.ref (ad 1), .ref (ad 4), .ref (ad 5), .ref (ad 10), .ref (ad 23), .ref (ad 24), .ref (ad 25), .ref (ad 27), .ref (ad 28), .ref (ad 29), .ref (ad 30), .ref (ad 54), .ref (ad 31), .int 0, .int (-1), .int 0, .int 0])), (ad 31, .inr (10, [.ref (ad 32), .ref (ad 38), .ref (ad 49)])), (ad 54, .inr (10, [.ref (ad 55), .ref (ad 61), .ref (ad 72)])), (ad 4, .inr (3, [.int 0, .int 0, .int 0, .int 0, .int 0])), (ad 1, .inr (9, [.ref (ad 2), .ref (ad 3), .int 0, .int 900, .int 0, .int 3, .int 0, .int (-1), .long 0, .int 0, .int 0, .int 0])), (ad 72, .inr (7, [.ref (ad 73), .ref (ad 74), .ref (ad 75), .ref (ad 76), .int 0, .int 0])), (ad 10, .inr (6, [.ref (ad 11), .int 0, .int 0]))] H := hP
  have hD : va_D A [(ad 0, .inr (11, [.ref (ad 1), .ref (ad 4), .ref (ad 5), .ref (ad 10), .ref (ad 23), .ref (ad 24), .ref (ad 25), .ref (ad 27), .ref (ad 28), .ref (ad 29), .ref (ad 30), .ref (ad 54), .ref (ad 31), .int 0, .int (-1), .int 0, .int 0])), (ad 31, .inr (10, [.ref (ad 32), .ref (ad 38), .ref (ad 49)])), (ad 54, .inr (10, [.ref (ad 55), .ref (ad 61), .ref (ad 72)])), (ad 4, .inr (3, [.int 0, .int 0, .int 0, .int 0, .int 0])), (ad 1, .inr (9, [.ref (ad 2), .ref (ad 3), .int 0, .int 900, .int 0, .int 3, .int 0, .int (-1), .long 0, .int 0, .int 0, .int 0])), (ad 72, .inr (7, [.ref (ad 73), .ref (ad 74), .ref (ad 75), .ref (ad 76), .int 0, .int 0])), (ad 10, .inr (6, [.ref (ad 11), .int 0, .int 0]))] := hD
  refine lv_aload_n hx hb dX10_colony_94 rfl (lv_at hl 2 rfl) ?_
  refine gf_X10_19 hx hb hts hown hK hP 0 rfl rfl dX10_colony_95 ?_
  refine gf_X10_125 hx hb hts hown hK hP 3 rfl rfl dX10_colony_98 ?_
  rw [hQ9]
  exact re_i () hx hb hr hlocks rfl (hP.sub [] rfl) (hD.sub [] rfl rfl) hS dX10_colony_101
abbrev cX10_may : ByteArray := prog_1_method_26_code
def yX10_may : MethodName := ⟨RX10, "may", "()J"⟩
theorem t902 : Cond.code yX10_may cX10_may 6 (some .long) ∈ GW := gw_mem 1016 (by decide +kernel) (by decide +kernel)
theorem dX10_may_0 : decode cX10_may 0 = .ok (.aload_n 0, 1) := by decide +kernel
theorem dX10_may_1 : decode cX10_may 1 = .ok (.getfield 10, 3) := by decide +kernel
theorem dX10_may_4 : decode cX10_may 4 = .ok (.getfield 87, 3) := by decide +kernel
theorem dX10_may_7 : decode cX10_may 7 = .ok (.iconst 2, 1) := by decide +kernel
theorem dX10_may_8 : decode cX10_may 8 = .ok (.if_icmp .ne 7, 3) := by decide +kernel
theorem dX10_may_15 : decode cX10_may 15 = .ok (.iconst 0, 1) := by decide +kernel
theorem dX10_may_16 : decode cX10_may 16 = .ok (.istore_n 1, 1) := by decide +kernel
theorem dX10_may_17 : decode cX10_may 17 = .ok (.aload_n 0, 1) := by decide +kernel
theorem dX10_may_18 : decode cX10_may 18 = .ok (.getfield 10, 3) := by decide +kernel
theorem dX10_may_21 : decode cX10_may 21 = .ok (.iconst 0, 1) := by decide +kernel
theorem dX10_may_22 : decode cX10_may 22 = .ok (.putfield 87, 3) := by decide +kernel
theorem dX10_may_25 : decode cX10_may 25 = .ok (.iload_n 1, 1) := by decide +kernel
theorem dX10_may_26 : decode cX10_may 26 = .ok (.ifCond .ne 7, 3) := by decide +kernel
theorem dX10_may_29 : decode cX10_may 29 = .ok (.ldc2_w 278, 3) := by decide +kernel
theorem t903 : Cond.constantLong RX10 278 (-1) ∈ GW := gw_mem 1017 (by decide +kernel) (by decide +kernel)
theorem dX10_may_32 : decode cX10_may 32 = .ok (.lreturn, 1) := by decide +kernel
set_option maxHeartbeats 4000000 in
set_option maxRecDepth 100000 in
theorem k_may (l : Launch) (dC : Nat → ClassId) (dI : Nat → Nat → Nat) (cy : Nat → ClassId) (sz : Nat) (ad : Nat → Nat)  : Met l yX10_may (wl yX10_may cX10_may 6 (some .long)) ({ frames := 1, cells := 0, slots := 0, locals := 64 }) (Pw (dC, dI) vwCl cy [(ad 0, .inr (11, [.ref (ad 1), .ref (ad 4), .ref (ad 5), .ref (ad 10), .ref (ad 23), .ref (ad 24), .ref (ad 25), .ref (ad 27), .ref (ad 28), .ref (ad 29), .ref (ad 30), .ref (ad 31), .ref (ad 54), .int 0, .int (-1), .int 0, .int 0])), (ad 1, .inr (9, [.ref (ad 2), .ref (ad 3), .int 0, .int 0, .int 0, .int 0, .int 0, .int 0, .long 0, .int 0, .int 0, .int 0]))] sz [.ref (ad 0)] nE) (Ql (dC, dI) vwCl (fun (r : Int64) (u : Unit) => r = (-1)) (fun (u : Unit) => []) (va_A [(ad 0, .inr (11, [.ref (ad 1), .ref (ad 4), .ref (ad 5), .ref (ad 10), .ref (ad 23), .ref (ad 24), .ref (ad 25), .ref (ad 27), .ref (ad 28), .ref (ad 29), .ref (ad 30), .ref (ad 31), .ref (ad 54), .int 0, .int (-1), .int 0, .int 0])), (ad 1, .inr (9, [.ref (ad 2), .ref (ad 3), .int 0, .int 0, .int 0, .int 0, .int 0, .int 0, .long 0, .int 0, .int 0, .int 0]))] sz)) 0 0 (va_A [(ad 0, .inr (11, [.ref (ad 1), .ref (ad 4), .ref (ad 5), .ref (ad 10), .ref (ad 23), .ref (ad 24), .ref (ad 25), .ref (ad 27), .ref (ad 28), .ref (ad 29), .ref (ad 30), .ref (ad 31), .ref (ad 54), .int 0, .int (-1), .int 0, .int 0])), (ad 1, .inr (9, [.ref (ad 2), .ref (ad 3), .int 0, .int 0, .int 0, .int 0, .int 0, .int 0, .long 0, .int 0, .int 0, .int 0]))] sz) := by
  refine mw (Qc := Ql (dC, dI) vwCl (fun (r : Int64) (u : Unit) => r = (-1)) (fun (u : Unit) => [])) RX10 rfl (by decide +kernel) (Nat.le_of_ble_eq_true rfl) ?_
  intro p e s m below meth c A hx hb hr hlocks av9 hav hts hown hnm hml hK hP hD hA hS hE hAe Q9 hQ9 ls hl
  have hl : lv_has ls 6 [(0, .ref (ad 0))] := hl
  refine lv_aload_n hx hb dX10_may_0 rfl (lv_at hl 0 rfl) ?_
  refine gf_X10_10 hx hb hts hown hK hP 0 rfl rfl dX10_may_1 ?_
  refine gf_X10_87 hx hb hts hown hK hP 1 rfl rfl dX10_may_4 ?_
  refine lv_iconst (v := 2) hx hb dX10_may_7 (by decide) ?_
  refine lv_icmp_ne (tgt := 15) hx hb dX10_may_8 (by decide) (fun _ => ?_) (fun c9 => absurd c9 (by decide))
  refine lv_iconst (v := 0) hx hb dX10_may_15 (by decide) ?_
  refine lv_istore_n (lv' := [(1, .int 0), (0, .ref (ad 0))]) hx hb dX10_may_16 rfl hl (by decide) rfl (fun ls hl => ?_)
  refine lv_aload_n hx hb dX10_may_17 rfl (lv_at hl 1 rfl) ?_
  refine gf_X10_10 hx hb hts hown hK hP 0 rfl rfl dX10_may_18 ?_
  refine lv_iconst (v := 0) hx hb dX10_may_21 (by decide) ?_
  refine pf_X10_87 hx hb hts hown hK hP hD hS 1 rfl rfl rfl (Nat.le_of_ble_eq_true rfl) dX10_may_22 (fun H locs hP hD hS => ?_)
  have hP : va_P (dC, dI) vwCl [(ad 0, .inr (11, [.ref (ad 1), .ref (ad 4), .ref (ad 5), .ref (ad 10), .ref (ad 23), .ref (ad 24), .ref (ad 25), .ref (ad 27), .ref (ad 28), .ref (ad 29), .ref (ad 30), .ref (ad 31), .ref (ad 54), .int 0, .int (-1), .int 0, .int 0])), (ad 1, .inr (9, [.ref (ad 2), .ref (ad 3), .int 0, .int 0, .int 0, .int 0, .int 0, .int 0, .long 0, .int 0, .int 0, .int 0]))] H := hP
  have hD : va_D A [(ad 0, .inr (11, [.ref (ad 1), .ref (ad 4), .ref (ad 5), .ref (ad 10), .ref (ad 23), .ref (ad 24), .ref (ad 25), .ref (ad 27), .ref (ad 28), .ref (ad 29), .ref (ad 30), .ref (ad 31), .ref (ad 54), .int 0, .int (-1), .int 0, .int 0])), (ad 1, .inr (9, [.ref (ad 2), .ref (ad 3), .int 0, .int 0, .int 0, .int 0, .int 0, .int 0, .long 0, .int 0, .int 0, .int 0]))] := hD
  refine lv_iload_n hx hb dX10_may_25 rfl (lv_at hl 0 rfl) ?_
  refine lv_if_ne (tgt := 33) hx hb dX10_may_26 (by decide) (fun c9 => absurd c9 (by decide)) (fun _ => ?_)
  refine lv_ldc2 hx hb hown (hts _ t903) dX10_may_29 ?_
  rw [hQ9]
  exact re_l () hx hb hr hlocks rfl (hP.sub [] rfl) (hD.sub [] rfl rfl) hS dX10_may_32
abbrev cX4_copyFrom : ByteArray := prog_6_method_3_code
def yX4_copyFrom : MethodName := ⟨RX4, "copyFrom", "(LLikenessPound$Life;)V"⟩
theorem t766 : Cond.code yX4_copyFrom cX4_copyFrom 2 none ∈ GW := gw_mem 880 (by decide +kernel) (by decide +kernel)
abbrev O_c_Life_copy (cy : Nat → ClassId) (h0 : Nat) (a1 : Nat) (a2 : Nat) (a3 : Nat) (a4 : Nat) (a5 : Nat) (a6 : Nat) (a7 : Nat) (a8 : Nat) (a9 : Nat) (a10 : Nat) (yr : Int32) (f1 : Nat → Int32) (f2 : Nat → Int32) (f3 : Nat → Int32) (f4 : Nat → Int32) (f5 : Nat → Int32) (f6 : Nat → Int32) (f7 : Nat → Int32) (f8 : Nat → Int32) (f9 : Nat → Int32) (f10 : Nat → Int32) (k0 : Nat) (b1 : Nat) (b2 : Nat) (b3 : Nat) (b4 : Nat) (b5 : Nat) (b6 : Nat) (b7 : Nat) (b8 : Nat) (b9 : Nat) (b10 : Nat) (yr2 : Int32) (g1 : Nat → Int32) (g2 : Nat → Int32) (g3 : Nat → Int32) (g4 : Nat → Int32) (g5 : Nat → Int32) (g6 : Nat → Int32) (g7 : Nat → Int32) (g8 : Nat → Int32) (g9 : Nat → Int32) (g10 : Nat → Int32) (u : (Nat → Int32) × (Nat → Int32) × (Nat → Int32) × (Nat → Int32) × (Nat → Int32) × (Nat → Int32) × (Nat → Int32) × (Nat → Int32) × (Nat → Int32) × (Nat → Int32)) : va_W := [(h0, .inr (5, [.ref a1, .ref a2, .ref a3, .ref a4, .ref a5, .ref a6, .ref a7, .ref a8, .ref a9, .ref a10, .int yr2])), (a1, .inl (cy 0, 7, .inl u.1)), (a2, .inl (cy 0, 70, .inl u.2.1)), (a3, .inl (cy 0, 49, .inl u.2.2.1)), (a4, .inl (cy 0, 7, .inl u.2.2.2.1)), (a5, .inl (cy 0, 7, .inl u.2.2.2.2.1)), (a6, .inl (cy 0, 7, .inl u.2.2.2.2.2.1)), (a7, .inl (cy 0, 7, .inl u.2.2.2.2.2.2.1)), (a8, .inl (cy 0, 7, .inl u.2.2.2.2.2.2.2.1)), (a9, .inl (cy 0, 7, .inl u.2.2.2.2.2.2.2.2.1)), (a10, .inl (cy 0, 7, .inl u.2.2.2.2.2.2.2.2.2)), (k0, .inr (5, [.ref b1, .ref b2, .ref b3, .ref b4, .ref b5, .ref b6, .ref b7, .ref b8, .ref b9, .ref b10, .int yr2])), (b1, .inl (cy 0, 7, .inl g1)), (b2, .inl (cy 0, 70, .inl g2)), (b3, .inl (cy 0, 49, .inl g3)), (b4, .inl (cy 0, 7, .inl g4)), (b5, .inl (cy 0, 7, .inl g5)), (b6, .inl (cy 0, 7, .inl g6)), (b7, .inl (cy 0, 7, .inl g7)), (b8, .inl (cy 0, 7, .inl g8)), (b9, .inl (cy 0, 7, .inl g9)), (b10, .inl (cy 0, 7, .inl g10))]
theorem dX4_copyFrom_0 : decode cX4_copyFrom 0 = .ok (.aload_n 0, 1) := by decide +kernel
theorem dX4_copyFrom_1 : decode cX4_copyFrom 1 = .ok (.aload_n 1, 1) := by decide +kernel
theorem dX4_copyFrom_2 : decode cX4_copyFrom 2 = .ok (.getfield 45, 3) := by decide +kernel
theorem gf_X4_45 {p : Program} {l : Launch} {e : Env} {R : Room} {s : State} {m : MethodId} {args : Array Value} {below : List Frame} {meth : Method} {c : Code} {H : Heap} {locs : List Loc} {cells slots : Nat} {Q : State → Prop} {cc : ByteArray} {pc : Nat} {ls : Array Slot} {rest : List Value} {D : va_G} {a : Nat} {tys : List (ClassId × FieldType)} {ws : va_W} (hx : p.tables.exec = Jvm.exec) (hb : c.code = cc) (hts : ∀ w ∈ GW, w.before args s = true) (hown : s.vm.findClass RX4 = some m.cls) (hK : va_K D vwCl tys s) (hP : va_P D vwCl ws H) (q0 : Nat) {fs : List Value} (he : ws[q0]? = some (a, .inr (5, fs))) {v : Value} (hv : fs[10]? = some v) (hdg : decode cc pc = .ok (.getfield 45, 3)) (kk : W p l e R s m args below meth c H locs cells slots Q (F0 m (pc + 3) ls (v :: rest))) : W p l e R s m args below meth c H locs cells slots Q (F0 m pc ls (.ref a :: rest)) := va_get (C := RX4) (T := TX4) (N := 11) (ci := 5) hx hb hts inX4 hown hK hP q0 he rfl 10 (by decide) (hts _ t266) (fun _ h => h) hv hdg kk
theorem dX4_copyFrom_5 : decode cX4_copyFrom 5 = .ok (.putfield 45, 3) := by decide +kernel
theorem dX4_copyFrom_8 : decode cX4_copyFrom 8 = .ok (.aload_n 1, 1) := by decide +kernel
theorem dX4_copyFrom_9 : decode cX4_copyFrom 9 = .ok (.getfield 9, 3) := by decide +kernel
theorem dX4_copyFrom_12 : decode cX4_copyFrom 12 = .ok (.iconst 0, 1) := by decide +kernel
theorem dX4_copyFrom_13 : decode cX4_copyFrom 13 = .ok (.aload_n 0, 1) := by decide +kernel
theorem dX4_copyFrom_14 : decode cX4_copyFrom 14 = .ok (.getfield 9, 3) := by decide +kernel
theorem dX4_copyFrom_17 : decode cX4_copyFrom 17 = .ok (.iconst 0, 1) := by decide +kernel
theorem dX4_copyFrom_18 : decode cX4_copyFrom 18 = .ok (.bipush 7, 2) := by decide +kernel
theorem dX4_copyFrom_20 : decode cX4_copyFrom 20 = .ok (.invokestatic 49, 3) := by decide +kernel
theorem t767 : Cond.methodLink RX4 49 arraycopyName ∈ GW := gw_mem 881 (by decide +kernel) (by decide +kernel)
theorem t769 : Cond.native arraycopyName ∈ GW := gw_mem 883 (by decide +kernel) (by decide +kernel)
theorem t768 : Cond.static arraycopyName ∈ GW := gw_mem 882 (by decide +kernel) (by decide +kernel)
theorem t23 : Cond.initialized "java/lang/System" ∈ GW := gw_mem 137 (by decide +kernel) (by decide +kernel)
theorem dX4_copyFrom_23 : decode cX4_copyFrom 23 = .ok (.aload_n 1, 1) := by decide +kernel
theorem dX4_copyFrom_24 : decode cX4_copyFrom 24 = .ok (.getfield 15, 3) := by decide +kernel
theorem dX4_copyFrom_27 : decode cX4_copyFrom 27 = .ok (.iconst 0, 1) := by decide +kernel
theorem dX4_copyFrom_28 : decode cX4_copyFrom 28 = .ok (.aload_n 0, 1) := by decide +kernel
theorem dX4_copyFrom_29 : decode cX4_copyFrom 29 = .ok (.getfield 15, 3) := by decide +kernel
theorem dX4_copyFrom_32 : decode cX4_copyFrom 32 = .ok (.iconst 0, 1) := by decide +kernel
theorem dX4_copyFrom_33 : decode cX4_copyFrom 33 = .ok (.bipush 70, 2) := by decide +kernel
theorem dX4_copyFrom_35 : decode cX4_copyFrom 35 = .ok (.invokestatic 49, 3) := by decide +kernel
theorem dX4_copyFrom_38 : decode cX4_copyFrom 38 = .ok (.aload_n 1, 1) := by decide +kernel
theorem dX4_copyFrom_39 : decode cX4_copyFrom 39 = .ok (.getfield 18, 3) := by decide +kernel
theorem dX4_copyFrom_42 : decode cX4_copyFrom 42 = .ok (.iconst 0, 1) := by decide +kernel
theorem dX4_copyFrom_43 : decode cX4_copyFrom 43 = .ok (.aload_n 0, 1) := by decide +kernel
theorem dX4_copyFrom_44 : decode cX4_copyFrom 44 = .ok (.getfield 18, 3) := by decide +kernel
theorem dX4_copyFrom_47 : decode cX4_copyFrom 47 = .ok (.iconst 0, 1) := by decide +kernel
theorem dX4_copyFrom_48 : decode cX4_copyFrom 48 = .ok (.bipush 49, 2) := by decide +kernel
theorem dX4_copyFrom_50 : decode cX4_copyFrom 50 = .ok (.invokestatic 49, 3) := by decide +kernel
theorem dX4_copyFrom_53 : decode cX4_copyFrom 53 = .ok (.aload_n 1, 1) := by decide +kernel
theorem dX4_copyFrom_54 : decode cX4_copyFrom 54 = .ok (.getfield 21, 3) := by decide +kernel
theorem dX4_copyFrom_57 : decode cX4_copyFrom 57 = .ok (.iconst 0, 1) := by decide +kernel
theorem dX4_copyFrom_58 : decode cX4_copyFrom 58 = .ok (.aload_n 0, 1) := by decide +kernel
theorem dX4_copyFrom_59 : decode cX4_copyFrom 59 = .ok (.getfield 21, 3) := by decide +kernel
theorem dX4_copyFrom_62 : decode cX4_copyFrom 62 = .ok (.iconst 0, 1) := by decide +kernel
theorem dX4_copyFrom_63 : decode cX4_copyFrom 63 = .ok (.bipush 7, 2) := by decide +kernel
theorem dX4_copyFrom_65 : decode cX4_copyFrom 65 = .ok (.invokestatic 49, 3) := by decide +kernel
theorem dX4_copyFrom_68 : decode cX4_copyFrom 68 = .ok (.aload_n 1, 1) := by decide +kernel
theorem dX4_copyFrom_69 : decode cX4_copyFrom 69 = .ok (.getfield 24, 3) := by decide +kernel
theorem dX4_copyFrom_72 : decode cX4_copyFrom 72 = .ok (.iconst 0, 1) := by decide +kernel
theorem dX4_copyFrom_73 : decode cX4_copyFrom 73 = .ok (.aload_n 0, 1) := by decide +kernel
theorem dX4_copyFrom_74 : decode cX4_copyFrom 74 = .ok (.getfield 24, 3) := by decide +kernel
theorem dX4_copyFrom_77 : decode cX4_copyFrom 77 = .ok (.iconst 0, 1) := by decide +kernel
theorem dX4_copyFrom_78 : decode cX4_copyFrom 78 = .ok (.bipush 7, 2) := by decide +kernel
theorem dX4_copyFrom_80 : decode cX4_copyFrom 80 = .ok (.invokestatic 49, 3) := by decide +kernel
theorem dX4_copyFrom_83 : decode cX4_copyFrom 83 = .ok (.aload_n 1, 1) := by decide +kernel
theorem dX4_copyFrom_84 : decode cX4_copyFrom 84 = .ok (.getfield 27, 3) := by decide +kernel
theorem dX4_copyFrom_87 : decode cX4_copyFrom 87 = .ok (.iconst 0, 1) := by decide +kernel
theorem dX4_copyFrom_88 : decode cX4_copyFrom 88 = .ok (.aload_n 0, 1) := by decide +kernel
theorem dX4_copyFrom_89 : decode cX4_copyFrom 89 = .ok (.getfield 27, 3) := by decide +kernel
theorem dX4_copyFrom_92 : decode cX4_copyFrom 92 = .ok (.iconst 0, 1) := by decide +kernel
theorem dX4_copyFrom_93 : decode cX4_copyFrom 93 = .ok (.bipush 7, 2) := by decide +kernel
theorem dX4_copyFrom_95 : decode cX4_copyFrom 95 = .ok (.invokestatic 49, 3) := by decide +kernel
theorem dX4_copyFrom_98 : decode cX4_copyFrom 98 = .ok (.aload_n 1, 1) := by decide +kernel
theorem dX4_copyFrom_99 : decode cX4_copyFrom 99 = .ok (.getfield 30, 3) := by decide +kernel
theorem t254 : Cond.fieldLink RX4 30 "LikenessPound$Life" "keptWhite" "[I" ∈ GW := gw_mem 368 (by decide +kernel) (by decide +kernel)
theorem gf_X4_30 {p : Program} {l : Launch} {e : Env} {R : Room} {s : State} {m : MethodId} {args : Array Value} {below : List Frame} {meth : Method} {c : Code} {H : Heap} {locs : List Loc} {cells slots : Nat} {Q : State → Prop} {cc : ByteArray} {pc : Nat} {ls : Array Slot} {rest : List Value} {D : va_G} {a : Nat} {tys : List (ClassId × FieldType)} {ws : va_W} (hx : p.tables.exec = Jvm.exec) (hb : c.code = cc) (hts : ∀ w ∈ GW, w.before args s = true) (hown : s.vm.findClass RX4 = some m.cls) (hK : va_K D vwCl tys s) (hP : va_P D vwCl ws H) (q0 : Nat) {fs : List Value} (he : ws[q0]? = some (a, .inr (5, fs))) {v : Value} (hv : fs[6]? = some v) (hdg : decode cc pc = .ok (.getfield 30, 3)) (kk : W p l e R s m args below meth c H locs cells slots Q (F0 m (pc + 3) ls (v :: rest))) : W p l e R s m args below meth c H locs cells slots Q (F0 m pc ls (.ref a :: rest)) := va_get (C := RX4) (T := TX4) (N := 11) (ci := 5) hx hb hts inX4 hown hK hP q0 he rfl 6 (by decide) (hts _ t254) (fun _ h => h) hv hdg kk
theorem dX4_copyFrom_102 : decode cX4_copyFrom 102 = .ok (.iconst 0, 1) := by decide +kernel
theorem dX4_copyFrom_103 : decode cX4_copyFrom 103 = .ok (.aload_n 0, 1) := by decide +kernel
theorem dX4_copyFrom_104 : decode cX4_copyFrom 104 = .ok (.getfield 30, 3) := by decide +kernel
theorem dX4_copyFrom_107 : decode cX4_copyFrom 107 = .ok (.iconst 0, 1) := by decide +kernel
theorem dX4_copyFrom_108 : decode cX4_copyFrom 108 = .ok (.bipush 7, 2) := by decide +kernel
theorem dX4_copyFrom_110 : decode cX4_copyFrom 110 = .ok (.invokestatic 49, 3) := by decide +kernel
theorem dX4_copyFrom_113 : decode cX4_copyFrom 113 = .ok (.aload_n 1, 1) := by decide +kernel
theorem dX4_copyFrom_114 : decode cX4_copyFrom 114 = .ok (.getfield 33, 3) := by decide +kernel
theorem t257 : Cond.fieldLink RX4 33 "LikenessPound$Life" "keptDark" "[I" ∈ GW := gw_mem 371 (by decide +kernel) (by decide +kernel)
theorem gf_X4_33 {p : Program} {l : Launch} {e : Env} {R : Room} {s : State} {m : MethodId} {args : Array Value} {below : List Frame} {meth : Method} {c : Code} {H : Heap} {locs : List Loc} {cells slots : Nat} {Q : State → Prop} {cc : ByteArray} {pc : Nat} {ls : Array Slot} {rest : List Value} {D : va_G} {a : Nat} {tys : List (ClassId × FieldType)} {ws : va_W} (hx : p.tables.exec = Jvm.exec) (hb : c.code = cc) (hts : ∀ w ∈ GW, w.before args s = true) (hown : s.vm.findClass RX4 = some m.cls) (hK : va_K D vwCl tys s) (hP : va_P D vwCl ws H) (q0 : Nat) {fs : List Value} (he : ws[q0]? = some (a, .inr (5, fs))) {v : Value} (hv : fs[7]? = some v) (hdg : decode cc pc = .ok (.getfield 33, 3)) (kk : W p l e R s m args below meth c H locs cells slots Q (F0 m (pc + 3) ls (v :: rest))) : W p l e R s m args below meth c H locs cells slots Q (F0 m pc ls (.ref a :: rest)) := va_get (C := RX4) (T := TX4) (N := 11) (ci := 5) hx hb hts inX4 hown hK hP q0 he rfl 7 (by decide) (hts _ t257) (fun _ h => h) hv hdg kk
theorem dX4_copyFrom_117 : decode cX4_copyFrom 117 = .ok (.iconst 0, 1) := by decide +kernel
theorem dX4_copyFrom_118 : decode cX4_copyFrom 118 = .ok (.aload_n 0, 1) := by decide +kernel
theorem dX4_copyFrom_119 : decode cX4_copyFrom 119 = .ok (.getfield 33, 3) := by decide +kernel
theorem dX4_copyFrom_122 : decode cX4_copyFrom 122 = .ok (.iconst 0, 1) := by decide +kernel
theorem dX4_copyFrom_123 : decode cX4_copyFrom 123 = .ok (.bipush 7, 2) := by decide +kernel
theorem dX4_copyFrom_125 : decode cX4_copyFrom 125 = .ok (.invokestatic 49, 3) := by decide +kernel
theorem dX4_copyFrom_128 : decode cX4_copyFrom 128 = .ok (.aload_n 1, 1) := by decide +kernel
theorem dX4_copyFrom_129 : decode cX4_copyFrom 129 = .ok (.getfield 36, 3) := by decide +kernel
theorem t260 : Cond.fieldLink RX4 36 "LikenessPound$Life" "keptYear" "[I" ∈ GW := gw_mem 374 (by decide +kernel) (by decide +kernel)
theorem gf_X4_36 {p : Program} {l : Launch} {e : Env} {R : Room} {s : State} {m : MethodId} {args : Array Value} {below : List Frame} {meth : Method} {c : Code} {H : Heap} {locs : List Loc} {cells slots : Nat} {Q : State → Prop} {cc : ByteArray} {pc : Nat} {ls : Array Slot} {rest : List Value} {D : va_G} {a : Nat} {tys : List (ClassId × FieldType)} {ws : va_W} (hx : p.tables.exec = Jvm.exec) (hb : c.code = cc) (hts : ∀ w ∈ GW, w.before args s = true) (hown : s.vm.findClass RX4 = some m.cls) (hK : va_K D vwCl tys s) (hP : va_P D vwCl ws H) (q0 : Nat) {fs : List Value} (he : ws[q0]? = some (a, .inr (5, fs))) {v : Value} (hv : fs[8]? = some v) (hdg : decode cc pc = .ok (.getfield 36, 3)) (kk : W p l e R s m args below meth c H locs cells slots Q (F0 m (pc + 3) ls (v :: rest))) : W p l e R s m args below meth c H locs cells slots Q (F0 m pc ls (.ref a :: rest)) := va_get (C := RX4) (T := TX4) (N := 11) (ci := 5) hx hb hts inX4 hown hK hP q0 he rfl 8 (by decide) (hts _ t260) (fun _ h => h) hv hdg kk
theorem dX4_copyFrom_132 : decode cX4_copyFrom 132 = .ok (.iconst 0, 1) := by decide +kernel
theorem dX4_copyFrom_133 : decode cX4_copyFrom 133 = .ok (.aload_n 0, 1) := by decide +kernel
theorem dX4_copyFrom_134 : decode cX4_copyFrom 134 = .ok (.getfield 36, 3) := by decide +kernel
theorem dX4_copyFrom_137 : decode cX4_copyFrom 137 = .ok (.iconst 0, 1) := by decide +kernel
theorem dX4_copyFrom_138 : decode cX4_copyFrom 138 = .ok (.bipush 7, 2) := by decide +kernel
theorem dX4_copyFrom_140 : decode cX4_copyFrom 140 = .ok (.invokestatic 49, 3) := by decide +kernel
theorem dX4_copyFrom_143 : decode cX4_copyFrom 143 = .ok (.aload_n 1, 1) := by decide +kernel
theorem dX4_copyFrom_144 : decode cX4_copyFrom 144 = .ok (.getfield 39, 3) := by decide +kernel
theorem t263 : Cond.fieldLink RX4 39 "LikenessPound$Life" "keptAge" "[I" ∈ GW := gw_mem 377 (by decide +kernel) (by decide +kernel)
theorem gf_X4_39 {p : Program} {l : Launch} {e : Env} {R : Room} {s : State} {m : MethodId} {args : Array Value} {below : List Frame} {meth : Method} {c : Code} {H : Heap} {locs : List Loc} {cells slots : Nat} {Q : State → Prop} {cc : ByteArray} {pc : Nat} {ls : Array Slot} {rest : List Value} {D : va_G} {a : Nat} {tys : List (ClassId × FieldType)} {ws : va_W} (hx : p.tables.exec = Jvm.exec) (hb : c.code = cc) (hts : ∀ w ∈ GW, w.before args s = true) (hown : s.vm.findClass RX4 = some m.cls) (hK : va_K D vwCl tys s) (hP : va_P D vwCl ws H) (q0 : Nat) {fs : List Value} (he : ws[q0]? = some (a, .inr (5, fs))) {v : Value} (hv : fs[9]? = some v) (hdg : decode cc pc = .ok (.getfield 39, 3)) (kk : W p l e R s m args below meth c H locs cells slots Q (F0 m (pc + 3) ls (v :: rest))) : W p l e R s m args below meth c H locs cells slots Q (F0 m pc ls (.ref a :: rest)) := va_get (C := RX4) (T := TX4) (N := 11) (ci := 5) hx hb hts inX4 hown hK hP q0 he rfl 9 (by decide) (hts _ t263) (fun _ h => h) hv hdg kk
theorem dX4_copyFrom_147 : decode cX4_copyFrom 147 = .ok (.iconst 0, 1) := by decide +kernel
theorem dX4_copyFrom_148 : decode cX4_copyFrom 148 = .ok (.aload_n 0, 1) := by decide +kernel
theorem dX4_copyFrom_149 : decode cX4_copyFrom 149 = .ok (.getfield 39, 3) := by decide +kernel
theorem dX4_copyFrom_152 : decode cX4_copyFrom 152 = .ok (.iconst 0, 1) := by decide +kernel
theorem dX4_copyFrom_153 : decode cX4_copyFrom 153 = .ok (.bipush 7, 2) := by decide +kernel
theorem dX4_copyFrom_155 : decode cX4_copyFrom 155 = .ok (.invokestatic 49, 3) := by decide +kernel
theorem dX4_copyFrom_158 : decode cX4_copyFrom 158 = .ok (.return_, 1) := by decide +kernel
set_option maxHeartbeats 4000000 in
set_option maxRecDepth 100000 in
theorem c_Life_copy (l : Launch) (dC : Nat → ClassId) (dI : Nat → Nat → Nat) (cy : Nat → ClassId) (sz : Nat) (h0 : Nat) (a1 : Nat) (a2 : Nat) (a3 : Nat) (a4 : Nat) (a5 : Nat) (a6 : Nat) (a7 : Nat) (a8 : Nat) (a9 : Nat) (a10 : Nat) (yr : Int32) (f1 : Nat → Int32) (f2 : Nat → Int32) (f3 : Nat → Int32) (f4 : Nat → Int32) (f5 : Nat → Int32) (f6 : Nat → Int32) (f7 : Nat → Int32) (f8 : Nat → Int32) (f9 : Nat → Int32) (f10 : Nat → Int32) (k0 : Nat) (b1 : Nat) (b2 : Nat) (b3 : Nat) (b4 : Nat) (b5 : Nat) (b6 : Nat) (b7 : Nat) (b8 : Nat) (b9 : Nat) (b10 : Nat) (yr2 : Int32) (g1 : Nat → Int32) (g2 : Nat → Int32) (g3 : Nat → Int32) (g4 : Nat → Int32) (g5 : Nat → Int32) (g6 : Nat → Int32) (g7 : Nat → Int32) (g8 : Nat → Int32) (g9 : Nat → Int32) (g10 : Nat → Int32)  : Met l yX4_copyFrom (wl yX4_copyFrom cX4_copyFrom 2 none) ({ frames := 1, cells := 0, slots := 0, locals := 64 }) (Pw (dC, dI) vwCl cy [(h0, .inr (5, [.ref a1, .ref a2, .ref a3, .ref a4, .ref a5, .ref a6, .ref a7, .ref a8, .ref a9, .ref a10, .int yr])), (a1, .inl (cy 0, 7, .inl f1)), (a2, .inl (cy 0, 70, .inl f2)), (a3, .inl (cy 0, 49, .inl f3)), (a4, .inl (cy 0, 7, .inl f4)), (a5, .inl (cy 0, 7, .inl f5)), (a6, .inl (cy 0, 7, .inl f6)), (a7, .inl (cy 0, 7, .inl f7)), (a8, .inl (cy 0, 7, .inl f8)), (a9, .inl (cy 0, 7, .inl f9)), (a10, .inl (cy 0, 7, .inl f10)), (k0, .inr (5, [.ref b1, .ref b2, .ref b3, .ref b4, .ref b5, .ref b6, .ref b7, .ref b8, .ref b9, .ref b10, .int yr2])), (b1, .inl (cy 0, 7, .inl g1)), (b2, .inl (cy 0, 70, .inl g2)), (b3, .inl (cy 0, 49, .inl g3)), (b4, .inl (cy 0, 7, .inl g4)), (b5, .inl (cy 0, 7, .inl g5)), (b6, .inl (cy 0, 7, .inl g6)), (b7, .inl (cy 0, 7, .inl g7)), (b8, .inl (cy 0, 7, .inl g8)), (b9, .inl (cy 0, 7, .inl g9)), (b10, .inl (cy 0, 7, .inl g10))] sz [.ref h0, .ref k0] nE) (Qv (dC, dI) vwCl (fun (u : (Nat → Int32) × (Nat → Int32) × (Nat → Int32) × (Nat → Int32) × (Nat → Int32) × (Nat → Int32) × (Nat → Int32) × (Nat → Int32) × (Nat → Int32) × (Nat → Int32)) => True) (O_c_Life_copy cy h0 a1 a2 a3 a4 a5 a6 a7 a8 a9 a10 yr f1 f2 f3 f4 f5 f6 f7 f8 f9 f10 k0 b1 b2 b3 b4 b5 b6 b7 b8 b9 b10 yr2 g1 g2 g3 g4 g5 g6 g7 g8 g9 g10) (va_A [(h0, .inr (5, [.ref a1, .ref a2, .ref a3, .ref a4, .ref a5, .ref a6, .ref a7, .ref a8, .ref a9, .ref a10, .int yr])), (a1, .inl (cy 0, 7, .inl f1)), (a2, .inl (cy 0, 70, .inl f2)), (a3, .inl (cy 0, 49, .inl f3)), (a4, .inl (cy 0, 7, .inl f4)), (a5, .inl (cy 0, 7, .inl f5)), (a6, .inl (cy 0, 7, .inl f6)), (a7, .inl (cy 0, 7, .inl f7)), (a8, .inl (cy 0, 7, .inl f8)), (a9, .inl (cy 0, 7, .inl f9)), (a10, .inl (cy 0, 7, .inl f10)), (k0, .inr (5, [.ref b1, .ref b2, .ref b3, .ref b4, .ref b5, .ref b6, .ref b7, .ref b8, .ref b9, .ref b10, .int yr2])), (b1, .inl (cy 0, 7, .inl g1)), (b2, .inl (cy 0, 70, .inl g2)), (b3, .inl (cy 0, 49, .inl g3)), (b4, .inl (cy 0, 7, .inl g4)), (b5, .inl (cy 0, 7, .inl g5)), (b6, .inl (cy 0, 7, .inl g6)), (b7, .inl (cy 0, 7, .inl g7)), (b8, .inl (cy 0, 7, .inl g8)), (b9, .inl (cy 0, 7, .inl g9)), (b10, .inl (cy 0, 7, .inl g10))] sz)) 0 0 (va_A [(h0, .inr (5, [.ref a1, .ref a2, .ref a3, .ref a4, .ref a5, .ref a6, .ref a7, .ref a8, .ref a9, .ref a10, .int yr])), (a1, .inl (cy 0, 7, .inl f1)), (a2, .inl (cy 0, 70, .inl f2)), (a3, .inl (cy 0, 49, .inl f3)), (a4, .inl (cy 0, 7, .inl f4)), (a5, .inl (cy 0, 7, .inl f5)), (a6, .inl (cy 0, 7, .inl f6)), (a7, .inl (cy 0, 7, .inl f7)), (a8, .inl (cy 0, 7, .inl f8)), (a9, .inl (cy 0, 7, .inl f9)), (a10, .inl (cy 0, 7, .inl f10)), (k0, .inr (5, [.ref b1, .ref b2, .ref b3, .ref b4, .ref b5, .ref b6, .ref b7, .ref b8, .ref b9, .ref b10, .int yr2])), (b1, .inl (cy 0, 7, .inl g1)), (b2, .inl (cy 0, 70, .inl g2)), (b3, .inl (cy 0, 49, .inl g3)), (b4, .inl (cy 0, 7, .inl g4)), (b5, .inl (cy 0, 7, .inl g5)), (b6, .inl (cy 0, 7, .inl g6)), (b7, .inl (cy 0, 7, .inl g7)), (b8, .inl (cy 0, 7, .inl g8)), (b9, .inl (cy 0, 7, .inl g9)), (b10, .inl (cy 0, 7, .inl g10))] sz) := by
  refine mw (Qc := Qv (dC, dI) vwCl (fun (u : (Nat → Int32) × (Nat → Int32) × (Nat → Int32) × (Nat → Int32) × (Nat → Int32) × (Nat → Int32) × (Nat → Int32) × (Nat → Int32) × (Nat → Int32) × (Nat → Int32)) => True) (O_c_Life_copy cy h0 a1 a2 a3 a4 a5 a6 a7 a8 a9 a10 yr f1 f2 f3 f4 f5 f6 f7 f8 f9 f10 k0 b1 b2 b3 b4 b5 b6 b7 b8 b9 b10 yr2 g1 g2 g3 g4 g5 g6 g7 g8 g9 g10)) RX4 rfl (by decide +kernel) (Nat.le_of_ble_eq_true rfl) ?_
  intro p e s m below meth c A hx hb hr hlocks av9 hav hts hown hnm hml hK hP hD hA hS hE hAe Q9 hQ9 ls hl
  have hl : lv_has ls 2 [(0, .ref h0), (1, .ref k0)] := hl
  refine lv_aload_n hx hb dX4_copyFrom_0 rfl (lv_at hl 0 rfl) ?_
  refine lv_aload_n hx hb dX4_copyFrom_1 rfl (lv_at hl 1 rfl) ?_
  refine gf_X4_45 hx hb hts hown hK hP 11 rfl rfl dX4_copyFrom_2 ?_
  refine pf_X4_45 hx hb hts hown hK hP hD hS 0 rfl rfl rfl (Nat.le_of_ble_eq_true rfl) dX4_copyFrom_5 (fun H locs hP hD hS => ?_)
  have hP : va_P (dC, dI) vwCl [(h0, .inr (5, [.ref a1, .ref a2, .ref a3, .ref a4, .ref a5, .ref a6, .ref a7, .ref a8, .ref a9, .ref a10, .int yr2])), (a1, .inl (cy 0, 7, .inl f1)), (a2, .inl (cy 0, 70, .inl f2)), (a3, .inl (cy 0, 49, .inl f3)), (a4, .inl (cy 0, 7, .inl f4)), (a5, .inl (cy 0, 7, .inl f5)), (a6, .inl (cy 0, 7, .inl f6)), (a7, .inl (cy 0, 7, .inl f7)), (a8, .inl (cy 0, 7, .inl f8)), (a9, .inl (cy 0, 7, .inl f9)), (a10, .inl (cy 0, 7, .inl f10)), (k0, .inr (5, [.ref b1, .ref b2, .ref b3, .ref b4, .ref b5, .ref b6, .ref b7, .ref b8, .ref b9, .ref b10, .int yr2])), (b1, .inl (cy 0, 7, .inl g1)), (b2, .inl (cy 0, 70, .inl g2)), (b3, .inl (cy 0, 49, .inl g3)), (b4, .inl (cy 0, 7, .inl g4)), (b5, .inl (cy 0, 7, .inl g5)), (b6, .inl (cy 0, 7, .inl g6)), (b7, .inl (cy 0, 7, .inl g7)), (b8, .inl (cy 0, 7, .inl g8)), (b9, .inl (cy 0, 7, .inl g9)), (b10, .inl (cy 0, 7, .inl g10))] H := hP
  have hD : va_D A [(h0, .inr (5, [.ref a1, .ref a2, .ref a3, .ref a4, .ref a5, .ref a6, .ref a7, .ref a8, .ref a9, .ref a10, .int yr2])), (a1, .inl (cy 0, 7, .inl f1)), (a2, .inl (cy 0, 70, .inl f2)), (a3, .inl (cy 0, 49, .inl f3)), (a4, .inl (cy 0, 7, .inl f4)), (a5, .inl (cy 0, 7, .inl f5)), (a6, .inl (cy 0, 7, .inl f6)), (a7, .inl (cy 0, 7, .inl f7)), (a8, .inl (cy 0, 7, .inl f8)), (a9, .inl (cy 0, 7, .inl f9)), (a10, .inl (cy 0, 7, .inl f10)), (k0, .inr (5, [.ref b1, .ref b2, .ref b3, .ref b4, .ref b5, .ref b6, .ref b7, .ref b8, .ref b9, .ref b10, .int yr2])), (b1, .inl (cy 0, 7, .inl g1)), (b2, .inl (cy 0, 70, .inl g2)), (b3, .inl (cy 0, 49, .inl g3)), (b4, .inl (cy 0, 7, .inl g4)), (b5, .inl (cy 0, 7, .inl g5)), (b6, .inl (cy 0, 7, .inl g6)), (b7, .inl (cy 0, 7, .inl g7)), (b8, .inl (cy 0, 7, .inl g8)), (b9, .inl (cy 0, 7, .inl g9)), (b10, .inl (cy 0, 7, .inl g10))] := hD
  refine lv_aload_n hx hb dX4_copyFrom_8 rfl (lv_at hl 1 rfl) ?_
  refine gf_X4_9 hx hb hts hown hK hP 11 rfl rfl dX4_copyFrom_9 ?_
  refine lv_iconst (v := 0) hx hb dX4_copyFrom_12 (by decide) ?_
  refine lv_aload_n hx hb dX4_copyFrom_13 rfl (lv_at hl 0 rfl) ?_
  refine gf_X4_9 hx hb hts hown hK hP 0 rfl rfl dX4_copyFrom_14 ?_
  refine lv_iconst (v := 0) hx hb dX4_copyFrom_17 (by decide) ?_
  refine lv_bipush (v := 7) hx hb dX4_copyFrom_18 (by decide) ?_
  refine va_copyi hx hb (by rw [hml, hl.1]) hown (hts _ t767) (hts _ t769) (hts _ t768) (hts _ t23) hK hP hD hS 12 1 0 0 rfl rfl rfl rfl rfl (by decide) (by decide) (by decide) (by decide) (by decide) (fun _ _ => rfl) (Nat.le_of_ble_eq_true rfl) (Nat.le_of_ble_eq_true rfl) dX4_copyFrom_20 (fun H locs hP hD hS => ?_)
  obtain ⟨f_1, ef_1⟩ : ∃ z : Nat → Int32, z = va_cpy g1 f1 (Int32.toNatClampNeg 0) (Int32.toNatClampNeg 0) (Int32.toNatClampNeg 7) := ⟨_, rfl⟩
  have hP : va_P (dC, dI) vwCl [(h0, .inr (5, [.ref a1, .ref a2, .ref a3, .ref a4, .ref a5, .ref a6, .ref a7, .ref a8, .ref a9, .ref a10, .int yr2])), (a1, .inl (cy 0, 7, .inl f_1)), (a2, .inl (cy 0, 70, .inl f2)), (a3, .inl (cy 0, 49, .inl f3)), (a4, .inl (cy 0, 7, .inl f4)), (a5, .inl (cy 0, 7, .inl f5)), (a6, .inl (cy 0, 7, .inl f6)), (a7, .inl (cy 0, 7, .inl f7)), (a8, .inl (cy 0, 7, .inl f8)), (a9, .inl (cy 0, 7, .inl f9)), (a10, .inl (cy 0, 7, .inl f10)), (k0, .inr (5, [.ref b1, .ref b2, .ref b3, .ref b4, .ref b5, .ref b6, .ref b7, .ref b8, .ref b9, .ref b10, .int yr2])), (b1, .inl (cy 0, 7, .inl g1)), (b2, .inl (cy 0, 70, .inl g2)), (b3, .inl (cy 0, 49, .inl g3)), (b4, .inl (cy 0, 7, .inl g4)), (b5, .inl (cy 0, 7, .inl g5)), (b6, .inl (cy 0, 7, .inl g6)), (b7, .inl (cy 0, 7, .inl g7)), (b8, .inl (cy 0, 7, .inl g8)), (b9, .inl (cy 0, 7, .inl g9)), (b10, .inl (cy 0, 7, .inl g10))] H := by rw [ef_1]; exact hP
  have hD : va_D A [(h0, .inr (5, [.ref a1, .ref a2, .ref a3, .ref a4, .ref a5, .ref a6, .ref a7, .ref a8, .ref a9, .ref a10, .int yr2])), (a1, .inl (cy 0, 7, .inl f_1)), (a2, .inl (cy 0, 70, .inl f2)), (a3, .inl (cy 0, 49, .inl f3)), (a4, .inl (cy 0, 7, .inl f4)), (a5, .inl (cy 0, 7, .inl f5)), (a6, .inl (cy 0, 7, .inl f6)), (a7, .inl (cy 0, 7, .inl f7)), (a8, .inl (cy 0, 7, .inl f8)), (a9, .inl (cy 0, 7, .inl f9)), (a10, .inl (cy 0, 7, .inl f10)), (k0, .inr (5, [.ref b1, .ref b2, .ref b3, .ref b4, .ref b5, .ref b6, .ref b7, .ref b8, .ref b9, .ref b10, .int yr2])), (b1, .inl (cy 0, 7, .inl g1)), (b2, .inl (cy 0, 70, .inl g2)), (b3, .inl (cy 0, 49, .inl g3)), (b4, .inl (cy 0, 7, .inl g4)), (b5, .inl (cy 0, 7, .inl g5)), (b6, .inl (cy 0, 7, .inl g6)), (b7, .inl (cy 0, 7, .inl g7)), (b8, .inl (cy 0, 7, .inl g8)), (b9, .inl (cy 0, 7, .inl g9)), (b10, .inl (cy 0, 7, .inl g10))] := by rw [ef_1]; exact hD
  refine lv_aload_n hx hb dX4_copyFrom_23 rfl (lv_at hl 1 rfl) ?_
  refine gf_X4_15 hx hb hts hown hK hP 11 rfl rfl dX4_copyFrom_24 ?_
  refine lv_iconst (v := 0) hx hb dX4_copyFrom_27 (by decide) ?_
  refine lv_aload_n hx hb dX4_copyFrom_28 rfl (lv_at hl 0 rfl) ?_
  refine gf_X4_15 hx hb hts hown hK hP 0 rfl rfl dX4_copyFrom_29 ?_
  refine lv_iconst (v := 0) hx hb dX4_copyFrom_32 (by decide) ?_
  refine lv_bipush (v := 70) hx hb dX4_copyFrom_33 (by decide) ?_
  refine va_copyi hx hb (by rw [hml, hl.1]) hown (hts _ t767) (hts _ t769) (hts _ t768) (hts _ t23) hK hP hD hS 13 2 0 0 rfl rfl rfl rfl rfl (by decide) (by decide) (by decide) (by decide) (by decide) (fun _ _ => rfl) (Nat.le_of_ble_eq_true rfl) (Nat.le_of_ble_eq_true rfl) dX4_copyFrom_35 (fun H locs hP hD hS => ?_)
  obtain ⟨f_2, ef_2⟩ : ∃ z : Nat → Int32, z = va_cpy g2 f2 (Int32.toNatClampNeg 0) (Int32.toNatClampNeg 0) (Int32.toNatClampNeg 70) := ⟨_, rfl⟩
  have hP : va_P (dC, dI) vwCl [(h0, .inr (5, [.ref a1, .ref a2, .ref a3, .ref a4, .ref a5, .ref a6, .ref a7, .ref a8, .ref a9, .ref a10, .int yr2])), (a1, .inl (cy 0, 7, .inl f_1)), (a2, .inl (cy 0, 70, .inl f_2)), (a3, .inl (cy 0, 49, .inl f3)), (a4, .inl (cy 0, 7, .inl f4)), (a5, .inl (cy 0, 7, .inl f5)), (a6, .inl (cy 0, 7, .inl f6)), (a7, .inl (cy 0, 7, .inl f7)), (a8, .inl (cy 0, 7, .inl f8)), (a9, .inl (cy 0, 7, .inl f9)), (a10, .inl (cy 0, 7, .inl f10)), (k0, .inr (5, [.ref b1, .ref b2, .ref b3, .ref b4, .ref b5, .ref b6, .ref b7, .ref b8, .ref b9, .ref b10, .int yr2])), (b1, .inl (cy 0, 7, .inl g1)), (b2, .inl (cy 0, 70, .inl g2)), (b3, .inl (cy 0, 49, .inl g3)), (b4, .inl (cy 0, 7, .inl g4)), (b5, .inl (cy 0, 7, .inl g5)), (b6, .inl (cy 0, 7, .inl g6)), (b7, .inl (cy 0, 7, .inl g7)), (b8, .inl (cy 0, 7, .inl g8)), (b9, .inl (cy 0, 7, .inl g9)), (b10, .inl (cy 0, 7, .inl g10))] H := by rw [ef_2]; exact hP
  have hD : va_D A [(h0, .inr (5, [.ref a1, .ref a2, .ref a3, .ref a4, .ref a5, .ref a6, .ref a7, .ref a8, .ref a9, .ref a10, .int yr2])), (a1, .inl (cy 0, 7, .inl f_1)), (a2, .inl (cy 0, 70, .inl f_2)), (a3, .inl (cy 0, 49, .inl f3)), (a4, .inl (cy 0, 7, .inl f4)), (a5, .inl (cy 0, 7, .inl f5)), (a6, .inl (cy 0, 7, .inl f6)), (a7, .inl (cy 0, 7, .inl f7)), (a8, .inl (cy 0, 7, .inl f8)), (a9, .inl (cy 0, 7, .inl f9)), (a10, .inl (cy 0, 7, .inl f10)), (k0, .inr (5, [.ref b1, .ref b2, .ref b3, .ref b4, .ref b5, .ref b6, .ref b7, .ref b8, .ref b9, .ref b10, .int yr2])), (b1, .inl (cy 0, 7, .inl g1)), (b2, .inl (cy 0, 70, .inl g2)), (b3, .inl (cy 0, 49, .inl g3)), (b4, .inl (cy 0, 7, .inl g4)), (b5, .inl (cy 0, 7, .inl g5)), (b6, .inl (cy 0, 7, .inl g6)), (b7, .inl (cy 0, 7, .inl g7)), (b8, .inl (cy 0, 7, .inl g8)), (b9, .inl (cy 0, 7, .inl g9)), (b10, .inl (cy 0, 7, .inl g10))] := by rw [ef_2]; exact hD
  refine lv_aload_n hx hb dX4_copyFrom_38 rfl (lv_at hl 1 rfl) ?_
  refine gf_X4_18 hx hb hts hown hK hP 11 rfl rfl dX4_copyFrom_39 ?_
  refine lv_iconst (v := 0) hx hb dX4_copyFrom_42 (by decide) ?_
  refine lv_aload_n hx hb dX4_copyFrom_43 rfl (lv_at hl 0 rfl) ?_
  refine gf_X4_18 hx hb hts hown hK hP 0 rfl rfl dX4_copyFrom_44 ?_
  refine lv_iconst (v := 0) hx hb dX4_copyFrom_47 (by decide) ?_
  refine lv_bipush (v := 49) hx hb dX4_copyFrom_48 (by decide) ?_
  refine va_copyi hx hb (by rw [hml, hl.1]) hown (hts _ t767) (hts _ t769) (hts _ t768) (hts _ t23) hK hP hD hS 14 3 0 0 rfl rfl rfl rfl rfl (by decide) (by decide) (by decide) (by decide) (by decide) (fun _ _ => rfl) (Nat.le_of_ble_eq_true rfl) (Nat.le_of_ble_eq_true rfl) dX4_copyFrom_50 (fun H locs hP hD hS => ?_)
  obtain ⟨f_3, ef_3⟩ : ∃ z : Nat → Int32, z = va_cpy g3 f3 (Int32.toNatClampNeg 0) (Int32.toNatClampNeg 0) (Int32.toNatClampNeg 49) := ⟨_, rfl⟩
  have hP : va_P (dC, dI) vwCl [(h0, .inr (5, [.ref a1, .ref a2, .ref a3, .ref a4, .ref a5, .ref a6, .ref a7, .ref a8, .ref a9, .ref a10, .int yr2])), (a1, .inl (cy 0, 7, .inl f_1)), (a2, .inl (cy 0, 70, .inl f_2)), (a3, .inl (cy 0, 49, .inl f_3)), (a4, .inl (cy 0, 7, .inl f4)), (a5, .inl (cy 0, 7, .inl f5)), (a6, .inl (cy 0, 7, .inl f6)), (a7, .inl (cy 0, 7, .inl f7)), (a8, .inl (cy 0, 7, .inl f8)), (a9, .inl (cy 0, 7, .inl f9)), (a10, .inl (cy 0, 7, .inl f10)), (k0, .inr (5, [.ref b1, .ref b2, .ref b3, .ref b4, .ref b5, .ref b6, .ref b7, .ref b8, .ref b9, .ref b10, .int yr2])), (b1, .inl (cy 0, 7, .inl g1)), (b2, .inl (cy 0, 70, .inl g2)), (b3, .inl (cy 0, 49, .inl g3)), (b4, .inl (cy 0, 7, .inl g4)), (b5, .inl (cy 0, 7, .inl g5)), (b6, .inl (cy 0, 7, .inl g6)), (b7, .inl (cy 0, 7, .inl g7)), (b8, .inl (cy 0, 7, .inl g8)), (b9, .inl (cy 0, 7, .inl g9)), (b10, .inl (cy 0, 7, .inl g10))] H := by rw [ef_3]; exact hP
  have hD : va_D A [(h0, .inr (5, [.ref a1, .ref a2, .ref a3, .ref a4, .ref a5, .ref a6, .ref a7, .ref a8, .ref a9, .ref a10, .int yr2])), (a1, .inl (cy 0, 7, .inl f_1)), (a2, .inl (cy 0, 70, .inl f_2)), (a3, .inl (cy 0, 49, .inl f_3)), (a4, .inl (cy 0, 7, .inl f4)), (a5, .inl (cy 0, 7, .inl f5)), (a6, .inl (cy 0, 7, .inl f6)), (a7, .inl (cy 0, 7, .inl f7)), (a8, .inl (cy 0, 7, .inl f8)), (a9, .inl (cy 0, 7, .inl f9)), (a10, .inl (cy 0, 7, .inl f10)), (k0, .inr (5, [.ref b1, .ref b2, .ref b3, .ref b4, .ref b5, .ref b6, .ref b7, .ref b8, .ref b9, .ref b10, .int yr2])), (b1, .inl (cy 0, 7, .inl g1)), (b2, .inl (cy 0, 70, .inl g2)), (b3, .inl (cy 0, 49, .inl g3)), (b4, .inl (cy 0, 7, .inl g4)), (b5, .inl (cy 0, 7, .inl g5)), (b6, .inl (cy 0, 7, .inl g6)), (b7, .inl (cy 0, 7, .inl g7)), (b8, .inl (cy 0, 7, .inl g8)), (b9, .inl (cy 0, 7, .inl g9)), (b10, .inl (cy 0, 7, .inl g10))] := by rw [ef_3]; exact hD
  refine lv_aload_n hx hb dX4_copyFrom_53 rfl (lv_at hl 1 rfl) ?_
  refine gf_X4_21 hx hb hts hown hK hP 11 rfl rfl dX4_copyFrom_54 ?_
  refine lv_iconst (v := 0) hx hb dX4_copyFrom_57 (by decide) ?_
  refine lv_aload_n hx hb dX4_copyFrom_58 rfl (lv_at hl 0 rfl) ?_
  refine gf_X4_21 hx hb hts hown hK hP 0 rfl rfl dX4_copyFrom_59 ?_
  refine lv_iconst (v := 0) hx hb dX4_copyFrom_62 (by decide) ?_
  refine lv_bipush (v := 7) hx hb dX4_copyFrom_63 (by decide) ?_
  refine va_copyi hx hb (by rw [hml, hl.1]) hown (hts _ t767) (hts _ t769) (hts _ t768) (hts _ t23) hK hP hD hS 15 4 0 0 rfl rfl rfl rfl rfl (by decide) (by decide) (by decide) (by decide) (by decide) (fun _ _ => rfl) (Nat.le_of_ble_eq_true rfl) (Nat.le_of_ble_eq_true rfl) dX4_copyFrom_65 (fun H locs hP hD hS => ?_)
  obtain ⟨f_4, ef_4⟩ : ∃ z : Nat → Int32, z = va_cpy g4 f4 (Int32.toNatClampNeg 0) (Int32.toNatClampNeg 0) (Int32.toNatClampNeg 7) := ⟨_, rfl⟩
  have hP : va_P (dC, dI) vwCl [(h0, .inr (5, [.ref a1, .ref a2, .ref a3, .ref a4, .ref a5, .ref a6, .ref a7, .ref a8, .ref a9, .ref a10, .int yr2])), (a1, .inl (cy 0, 7, .inl f_1)), (a2, .inl (cy 0, 70, .inl f_2)), (a3, .inl (cy 0, 49, .inl f_3)), (a4, .inl (cy 0, 7, .inl f_4)), (a5, .inl (cy 0, 7, .inl f5)), (a6, .inl (cy 0, 7, .inl f6)), (a7, .inl (cy 0, 7, .inl f7)), (a8, .inl (cy 0, 7, .inl f8)), (a9, .inl (cy 0, 7, .inl f9)), (a10, .inl (cy 0, 7, .inl f10)), (k0, .inr (5, [.ref b1, .ref b2, .ref b3, .ref b4, .ref b5, .ref b6, .ref b7, .ref b8, .ref b9, .ref b10, .int yr2])), (b1, .inl (cy 0, 7, .inl g1)), (b2, .inl (cy 0, 70, .inl g2)), (b3, .inl (cy 0, 49, .inl g3)), (b4, .inl (cy 0, 7, .inl g4)), (b5, .inl (cy 0, 7, .inl g5)), (b6, .inl (cy 0, 7, .inl g6)), (b7, .inl (cy 0, 7, .inl g7)), (b8, .inl (cy 0, 7, .inl g8)), (b9, .inl (cy 0, 7, .inl g9)), (b10, .inl (cy 0, 7, .inl g10))] H := by rw [ef_4]; exact hP
  have hD : va_D A [(h0, .inr (5, [.ref a1, .ref a2, .ref a3, .ref a4, .ref a5, .ref a6, .ref a7, .ref a8, .ref a9, .ref a10, .int yr2])), (a1, .inl (cy 0, 7, .inl f_1)), (a2, .inl (cy 0, 70, .inl f_2)), (a3, .inl (cy 0, 49, .inl f_3)), (a4, .inl (cy 0, 7, .inl f_4)), (a5, .inl (cy 0, 7, .inl f5)), (a6, .inl (cy 0, 7, .inl f6)), (a7, .inl (cy 0, 7, .inl f7)), (a8, .inl (cy 0, 7, .inl f8)), (a9, .inl (cy 0, 7, .inl f9)), (a10, .inl (cy 0, 7, .inl f10)), (k0, .inr (5, [.ref b1, .ref b2, .ref b3, .ref b4, .ref b5, .ref b6, .ref b7, .ref b8, .ref b9, .ref b10, .int yr2])), (b1, .inl (cy 0, 7, .inl g1)), (b2, .inl (cy 0, 70, .inl g2)), (b3, .inl (cy 0, 49, .inl g3)), (b4, .inl (cy 0, 7, .inl g4)), (b5, .inl (cy 0, 7, .inl g5)), (b6, .inl (cy 0, 7, .inl g6)), (b7, .inl (cy 0, 7, .inl g7)), (b8, .inl (cy 0, 7, .inl g8)), (b9, .inl (cy 0, 7, .inl g9)), (b10, .inl (cy 0, 7, .inl g10))] := by rw [ef_4]; exact hD
  refine lv_aload_n hx hb dX4_copyFrom_68 rfl (lv_at hl 1 rfl) ?_
  refine gf_X4_24 hx hb hts hown hK hP 11 rfl rfl dX4_copyFrom_69 ?_
  refine lv_iconst (v := 0) hx hb dX4_copyFrom_72 (by decide) ?_
  refine lv_aload_n hx hb dX4_copyFrom_73 rfl (lv_at hl 0 rfl) ?_
  refine gf_X4_24 hx hb hts hown hK hP 0 rfl rfl dX4_copyFrom_74 ?_
  refine lv_iconst (v := 0) hx hb dX4_copyFrom_77 (by decide) ?_
  refine lv_bipush (v := 7) hx hb dX4_copyFrom_78 (by decide) ?_
  refine va_copyi hx hb (by rw [hml, hl.1]) hown (hts _ t767) (hts _ t769) (hts _ t768) (hts _ t23) hK hP hD hS 16 5 0 0 rfl rfl rfl rfl rfl (by decide) (by decide) (by decide) (by decide) (by decide) (fun _ _ => rfl) (Nat.le_of_ble_eq_true rfl) (Nat.le_of_ble_eq_true rfl) dX4_copyFrom_80 (fun H locs hP hD hS => ?_)
  obtain ⟨f_5, ef_5⟩ : ∃ z : Nat → Int32, z = va_cpy g5 f5 (Int32.toNatClampNeg 0) (Int32.toNatClampNeg 0) (Int32.toNatClampNeg 7) := ⟨_, rfl⟩
  have hP : va_P (dC, dI) vwCl [(h0, .inr (5, [.ref a1, .ref a2, .ref a3, .ref a4, .ref a5, .ref a6, .ref a7, .ref a8, .ref a9, .ref a10, .int yr2])), (a1, .inl (cy 0, 7, .inl f_1)), (a2, .inl (cy 0, 70, .inl f_2)), (a3, .inl (cy 0, 49, .inl f_3)), (a4, .inl (cy 0, 7, .inl f_4)), (a5, .inl (cy 0, 7, .inl f_5)), (a6, .inl (cy 0, 7, .inl f6)), (a7, .inl (cy 0, 7, .inl f7)), (a8, .inl (cy 0, 7, .inl f8)), (a9, .inl (cy 0, 7, .inl f9)), (a10, .inl (cy 0, 7, .inl f10)), (k0, .inr (5, [.ref b1, .ref b2, .ref b3, .ref b4, .ref b5, .ref b6, .ref b7, .ref b8, .ref b9, .ref b10, .int yr2])), (b1, .inl (cy 0, 7, .inl g1)), (b2, .inl (cy 0, 70, .inl g2)), (b3, .inl (cy 0, 49, .inl g3)), (b4, .inl (cy 0, 7, .inl g4)), (b5, .inl (cy 0, 7, .inl g5)), (b6, .inl (cy 0, 7, .inl g6)), (b7, .inl (cy 0, 7, .inl g7)), (b8, .inl (cy 0, 7, .inl g8)), (b9, .inl (cy 0, 7, .inl g9)), (b10, .inl (cy 0, 7, .inl g10))] H := by rw [ef_5]; exact hP
  have hD : va_D A [(h0, .inr (5, [.ref a1, .ref a2, .ref a3, .ref a4, .ref a5, .ref a6, .ref a7, .ref a8, .ref a9, .ref a10, .int yr2])), (a1, .inl (cy 0, 7, .inl f_1)), (a2, .inl (cy 0, 70, .inl f_2)), (a3, .inl (cy 0, 49, .inl f_3)), (a4, .inl (cy 0, 7, .inl f_4)), (a5, .inl (cy 0, 7, .inl f_5)), (a6, .inl (cy 0, 7, .inl f6)), (a7, .inl (cy 0, 7, .inl f7)), (a8, .inl (cy 0, 7, .inl f8)), (a9, .inl (cy 0, 7, .inl f9)), (a10, .inl (cy 0, 7, .inl f10)), (k0, .inr (5, [.ref b1, .ref b2, .ref b3, .ref b4, .ref b5, .ref b6, .ref b7, .ref b8, .ref b9, .ref b10, .int yr2])), (b1, .inl (cy 0, 7, .inl g1)), (b2, .inl (cy 0, 70, .inl g2)), (b3, .inl (cy 0, 49, .inl g3)), (b4, .inl (cy 0, 7, .inl g4)), (b5, .inl (cy 0, 7, .inl g5)), (b6, .inl (cy 0, 7, .inl g6)), (b7, .inl (cy 0, 7, .inl g7)), (b8, .inl (cy 0, 7, .inl g8)), (b9, .inl (cy 0, 7, .inl g9)), (b10, .inl (cy 0, 7, .inl g10))] := by rw [ef_5]; exact hD
  refine lv_aload_n hx hb dX4_copyFrom_83 rfl (lv_at hl 1 rfl) ?_
  refine gf_X4_27 hx hb hts hown hK hP 11 rfl rfl dX4_copyFrom_84 ?_
  refine lv_iconst (v := 0) hx hb dX4_copyFrom_87 (by decide) ?_
  refine lv_aload_n hx hb dX4_copyFrom_88 rfl (lv_at hl 0 rfl) ?_
  refine gf_X4_27 hx hb hts hown hK hP 0 rfl rfl dX4_copyFrom_89 ?_
  refine lv_iconst (v := 0) hx hb dX4_copyFrom_92 (by decide) ?_
  refine lv_bipush (v := 7) hx hb dX4_copyFrom_93 (by decide) ?_
  refine va_copyi hx hb (by rw [hml, hl.1]) hown (hts _ t767) (hts _ t769) (hts _ t768) (hts _ t23) hK hP hD hS 17 6 0 0 rfl rfl rfl rfl rfl (by decide) (by decide) (by decide) (by decide) (by decide) (fun _ _ => rfl) (Nat.le_of_ble_eq_true rfl) (Nat.le_of_ble_eq_true rfl) dX4_copyFrom_95 (fun H locs hP hD hS => ?_)
  obtain ⟨f_6, ef_6⟩ : ∃ z : Nat → Int32, z = va_cpy g6 f6 (Int32.toNatClampNeg 0) (Int32.toNatClampNeg 0) (Int32.toNatClampNeg 7) := ⟨_, rfl⟩
  have hP : va_P (dC, dI) vwCl [(h0, .inr (5, [.ref a1, .ref a2, .ref a3, .ref a4, .ref a5, .ref a6, .ref a7, .ref a8, .ref a9, .ref a10, .int yr2])), (a1, .inl (cy 0, 7, .inl f_1)), (a2, .inl (cy 0, 70, .inl f_2)), (a3, .inl (cy 0, 49, .inl f_3)), (a4, .inl (cy 0, 7, .inl f_4)), (a5, .inl (cy 0, 7, .inl f_5)), (a6, .inl (cy 0, 7, .inl f_6)), (a7, .inl (cy 0, 7, .inl f7)), (a8, .inl (cy 0, 7, .inl f8)), (a9, .inl (cy 0, 7, .inl f9)), (a10, .inl (cy 0, 7, .inl f10)), (k0, .inr (5, [.ref b1, .ref b2, .ref b3, .ref b4, .ref b5, .ref b6, .ref b7, .ref b8, .ref b9, .ref b10, .int yr2])), (b1, .inl (cy 0, 7, .inl g1)), (b2, .inl (cy 0, 70, .inl g2)), (b3, .inl (cy 0, 49, .inl g3)), (b4, .inl (cy 0, 7, .inl g4)), (b5, .inl (cy 0, 7, .inl g5)), (b6, .inl (cy 0, 7, .inl g6)), (b7, .inl (cy 0, 7, .inl g7)), (b8, .inl (cy 0, 7, .inl g8)), (b9, .inl (cy 0, 7, .inl g9)), (b10, .inl (cy 0, 7, .inl g10))] H := by rw [ef_6]; exact hP
  have hD : va_D A [(h0, .inr (5, [.ref a1, .ref a2, .ref a3, .ref a4, .ref a5, .ref a6, .ref a7, .ref a8, .ref a9, .ref a10, .int yr2])), (a1, .inl (cy 0, 7, .inl f_1)), (a2, .inl (cy 0, 70, .inl f_2)), (a3, .inl (cy 0, 49, .inl f_3)), (a4, .inl (cy 0, 7, .inl f_4)), (a5, .inl (cy 0, 7, .inl f_5)), (a6, .inl (cy 0, 7, .inl f_6)), (a7, .inl (cy 0, 7, .inl f7)), (a8, .inl (cy 0, 7, .inl f8)), (a9, .inl (cy 0, 7, .inl f9)), (a10, .inl (cy 0, 7, .inl f10)), (k0, .inr (5, [.ref b1, .ref b2, .ref b3, .ref b4, .ref b5, .ref b6, .ref b7, .ref b8, .ref b9, .ref b10, .int yr2])), (b1, .inl (cy 0, 7, .inl g1)), (b2, .inl (cy 0, 70, .inl g2)), (b3, .inl (cy 0, 49, .inl g3)), (b4, .inl (cy 0, 7, .inl g4)), (b5, .inl (cy 0, 7, .inl g5)), (b6, .inl (cy 0, 7, .inl g6)), (b7, .inl (cy 0, 7, .inl g7)), (b8, .inl (cy 0, 7, .inl g8)), (b9, .inl (cy 0, 7, .inl g9)), (b10, .inl (cy 0, 7, .inl g10))] := by rw [ef_6]; exact hD
  refine lv_aload_n hx hb dX4_copyFrom_98 rfl (lv_at hl 1 rfl) ?_
  refine gf_X4_30 hx hb hts hown hK hP 11 rfl rfl dX4_copyFrom_99 ?_
  refine lv_iconst (v := 0) hx hb dX4_copyFrom_102 (by decide) ?_
  refine lv_aload_n hx hb dX4_copyFrom_103 rfl (lv_at hl 0 rfl) ?_
  refine gf_X4_30 hx hb hts hown hK hP 0 rfl rfl dX4_copyFrom_104 ?_
  refine lv_iconst (v := 0) hx hb dX4_copyFrom_107 (by decide) ?_
  refine lv_bipush (v := 7) hx hb dX4_copyFrom_108 (by decide) ?_
  refine va_copyi hx hb (by rw [hml, hl.1]) hown (hts _ t767) (hts _ t769) (hts _ t768) (hts _ t23) hK hP hD hS 18 7 0 0 rfl rfl rfl rfl rfl (by decide) (by decide) (by decide) (by decide) (by decide) (fun _ _ => rfl) (Nat.le_of_ble_eq_true rfl) (Nat.le_of_ble_eq_true rfl) dX4_copyFrom_110 (fun H locs hP hD hS => ?_)
  obtain ⟨f_7, ef_7⟩ : ∃ z : Nat → Int32, z = va_cpy g7 f7 (Int32.toNatClampNeg 0) (Int32.toNatClampNeg 0) (Int32.toNatClampNeg 7) := ⟨_, rfl⟩
  have hP : va_P (dC, dI) vwCl [(h0, .inr (5, [.ref a1, .ref a2, .ref a3, .ref a4, .ref a5, .ref a6, .ref a7, .ref a8, .ref a9, .ref a10, .int yr2])), (a1, .inl (cy 0, 7, .inl f_1)), (a2, .inl (cy 0, 70, .inl f_2)), (a3, .inl (cy 0, 49, .inl f_3)), (a4, .inl (cy 0, 7, .inl f_4)), (a5, .inl (cy 0, 7, .inl f_5)), (a6, .inl (cy 0, 7, .inl f_6)), (a7, .inl (cy 0, 7, .inl f_7)), (a8, .inl (cy 0, 7, .inl f8)), (a9, .inl (cy 0, 7, .inl f9)), (a10, .inl (cy 0, 7, .inl f10)), (k0, .inr (5, [.ref b1, .ref b2, .ref b3, .ref b4, .ref b5, .ref b6, .ref b7, .ref b8, .ref b9, .ref b10, .int yr2])), (b1, .inl (cy 0, 7, .inl g1)), (b2, .inl (cy 0, 70, .inl g2)), (b3, .inl (cy 0, 49, .inl g3)), (b4, .inl (cy 0, 7, .inl g4)), (b5, .inl (cy 0, 7, .inl g5)), (b6, .inl (cy 0, 7, .inl g6)), (b7, .inl (cy 0, 7, .inl g7)), (b8, .inl (cy 0, 7, .inl g8)), (b9, .inl (cy 0, 7, .inl g9)), (b10, .inl (cy 0, 7, .inl g10))] H := by rw [ef_7]; exact hP
  have hD : va_D A [(h0, .inr (5, [.ref a1, .ref a2, .ref a3, .ref a4, .ref a5, .ref a6, .ref a7, .ref a8, .ref a9, .ref a10, .int yr2])), (a1, .inl (cy 0, 7, .inl f_1)), (a2, .inl (cy 0, 70, .inl f_2)), (a3, .inl (cy 0, 49, .inl f_3)), (a4, .inl (cy 0, 7, .inl f_4)), (a5, .inl (cy 0, 7, .inl f_5)), (a6, .inl (cy 0, 7, .inl f_6)), (a7, .inl (cy 0, 7, .inl f_7)), (a8, .inl (cy 0, 7, .inl f8)), (a9, .inl (cy 0, 7, .inl f9)), (a10, .inl (cy 0, 7, .inl f10)), (k0, .inr (5, [.ref b1, .ref b2, .ref b3, .ref b4, .ref b5, .ref b6, .ref b7, .ref b8, .ref b9, .ref b10, .int yr2])), (b1, .inl (cy 0, 7, .inl g1)), (b2, .inl (cy 0, 70, .inl g2)), (b3, .inl (cy 0, 49, .inl g3)), (b4, .inl (cy 0, 7, .inl g4)), (b5, .inl (cy 0, 7, .inl g5)), (b6, .inl (cy 0, 7, .inl g6)), (b7, .inl (cy 0, 7, .inl g7)), (b8, .inl (cy 0, 7, .inl g8)), (b9, .inl (cy 0, 7, .inl g9)), (b10, .inl (cy 0, 7, .inl g10))] := by rw [ef_7]; exact hD
  refine lv_aload_n hx hb dX4_copyFrom_113 rfl (lv_at hl 1 rfl) ?_
  refine gf_X4_33 hx hb hts hown hK hP 11 rfl rfl dX4_copyFrom_114 ?_
  refine lv_iconst (v := 0) hx hb dX4_copyFrom_117 (by decide) ?_
  refine lv_aload_n hx hb dX4_copyFrom_118 rfl (lv_at hl 0 rfl) ?_
  refine gf_X4_33 hx hb hts hown hK hP 0 rfl rfl dX4_copyFrom_119 ?_
  refine lv_iconst (v := 0) hx hb dX4_copyFrom_122 (by decide) ?_
  refine lv_bipush (v := 7) hx hb dX4_copyFrom_123 (by decide) ?_
  refine va_copyi hx hb (by rw [hml, hl.1]) hown (hts _ t767) (hts _ t769) (hts _ t768) (hts _ t23) hK hP hD hS 19 8 0 0 rfl rfl rfl rfl rfl (by decide) (by decide) (by decide) (by decide) (by decide) (fun _ _ => rfl) (Nat.le_of_ble_eq_true rfl) (Nat.le_of_ble_eq_true rfl) dX4_copyFrom_125 (fun H locs hP hD hS => ?_)
  obtain ⟨f_8, ef_8⟩ : ∃ z : Nat → Int32, z = va_cpy g8 f8 (Int32.toNatClampNeg 0) (Int32.toNatClampNeg 0) (Int32.toNatClampNeg 7) := ⟨_, rfl⟩
  have hP : va_P (dC, dI) vwCl [(h0, .inr (5, [.ref a1, .ref a2, .ref a3, .ref a4, .ref a5, .ref a6, .ref a7, .ref a8, .ref a9, .ref a10, .int yr2])), (a1, .inl (cy 0, 7, .inl f_1)), (a2, .inl (cy 0, 70, .inl f_2)), (a3, .inl (cy 0, 49, .inl f_3)), (a4, .inl (cy 0, 7, .inl f_4)), (a5, .inl (cy 0, 7, .inl f_5)), (a6, .inl (cy 0, 7, .inl f_6)), (a7, .inl (cy 0, 7, .inl f_7)), (a8, .inl (cy 0, 7, .inl f_8)), (a9, .inl (cy 0, 7, .inl f9)), (a10, .inl (cy 0, 7, .inl f10)), (k0, .inr (5, [.ref b1, .ref b2, .ref b3, .ref b4, .ref b5, .ref b6, .ref b7, .ref b8, .ref b9, .ref b10, .int yr2])), (b1, .inl (cy 0, 7, .inl g1)), (b2, .inl (cy 0, 70, .inl g2)), (b3, .inl (cy 0, 49, .inl g3)), (b4, .inl (cy 0, 7, .inl g4)), (b5, .inl (cy 0, 7, .inl g5)), (b6, .inl (cy 0, 7, .inl g6)), (b7, .inl (cy 0, 7, .inl g7)), (b8, .inl (cy 0, 7, .inl g8)), (b9, .inl (cy 0, 7, .inl g9)), (b10, .inl (cy 0, 7, .inl g10))] H := by rw [ef_8]; exact hP
  have hD : va_D A [(h0, .inr (5, [.ref a1, .ref a2, .ref a3, .ref a4, .ref a5, .ref a6, .ref a7, .ref a8, .ref a9, .ref a10, .int yr2])), (a1, .inl (cy 0, 7, .inl f_1)), (a2, .inl (cy 0, 70, .inl f_2)), (a3, .inl (cy 0, 49, .inl f_3)), (a4, .inl (cy 0, 7, .inl f_4)), (a5, .inl (cy 0, 7, .inl f_5)), (a6, .inl (cy 0, 7, .inl f_6)), (a7, .inl (cy 0, 7, .inl f_7)), (a8, .inl (cy 0, 7, .inl f_8)), (a9, .inl (cy 0, 7, .inl f9)), (a10, .inl (cy 0, 7, .inl f10)), (k0, .inr (5, [.ref b1, .ref b2, .ref b3, .ref b4, .ref b5, .ref b6, .ref b7, .ref b8, .ref b9, .ref b10, .int yr2])), (b1, .inl (cy 0, 7, .inl g1)), (b2, .inl (cy 0, 70, .inl g2)), (b3, .inl (cy 0, 49, .inl g3)), (b4, .inl (cy 0, 7, .inl g4)), (b5, .inl (cy 0, 7, .inl g5)), (b6, .inl (cy 0, 7, .inl g6)), (b7, .inl (cy 0, 7, .inl g7)), (b8, .inl (cy 0, 7, .inl g8)), (b9, .inl (cy 0, 7, .inl g9)), (b10, .inl (cy 0, 7, .inl g10))] := by rw [ef_8]; exact hD
  refine lv_aload_n hx hb dX4_copyFrom_128 rfl (lv_at hl 1 rfl) ?_
  refine gf_X4_36 hx hb hts hown hK hP 11 rfl rfl dX4_copyFrom_129 ?_
  refine lv_iconst (v := 0) hx hb dX4_copyFrom_132 (by decide) ?_
  refine lv_aload_n hx hb dX4_copyFrom_133 rfl (lv_at hl 0 rfl) ?_
  refine gf_X4_36 hx hb hts hown hK hP 0 rfl rfl dX4_copyFrom_134 ?_
  refine lv_iconst (v := 0) hx hb dX4_copyFrom_137 (by decide) ?_
  refine lv_bipush (v := 7) hx hb dX4_copyFrom_138 (by decide) ?_
  refine va_copyi hx hb (by rw [hml, hl.1]) hown (hts _ t767) (hts _ t769) (hts _ t768) (hts _ t23) hK hP hD hS 20 9 0 0 rfl rfl rfl rfl rfl (by decide) (by decide) (by decide) (by decide) (by decide) (fun _ _ => rfl) (Nat.le_of_ble_eq_true rfl) (Nat.le_of_ble_eq_true rfl) dX4_copyFrom_140 (fun H locs hP hD hS => ?_)
  obtain ⟨f_9, ef_9⟩ : ∃ z : Nat → Int32, z = va_cpy g9 f9 (Int32.toNatClampNeg 0) (Int32.toNatClampNeg 0) (Int32.toNatClampNeg 7) := ⟨_, rfl⟩
  have hP : va_P (dC, dI) vwCl [(h0, .inr (5, [.ref a1, .ref a2, .ref a3, .ref a4, .ref a5, .ref a6, .ref a7, .ref a8, .ref a9, .ref a10, .int yr2])), (a1, .inl (cy 0, 7, .inl f_1)), (a2, .inl (cy 0, 70, .inl f_2)), (a3, .inl (cy 0, 49, .inl f_3)), (a4, .inl (cy 0, 7, .inl f_4)), (a5, .inl (cy 0, 7, .inl f_5)), (a6, .inl (cy 0, 7, .inl f_6)), (a7, .inl (cy 0, 7, .inl f_7)), (a8, .inl (cy 0, 7, .inl f_8)), (a9, .inl (cy 0, 7, .inl f_9)), (a10, .inl (cy 0, 7, .inl f10)), (k0, .inr (5, [.ref b1, .ref b2, .ref b3, .ref b4, .ref b5, .ref b6, .ref b7, .ref b8, .ref b9, .ref b10, .int yr2])), (b1, .inl (cy 0, 7, .inl g1)), (b2, .inl (cy 0, 70, .inl g2)), (b3, .inl (cy 0, 49, .inl g3)), (b4, .inl (cy 0, 7, .inl g4)), (b5, .inl (cy 0, 7, .inl g5)), (b6, .inl (cy 0, 7, .inl g6)), (b7, .inl (cy 0, 7, .inl g7)), (b8, .inl (cy 0, 7, .inl g8)), (b9, .inl (cy 0, 7, .inl g9)), (b10, .inl (cy 0, 7, .inl g10))] H := by rw [ef_9]; exact hP
  have hD : va_D A [(h0, .inr (5, [.ref a1, .ref a2, .ref a3, .ref a4, .ref a5, .ref a6, .ref a7, .ref a8, .ref a9, .ref a10, .int yr2])), (a1, .inl (cy 0, 7, .inl f_1)), (a2, .inl (cy 0, 70, .inl f_2)), (a3, .inl (cy 0, 49, .inl f_3)), (a4, .inl (cy 0, 7, .inl f_4)), (a5, .inl (cy 0, 7, .inl f_5)), (a6, .inl (cy 0, 7, .inl f_6)), (a7, .inl (cy 0, 7, .inl f_7)), (a8, .inl (cy 0, 7, .inl f_8)), (a9, .inl (cy 0, 7, .inl f_9)), (a10, .inl (cy 0, 7, .inl f10)), (k0, .inr (5, [.ref b1, .ref b2, .ref b3, .ref b4, .ref b5, .ref b6, .ref b7, .ref b8, .ref b9, .ref b10, .int yr2])), (b1, .inl (cy 0, 7, .inl g1)), (b2, .inl (cy 0, 70, .inl g2)), (b3, .inl (cy 0, 49, .inl g3)), (b4, .inl (cy 0, 7, .inl g4)), (b5, .inl (cy 0, 7, .inl g5)), (b6, .inl (cy 0, 7, .inl g6)), (b7, .inl (cy 0, 7, .inl g7)), (b8, .inl (cy 0, 7, .inl g8)), (b9, .inl (cy 0, 7, .inl g9)), (b10, .inl (cy 0, 7, .inl g10))] := by rw [ef_9]; exact hD
  refine lv_aload_n hx hb dX4_copyFrom_143 rfl (lv_at hl 1 rfl) ?_
  refine gf_X4_39 hx hb hts hown hK hP 11 rfl rfl dX4_copyFrom_144 ?_
  refine lv_iconst (v := 0) hx hb dX4_copyFrom_147 (by decide) ?_
  refine lv_aload_n hx hb dX4_copyFrom_148 rfl (lv_at hl 0 rfl) ?_
  refine gf_X4_39 hx hb hts hown hK hP 0 rfl rfl dX4_copyFrom_149 ?_
  refine lv_iconst (v := 0) hx hb dX4_copyFrom_152 (by decide) ?_
  refine lv_bipush (v := 7) hx hb dX4_copyFrom_153 (by decide) ?_
  refine va_copyi hx hb (by rw [hml, hl.1]) hown (hts _ t767) (hts _ t769) (hts _ t768) (hts _ t23) hK hP hD hS 21 10 0 0 rfl rfl rfl rfl rfl (by decide) (by decide) (by decide) (by decide) (by decide) (fun _ _ => rfl) (Nat.le_of_ble_eq_true rfl) (Nat.le_of_ble_eq_true rfl) dX4_copyFrom_155 (fun H locs hP hD hS => ?_)
  obtain ⟨f_10, ef_10⟩ : ∃ z : Nat → Int32, z = va_cpy g10 f10 (Int32.toNatClampNeg 0) (Int32.toNatClampNeg 0) (Int32.toNatClampNeg 7) := ⟨_, rfl⟩
  have hP : va_P (dC, dI) vwCl [(h0, .inr (5, [.ref a1, .ref a2, .ref a3, .ref a4, .ref a5, .ref a6, .ref a7, .ref a8, .ref a9, .ref a10, .int yr2])), (a1, .inl (cy 0, 7, .inl f_1)), (a2, .inl (cy 0, 70, .inl f_2)), (a3, .inl (cy 0, 49, .inl f_3)), (a4, .inl (cy 0, 7, .inl f_4)), (a5, .inl (cy 0, 7, .inl f_5)), (a6, .inl (cy 0, 7, .inl f_6)), (a7, .inl (cy 0, 7, .inl f_7)), (a8, .inl (cy 0, 7, .inl f_8)), (a9, .inl (cy 0, 7, .inl f_9)), (a10, .inl (cy 0, 7, .inl f_10)), (k0, .inr (5, [.ref b1, .ref b2, .ref b3, .ref b4, .ref b5, .ref b6, .ref b7, .ref b8, .ref b9, .ref b10, .int yr2])), (b1, .inl (cy 0, 7, .inl g1)), (b2, .inl (cy 0, 70, .inl g2)), (b3, .inl (cy 0, 49, .inl g3)), (b4, .inl (cy 0, 7, .inl g4)), (b5, .inl (cy 0, 7, .inl g5)), (b6, .inl (cy 0, 7, .inl g6)), (b7, .inl (cy 0, 7, .inl g7)), (b8, .inl (cy 0, 7, .inl g8)), (b9, .inl (cy 0, 7, .inl g9)), (b10, .inl (cy 0, 7, .inl g10))] H := by rw [ef_10]; exact hP
  have hD : va_D A [(h0, .inr (5, [.ref a1, .ref a2, .ref a3, .ref a4, .ref a5, .ref a6, .ref a7, .ref a8, .ref a9, .ref a10, .int yr2])), (a1, .inl (cy 0, 7, .inl f_1)), (a2, .inl (cy 0, 70, .inl f_2)), (a3, .inl (cy 0, 49, .inl f_3)), (a4, .inl (cy 0, 7, .inl f_4)), (a5, .inl (cy 0, 7, .inl f_5)), (a6, .inl (cy 0, 7, .inl f_6)), (a7, .inl (cy 0, 7, .inl f_7)), (a8, .inl (cy 0, 7, .inl f_8)), (a9, .inl (cy 0, 7, .inl f_9)), (a10, .inl (cy 0, 7, .inl f_10)), (k0, .inr (5, [.ref b1, .ref b2, .ref b3, .ref b4, .ref b5, .ref b6, .ref b7, .ref b8, .ref b9, .ref b10, .int yr2])), (b1, .inl (cy 0, 7, .inl g1)), (b2, .inl (cy 0, 70, .inl g2)), (b3, .inl (cy 0, 49, .inl g3)), (b4, .inl (cy 0, 7, .inl g4)), (b5, .inl (cy 0, 7, .inl g5)), (b6, .inl (cy 0, 7, .inl g6)), (b7, .inl (cy 0, 7, .inl g7)), (b8, .inl (cy 0, 7, .inl g8)), (b9, .inl (cy 0, 7, .inl g9)), (b10, .inl (cy 0, 7, .inl g10))] := by rw [ef_10]; exact hD
  rw [hQ9]
  exact re_v (f_1, f_2, f_3, f_4, f_5, f_6, f_7, f_8, f_9, f_10) hx hb hr hlocks trivial (hP.sub [0, 1, 2, 3, 4, 5, 6, 7, 8, 9, 10, 11, 12, 13, 14, 15, 16, 17, 18, 19, 20, 21] rfl) (hD.sub [0, 1, 2, 3, 4, 5, 6, 7, 8, 9, 10, 11, 12, 13, 14, 15, 16, 17, 18, 19, 20, 21] rfl rfl) hS dX4_copyFrom_158
abbrev cX1_copyFrom : ByteArray := prog_3_method_3_code
def yX1_copyFrom : MethodName := ⟨RX1, "copyFrom", "(LLikenessPound$Colony;)V"⟩
theorem t1193 : Cond.code yX1_copyFrom cX1_copyFrom 3 none ∈ GW := gw_mem 1307 (by decide +kernel) (by decide +kernel)
abbrev O_c_Col_copy (cy : Nat → ClassId) (h0 : Nat) (a1 : Nat) (a2 : Nat) (a3 : Nat) (a4 : Nat) (a5 : Nat) (xm : Int32) (xd : Int32) (xr : Int32) (xf : Int32) (f1 : Nat → Int64) (f2 : Nat → Int64) (f3 : Nat → Int32) (f4 : Nat → Int32) (f5 : Nat → Int32) (k0 : Nat) (b1 : Nat) (b2 : Nat) (b3 : Nat) (b4 : Nat) (b5 : Nat) (ym : Int32) (yd : Int32) (yr : Int32) (yf : Int32) (g1 : Nat → Int64) (g2 : Nat → Int64) (g3 : Nat → Int32) (g4 : Nat → Int32) (g5 : Nat → Int32) (u : (Nat → Int64) × (Nat → Int64) × (Nat → Int32) × (Nat → Int32) × (Nat → Int32)) : va_W := [(h0, .inr (2, [.ref a1, .ref a2, .ref a3, .ref a4, .ref a5, .int ym, .int yd, .int yr, .int yf])), (a1, .inl (cy 1, 7, .inr (.inl u.1))), (a2, .inl (cy 1, 10, .inr (.inl u.2.1))), (a3, .inl (cy 0, 10, .inl u.2.2.1)), (a4, .inl (cy 2, 10, .inl u.2.2.2.1)), (a5, .inl (cy 0, 7, .inl u.2.2.2.2)), (k0, .inr (2, [.ref b1, .ref b2, .ref b3, .ref b4, .ref b5, .int ym, .int yd, .int yr, .int yf])), (b1, .inl (cy 1, 7, .inr (.inl g1))), (b2, .inl (cy 1, 10, .inr (.inl g2))), (b3, .inl (cy 0, 10, .inl g3)), (b4, .inl (cy 2, 10, .inl g4)), (b5, .inl (cy 0, 7, .inl g5))]
theorem dX1_copyFrom_0 : decode cX1_copyFrom 0 = .ok (.aload_n 0, 1) := by decide +kernel
theorem dX1_copyFrom_1 : decode cX1_copyFrom 1 = .ok (.aload_n 1, 1) := by decide +kernel
theorem dX1_copyFrom_2 : decode cX1_copyFrom 2 = .ok (.getfield 36, 3) := by decide +kernel
theorem dX1_copyFrom_5 : decode cX1_copyFrom 5 = .ok (.putfield 36, 3) := by decide +kernel
theorem dX1_copyFrom_8 : decode cX1_copyFrom 8 = .ok (.aload_n 0, 1) := by decide +kernel
theorem dX1_copyFrom_9 : decode cX1_copyFrom 9 = .ok (.aload_n 1, 1) := by decide +kernel
theorem dX1_copyFrom_10 : decode cX1_copyFrom 10 = .ok (.getfield 39, 3) := by decide +kernel
theorem gf_X1_39 {p : Program} {l : Launch} {e : Env} {R : Room} {s : State} {m : MethodId} {args : Array Value} {below : List Frame} {meth : Method} {c : Code} {H : Heap} {locs : List Loc} {cells slots : Nat} {Q : State → Prop} {cc : ByteArray} {pc : Nat} {ls : Array Slot} {rest : List Value} {D : va_G} {a : Nat} {tys : List (ClassId × FieldType)} {ws : va_W} (hx : p.tables.exec = Jvm.exec) (hb : c.code = cc) (hts : ∀ w ∈ GW, w.before args s = true) (hown : s.vm.findClass RX1 = some m.cls) (hK : va_K D vwCl tys s) (hP : va_P D vwCl ws H) (q0 : Nat) {fs : List Value} (he : ws[q0]? = some (a, .inr (2, fs))) {v : Value} (hv : fs[6]? = some v) (hdg : decode cc pc = .ok (.getfield 39, 3)) (kk : W p l e R s m args below meth c H locs cells slots Q (F0 m (pc + 3) ls (v :: rest))) : W p l e R s m args below meth c H locs cells slots Q (F0 m pc ls (.ref a :: rest)) := va_get (C := RX1) (T := TX1) (N := 9) (ci := 2) hx hb hts inX1 hown hK hP q0 he rfl 6 (by decide) (hts _ t396) (fun _ h => h) hv hdg kk
theorem dX1_copyFrom_13 : decode cX1_copyFrom 13 = .ok (.putfield 39, 3) := by decide +kernel
theorem dX1_copyFrom_16 : decode cX1_copyFrom 16 = .ok (.aload_n 0, 1) := by decide +kernel
theorem dX1_copyFrom_17 : decode cX1_copyFrom 17 = .ok (.aload_n 1, 1) := by decide +kernel
theorem dX1_copyFrom_18 : decode cX1_copyFrom 18 = .ok (.getfield 29, 3) := by decide +kernel
theorem gf_X1_29 {p : Program} {l : Launch} {e : Env} {R : Room} {s : State} {m : MethodId} {args : Array Value} {below : List Frame} {meth : Method} {c : Code} {H : Heap} {locs : List Loc} {cells slots : Nat} {Q : State → Prop} {cc : ByteArray} {pc : Nat} {ls : Array Slot} {rest : List Value} {D : va_G} {a : Nat} {tys : List (ClassId × FieldType)} {ws : va_W} (hx : p.tables.exec = Jvm.exec) (hb : c.code = cc) (hts : ∀ w ∈ GW, w.before args s = true) (hown : s.vm.findClass RX1 = some m.cls) (hK : va_K D vwCl tys s) (hP : va_P D vwCl ws H) (q0 : Nat) {fs : List Value} (he : ws[q0]? = some (a, .inr (2, fs))) {v : Value} (hv : fs[7]? = some v) (hdg : decode cc pc = .ok (.getfield 29, 3)) (kk : W p l e R s m args below meth c H locs cells slots Q (F0 m (pc + 3) ls (v :: rest))) : W p l e R s m args below meth c H locs cells slots Q (F0 m pc ls (.ref a :: rest)) := va_get (C := RX1) (T := TX1) (N := 9) (ci := 2) hx hb hts inX1 hown hK hP q0 he rfl 7 (by decide) (hts _ t402) (fun _ h => h) hv hdg kk
theorem dX1_copyFrom_21 : decode cX1_copyFrom 21 = .ok (.putfield 29, 3) := by decide +kernel
theorem dX1_copyFrom_24 : decode cX1_copyFrom 24 = .ok (.aload_n 0, 1) := by decide +kernel
theorem dX1_copyFrom_25 : decode cX1_copyFrom 25 = .ok (.aload_n 1, 1) := by decide +kernel
theorem dX1_copyFrom_26 : decode cX1_copyFrom 26 = .ok (.getfield 33, 3) := by decide +kernel
theorem gf_X1_33 {p : Program} {l : Launch} {e : Env} {R : Room} {s : State} {m : MethodId} {args : Array Value} {below : List Frame} {meth : Method} {c : Code} {H : Heap} {locs : List Loc} {cells slots : Nat} {Q : State → Prop} {cc : ByteArray} {pc : Nat} {ls : Array Slot} {rest : List Value} {D : va_G} {a : Nat} {tys : List (ClassId × FieldType)} {ws : va_W} (hx : p.tables.exec = Jvm.exec) (hb : c.code = cc) (hts : ∀ w ∈ GW, w.before args s = true) (hown : s.vm.findClass RX1 = some m.cls) (hK : va_K D vwCl tys s) (hP : va_P D vwCl ws H) (q0 : Nat) {fs : List Value} (he : ws[q0]? = some (a, .inr (2, fs))) {v : Value} (hv : fs[8]? = some v) (hdg : decode cc pc = .ok (.getfield 33, 3)) (kk : W p l e R s m args below meth c H locs cells slots Q (F0 m (pc + 3) ls (v :: rest))) : W p l e R s m args below meth c H locs cells slots Q (F0 m pc ls (.ref a :: rest)) := va_get (C := RX1) (T := TX1) (N := 9) (ci := 2) hx hb hts inX1 hown hK hP q0 he rfl 8 (by decide) (hts _ t406) (fun _ h => h) hv hdg kk
theorem dX1_copyFrom_29 : decode cX1_copyFrom 29 = .ok (.putfield 33, 3) := by decide +kernel
theorem dX1_copyFrom_32 : decode cX1_copyFrom 32 = .ok (.iconst 0, 1) := by decide +kernel
theorem dX1_copyFrom_33 : decode cX1_copyFrom 33 = .ok (.istore_n 2, 1) := by decide +kernel
theorem dX1_copyFrom_34 : decode cX1_copyFrom 34 = .ok (.iload_n 2, 1) := by decide +kernel
theorem dX1_copyFrom_35 : decode cX1_copyFrom 35 = .ok (.bipush 7, 2) := by decide +kernel
theorem dX1_copyFrom_37 : decode cX1_copyFrom 37 = .ok (.if_icmp .ge 33, 3) := by decide +kernel
theorem dX1_copyFrom_70 : decode cX1_copyFrom 70 = .ok (.iconst 0, 1) := by decide +kernel
theorem dX1_copyFrom_71 : decode cX1_copyFrom 71 = .ok (.istore_n 2, 1) := by decide +kernel
theorem dX1_copyFrom_72 : decode cX1_copyFrom 72 = .ok (.iload_n 2, 1) := by decide +kernel
theorem dX1_copyFrom_73 : decode cX1_copyFrom 73 = .ok (.bipush 10, 2) := by decide +kernel
theorem dX1_copyFrom_75 : decode cX1_copyFrom 75 = .ok (.if_icmp .ge 45, 3) := by decide +kernel
theorem dX1_copyFrom_120 : decode cX1_copyFrom 120 = .ok (.return_, 1) := by decide +kernel
theorem dX1_copyFrom_78 : decode cX1_copyFrom 78 = .ok (.aload_n 0, 1) := by decide +kernel
theorem dX1_copyFrom_79 : decode cX1_copyFrom 79 = .ok (.getfield 15, 3) := by decide +kernel
theorem t375 : Cond.fieldLink RX1 15 "LikenessPound$Colony" "deedCode" "[J" ∈ GW := gw_mem 489 (by decide +kernel) (by decide +kernel)
theorem gf_X1_15 {p : Program} {l : Launch} {e : Env} {R : Room} {s : State} {m : MethodId} {args : Array Value} {below : List Frame} {meth : Method} {c : Code} {H : Heap} {locs : List Loc} {cells slots : Nat} {Q : State → Prop} {cc : ByteArray} {pc : Nat} {ls : Array Slot} {rest : List Value} {D : va_G} {a : Nat} {tys : List (ClassId × FieldType)} {ws : va_W} (hx : p.tables.exec = Jvm.exec) (hb : c.code = cc) (hts : ∀ w ∈ GW, w.before args s = true) (hown : s.vm.findClass RX1 = some m.cls) (hK : va_K D vwCl tys s) (hP : va_P D vwCl ws H) (q0 : Nat) {fs : List Value} (he : ws[q0]? = some (a, .inr (2, fs))) {v : Value} (hv : fs[1]? = some v) (hdg : decode cc pc = .ok (.getfield 15, 3)) (kk : W p l e R s m args below meth c H locs cells slots Q (F0 m (pc + 3) ls (v :: rest))) : W p l e R s m args below meth c H locs cells slots Q (F0 m pc ls (.ref a :: rest)) := va_get (C := RX1) (T := TX1) (N := 9) (ci := 2) hx hb hts inX1 hown hK hP q0 he rfl 1 (by decide) (hts _ t375) (fun _ h => h) hv hdg kk
theorem dX1_copyFrom_82 : decode cX1_copyFrom 82 = .ok (.iload_n 2, 1) := by decide +kernel
theorem dX1_copyFrom_83 : decode cX1_copyFrom 83 = .ok (.aload_n 1, 1) := by decide +kernel
theorem dX1_copyFrom_84 : decode cX1_copyFrom 84 = .ok (.getfield 15, 3) := by decide +kernel
theorem dX1_copyFrom_87 : decode cX1_copyFrom 87 = .ok (.iload_n 2, 1) := by decide +kernel
theorem dX1_copyFrom_88 : decode cX1_copyFrom 88 = .ok (.laload, 1) := by decide +kernel
theorem dX1_copyFrom_89 : decode cX1_copyFrom 89 = .ok (.lastore, 1) := by decide +kernel
theorem dX1_copyFrom_90 : decode cX1_copyFrom 90 = .ok (.aload_n 0, 1) := by decide +kernel
theorem dX1_copyFrom_91 : decode cX1_copyFrom 91 = .ok (.getfield 18, 3) := by decide +kernel
theorem t377 : Cond.fieldLink RX1 18 "LikenessPound$Colony" "weight" "[I" ∈ GW := gw_mem 491 (by decide +kernel) (by decide +kernel)
theorem gf_X1_18 {p : Program} {l : Launch} {e : Env} {R : Room} {s : State} {m : MethodId} {args : Array Value} {below : List Frame} {meth : Method} {c : Code} {H : Heap} {locs : List Loc} {cells slots : Nat} {Q : State → Prop} {cc : ByteArray} {pc : Nat} {ls : Array Slot} {rest : List Value} {D : va_G} {a : Nat} {tys : List (ClassId × FieldType)} {ws : va_W} (hx : p.tables.exec = Jvm.exec) (hb : c.code = cc) (hts : ∀ w ∈ GW, w.before args s = true) (hown : s.vm.findClass RX1 = some m.cls) (hK : va_K D vwCl tys s) (hP : va_P D vwCl ws H) (q0 : Nat) {fs : List Value} (he : ws[q0]? = some (a, .inr (2, fs))) {v : Value} (hv : fs[2]? = some v) (hdg : decode cc pc = .ok (.getfield 18, 3)) (kk : W p l e R s m args below meth c H locs cells slots Q (F0 m (pc + 3) ls (v :: rest))) : W p l e R s m args below meth c H locs cells slots Q (F0 m pc ls (.ref a :: rest)) := va_get (C := RX1) (T := TX1) (N := 9) (ci := 2) hx hb hts inX1 hown hK hP q0 he rfl 2 (by decide) (hts _ t377) (fun _ h => h) hv hdg kk
theorem dX1_copyFrom_94 : decode cX1_copyFrom 94 = .ok (.iload_n 2, 1) := by decide +kernel
theorem dX1_copyFrom_95 : decode cX1_copyFrom 95 = .ok (.aload_n 1, 1) := by decide +kernel
theorem dX1_copyFrom_96 : decode cX1_copyFrom 96 = .ok (.getfield 18, 3) := by decide +kernel
theorem dX1_copyFrom_99 : decode cX1_copyFrom 99 = .ok (.iload_n 2, 1) := by decide +kernel
theorem dX1_copyFrom_100 : decode cX1_copyFrom 100 = .ok (.iaload, 1) := by decide +kernel
theorem dX1_copyFrom_101 : decode cX1_copyFrom 101 = .ok (.iastore, 1) := by decide +kernel
theorem dX1_copyFrom_102 : decode cX1_copyFrom 102 = .ok (.aload_n 0, 1) := by decide +kernel
theorem dX1_copyFrom_103 : decode cX1_copyFrom 103 = .ok (.getfield 22, 3) := by decide +kernel
theorem t383 : Cond.fieldLink RX1 22 "LikenessPound$Colony" "crime" "[Z" ∈ GW := gw_mem 497 (by decide +kernel) (by decide +kernel)
theorem gf_X1_22 {p : Program} {l : Launch} {e : Env} {R : Room} {s : State} {m : MethodId} {args : Array Value} {below : List Frame} {meth : Method} {c : Code} {H : Heap} {locs : List Loc} {cells slots : Nat} {Q : State → Prop} {cc : ByteArray} {pc : Nat} {ls : Array Slot} {rest : List Value} {D : va_G} {a : Nat} {tys : List (ClassId × FieldType)} {ws : va_W} (hx : p.tables.exec = Jvm.exec) (hb : c.code = cc) (hts : ∀ w ∈ GW, w.before args s = true) (hown : s.vm.findClass RX1 = some m.cls) (hK : va_K D vwCl tys s) (hP : va_P D vwCl ws H) (q0 : Nat) {fs : List Value} (he : ws[q0]? = some (a, .inr (2, fs))) {v : Value} (hv : fs[3]? = some v) (hdg : decode cc pc = .ok (.getfield 22, 3)) (kk : W p l e R s m args below meth c H locs cells slots Q (F0 m (pc + 3) ls (v :: rest))) : W p l e R s m args below meth c H locs cells slots Q (F0 m pc ls (.ref a :: rest)) := va_get (C := RX1) (T := TX1) (N := 9) (ci := 2) hx hb hts inX1 hown hK hP q0 he rfl 3 (by decide) (hts _ t383) (fun _ h => h) hv hdg kk
theorem dX1_copyFrom_106 : decode cX1_copyFrom 106 = .ok (.iload_n 2, 1) := by decide +kernel
theorem dX1_copyFrom_107 : decode cX1_copyFrom 107 = .ok (.aload_n 1, 1) := by decide +kernel
theorem dX1_copyFrom_108 : decode cX1_copyFrom 108 = .ok (.getfield 22, 3) := by decide +kernel
theorem dX1_copyFrom_111 : decode cX1_copyFrom 111 = .ok (.iload_n 2, 1) := by decide +kernel
theorem dX1_copyFrom_112 : decode cX1_copyFrom 112 = .ok (.baload, 1) := by decide +kernel
theorem dX1_copyFrom_113 : decode cX1_copyFrom 113 = .ok (.bastore, 1) := by decide +kernel
theorem dX1_copyFrom_114 : decode cX1_copyFrom 114 = .ok (.iinc 2 1, 3) := by decide +kernel
theorem dX1_copyFrom_117 : decode cX1_copyFrom 117 = .ok (.goto (-45), 3) := by decide +kernel
theorem dX1_copyFrom_40 : decode cX1_copyFrom 40 = .ok (.aload_n 0, 1) := by decide +kernel
theorem dX1_copyFrom_41 : decode cX1_copyFrom 41 = .ok (.getfield 9, 3) := by decide +kernel
theorem t373 : Cond.fieldLink RX1 9 "LikenessPound$Colony" "manCode" "[J" ∈ GW := gw_mem 487 (by decide +kernel) (by decide +kernel)
theorem gf_X1_9 {p : Program} {l : Launch} {e : Env} {R : Room} {s : State} {m : MethodId} {args : Array Value} {below : List Frame} {meth : Method} {c : Code} {H : Heap} {locs : List Loc} {cells slots : Nat} {Q : State → Prop} {cc : ByteArray} {pc : Nat} {ls : Array Slot} {rest : List Value} {D : va_G} {a : Nat} {tys : List (ClassId × FieldType)} {ws : va_W} (hx : p.tables.exec = Jvm.exec) (hb : c.code = cc) (hts : ∀ w ∈ GW, w.before args s = true) (hown : s.vm.findClass RX1 = some m.cls) (hK : va_K D vwCl tys s) (hP : va_P D vwCl ws H) (q0 : Nat) {fs : List Value} (he : ws[q0]? = some (a, .inr (2, fs))) {v : Value} (hv : fs[0]? = some v) (hdg : decode cc pc = .ok (.getfield 9, 3)) (kk : W p l e R s m args below meth c H locs cells slots Q (F0 m (pc + 3) ls (v :: rest))) : W p l e R s m args below meth c H locs cells slots Q (F0 m pc ls (.ref a :: rest)) := va_get (C := RX1) (T := TX1) (N := 9) (ci := 2) hx hb hts inX1 hown hK hP q0 he rfl 0 (by decide) (hts _ t373) (fun _ h => h) hv hdg kk
theorem dX1_copyFrom_44 : decode cX1_copyFrom 44 = .ok (.iload_n 2, 1) := by decide +kernel
theorem dX1_copyFrom_45 : decode cX1_copyFrom 45 = .ok (.aload_n 1, 1) := by decide +kernel
theorem dX1_copyFrom_46 : decode cX1_copyFrom 46 = .ok (.getfield 9, 3) := by decide +kernel
theorem dX1_copyFrom_49 : decode cX1_copyFrom 49 = .ok (.iload_n 2, 1) := by decide +kernel
theorem dX1_copyFrom_50 : decode cX1_copyFrom 50 = .ok (.laload, 1) := by decide +kernel
theorem dX1_copyFrom_51 : decode cX1_copyFrom 51 = .ok (.lastore, 1) := by decide +kernel
theorem dX1_copyFrom_52 : decode cX1_copyFrom 52 = .ok (.aload_n 0, 1) := by decide +kernel
theorem dX1_copyFrom_53 : decode cX1_copyFrom 53 = .ok (.getfield 26, 3) := by decide +kernel
theorem dX1_copyFrom_56 : decode cX1_copyFrom 56 = .ok (.iload_n 2, 1) := by decide +kernel
theorem dX1_copyFrom_57 : decode cX1_copyFrom 57 = .ok (.aload_n 1, 1) := by decide +kernel
theorem dX1_copyFrom_58 : decode cX1_copyFrom 58 = .ok (.getfield 26, 3) := by decide +kernel
theorem dX1_copyFrom_61 : decode cX1_copyFrom 61 = .ok (.iload_n 2, 1) := by decide +kernel
theorem dX1_copyFrom_62 : decode cX1_copyFrom 62 = .ok (.iaload, 1) := by decide +kernel
theorem dX1_copyFrom_63 : decode cX1_copyFrom 63 = .ok (.iastore, 1) := by decide +kernel
theorem dX1_copyFrom_64 : decode cX1_copyFrom 64 = .ok (.iinc 2 1, 3) := by decide +kernel
theorem dX1_copyFrom_67 : decode cX1_copyFrom 67 = .ok (.goto (-33), 3) := by decide +kernel
set_option maxHeartbeats 4000000 in
set_option maxRecDepth 100000 in
theorem c_Col_copy (l : Launch) (dC : Nat → ClassId) (dI : Nat → Nat → Nat) (cy : Nat → ClassId) (sz : Nat) (h0 : Nat) (a1 : Nat) (a2 : Nat) (a3 : Nat) (a4 : Nat) (a5 : Nat) (xm : Int32) (xd : Int32) (xr : Int32) (xf : Int32) (f1 : Nat → Int64) (f2 : Nat → Int64) (f3 : Nat → Int32) (f4 : Nat → Int32) (f5 : Nat → Int32) (k0 : Nat) (b1 : Nat) (b2 : Nat) (b3 : Nat) (b4 : Nat) (b5 : Nat) (ym : Int32) (yd : Int32) (yr : Int32) (yf : Int32) (g1 : Nat → Int64) (g2 : Nat → Int64) (g3 : Nat → Int32) (g4 : Nat → Int32) (g5 : Nat → Int32)  : Met l yX1_copyFrom (wl yX1_copyFrom cX1_copyFrom 3 none) ({ frames := 1, cells := 0, slots := 0, locals := 64 }) (Pw (dC, dI) vwCl cy [(h0, .inr (2, [.ref a1, .ref a2, .ref a3, .ref a4, .ref a5, .int xm, .int xd, .int xr, .int xf])), (a1, .inl (cy 1, 7, .inr (.inl f1))), (a2, .inl (cy 1, 10, .inr (.inl f2))), (a3, .inl (cy 0, 10, .inl f3)), (a4, .inl (cy 2, 10, .inl f4)), (a5, .inl (cy 0, 7, .inl f5)), (k0, .inr (2, [.ref b1, .ref b2, .ref b3, .ref b4, .ref b5, .int ym, .int yd, .int yr, .int yf])), (b1, .inl (cy 1, 7, .inr (.inl g1))), (b2, .inl (cy 1, 10, .inr (.inl g2))), (b3, .inl (cy 0, 10, .inl g3)), (b4, .inl (cy 2, 10, .inl g4)), (b5, .inl (cy 0, 7, .inl g5))] sz [.ref h0, .ref k0] nE) (Qv (dC, dI) vwCl (fun (u : (Nat → Int64) × (Nat → Int64) × (Nat → Int32) × (Nat → Int32) × (Nat → Int32)) => True) (O_c_Col_copy cy h0 a1 a2 a3 a4 a5 xm xd xr xf f1 f2 f3 f4 f5 k0 b1 b2 b3 b4 b5 ym yd yr yf g1 g2 g3 g4 g5) (va_A [(h0, .inr (2, [.ref a1, .ref a2, .ref a3, .ref a4, .ref a5, .int xm, .int xd, .int xr, .int xf])), (a1, .inl (cy 1, 7, .inr (.inl f1))), (a2, .inl (cy 1, 10, .inr (.inl f2))), (a3, .inl (cy 0, 10, .inl f3)), (a4, .inl (cy 2, 10, .inl f4)), (a5, .inl (cy 0, 7, .inl f5)), (k0, .inr (2, [.ref b1, .ref b2, .ref b3, .ref b4, .ref b5, .int ym, .int yd, .int yr, .int yf])), (b1, .inl (cy 1, 7, .inr (.inl g1))), (b2, .inl (cy 1, 10, .inr (.inl g2))), (b3, .inl (cy 0, 10, .inl g3)), (b4, .inl (cy 2, 10, .inl g4)), (b5, .inl (cy 0, 7, .inl g5))] sz)) 0 0 (va_A [(h0, .inr (2, [.ref a1, .ref a2, .ref a3, .ref a4, .ref a5, .int xm, .int xd, .int xr, .int xf])), (a1, .inl (cy 1, 7, .inr (.inl f1))), (a2, .inl (cy 1, 10, .inr (.inl f2))), (a3, .inl (cy 0, 10, .inl f3)), (a4, .inl (cy 2, 10, .inl f4)), (a5, .inl (cy 0, 7, .inl f5)), (k0, .inr (2, [.ref b1, .ref b2, .ref b3, .ref b4, .ref b5, .int ym, .int yd, .int yr, .int yf])), (b1, .inl (cy 1, 7, .inr (.inl g1))), (b2, .inl (cy 1, 10, .inr (.inl g2))), (b3, .inl (cy 0, 10, .inl g3)), (b4, .inl (cy 2, 10, .inl g4)), (b5, .inl (cy 0, 7, .inl g5))] sz) := by
  refine mw (Qc := Qv (dC, dI) vwCl (fun (u : (Nat → Int64) × (Nat → Int64) × (Nat → Int32) × (Nat → Int32) × (Nat → Int32)) => True) (O_c_Col_copy cy h0 a1 a2 a3 a4 a5 xm xd xr xf f1 f2 f3 f4 f5 k0 b1 b2 b3 b4 b5 ym yd yr yf g1 g2 g3 g4 g5)) RX1 rfl (by decide +kernel) (Nat.le_of_ble_eq_true rfl) ?_
  intro p e s m below meth c A hx hb hr hlocks av9 hav hts hown hnm hml hK hP hD hA hS hE hAe Q9 hQ9 ls hl
  have hl : lv_has ls 3 [(0, .ref h0), (1, .ref k0)] := hl
  refine lv_aload_n hx hb dX1_copyFrom_0 rfl (lv_at hl 0 rfl) ?_
  refine lv_aload_n hx hb dX1_copyFrom_1 rfl (lv_at hl 1 rfl) ?_
  refine gf_X1_36 hx hb hts hown hK hP 6 rfl rfl dX1_copyFrom_2 ?_
  refine pf_X1_36 hx hb hts hown hK hP hD hS 0 rfl rfl rfl (Nat.le_of_ble_eq_true rfl) dX1_copyFrom_5 (fun H locs hP hD hS => ?_)
  have hP : va_P (dC, dI) vwCl [(h0, .inr (2, [.ref a1, .ref a2, .ref a3, .ref a4, .ref a5, .int ym, .int xd, .int xr, .int xf])), (a1, .inl (cy 1, 7, .inr (.inl f1))), (a2, .inl (cy 1, 10, .inr (.inl f2))), (a3, .inl (cy 0, 10, .inl f3)), (a4, .inl (cy 2, 10, .inl f4)), (a5, .inl (cy 0, 7, .inl f5)), (k0, .inr (2, [.ref b1, .ref b2, .ref b3, .ref b4, .ref b5, .int ym, .int yd, .int yr, .int yf])), (b1, .inl (cy 1, 7, .inr (.inl g1))), (b2, .inl (cy 1, 10, .inr (.inl g2))), (b3, .inl (cy 0, 10, .inl g3)), (b4, .inl (cy 2, 10, .inl g4)), (b5, .inl (cy 0, 7, .inl g5))] H := hP
  have hD : va_D A [(h0, .inr (2, [.ref a1, .ref a2, .ref a3, .ref a4, .ref a5, .int ym, .int xd, .int xr, .int xf])), (a1, .inl (cy 1, 7, .inr (.inl f1))), (a2, .inl (cy 1, 10, .inr (.inl f2))), (a3, .inl (cy 0, 10, .inl f3)), (a4, .inl (cy 2, 10, .inl f4)), (a5, .inl (cy 0, 7, .inl f5)), (k0, .inr (2, [.ref b1, .ref b2, .ref b3, .ref b4, .ref b5, .int ym, .int yd, .int yr, .int yf])), (b1, .inl (cy 1, 7, .inr (.inl g1))), (b2, .inl (cy 1, 10, .inr (.inl g2))), (b3, .inl (cy 0, 10, .inl g3)), (b4, .inl (cy 2, 10, .inl g4)), (b5, .inl (cy 0, 7, .inl g5))] := hD
  refine lv_aload_n hx hb dX1_copyFrom_8 rfl (lv_at hl 0 rfl) ?_
  refine lv_aload_n hx hb dX1_copyFrom_9 rfl (lv_at hl 1 rfl) ?_
  refine gf_X1_39 hx hb hts hown hK hP 6 rfl rfl dX1_copyFrom_10 ?_
  refine pf_X1_39 hx hb hts hown hK hP hD hS 0 rfl rfl rfl (Nat.le_of_ble_eq_true rfl) dX1_copyFrom_13 (fun H locs hP hD hS => ?_)
  have hP : va_P (dC, dI) vwCl [(h0, .inr (2, [.ref a1, .ref a2, .ref a3, .ref a4, .ref a5, .int ym, .int yd, .int xr, .int xf])), (a1, .inl (cy 1, 7, .inr (.inl f1))), (a2, .inl (cy 1, 10, .inr (.inl f2))), (a3, .inl (cy 0, 10, .inl f3)), (a4, .inl (cy 2, 10, .inl f4)), (a5, .inl (cy 0, 7, .inl f5)), (k0, .inr (2, [.ref b1, .ref b2, .ref b3, .ref b4, .ref b5, .int ym, .int yd, .int yr, .int yf])), (b1, .inl (cy 1, 7, .inr (.inl g1))), (b2, .inl (cy 1, 10, .inr (.inl g2))), (b3, .inl (cy 0, 10, .inl g3)), (b4, .inl (cy 2, 10, .inl g4)), (b5, .inl (cy 0, 7, .inl g5))] H := hP
  have hD : va_D A [(h0, .inr (2, [.ref a1, .ref a2, .ref a3, .ref a4, .ref a5, .int ym, .int yd, .int xr, .int xf])), (a1, .inl (cy 1, 7, .inr (.inl f1))), (a2, .inl (cy 1, 10, .inr (.inl f2))), (a3, .inl (cy 0, 10, .inl f3)), (a4, .inl (cy 2, 10, .inl f4)), (a5, .inl (cy 0, 7, .inl f5)), (k0, .inr (2, [.ref b1, .ref b2, .ref b3, .ref b4, .ref b5, .int ym, .int yd, .int yr, .int yf])), (b1, .inl (cy 1, 7, .inr (.inl g1))), (b2, .inl (cy 1, 10, .inr (.inl g2))), (b3, .inl (cy 0, 10, .inl g3)), (b4, .inl (cy 2, 10, .inl g4)), (b5, .inl (cy 0, 7, .inl g5))] := hD
  refine lv_aload_n hx hb dX1_copyFrom_16 rfl (lv_at hl 0 rfl) ?_
  refine lv_aload_n hx hb dX1_copyFrom_17 rfl (lv_at hl 1 rfl) ?_
  refine gf_X1_29 hx hb hts hown hK hP 6 rfl rfl dX1_copyFrom_18 ?_
  refine pf_X1_29 hx hb hts hown hK hP hD hS 0 rfl rfl rfl (Nat.le_of_ble_eq_true rfl) dX1_copyFrom_21 (fun H locs hP hD hS => ?_)
  have hP : va_P (dC, dI) vwCl [(h0, .inr (2, [.ref a1, .ref a2, .ref a3, .ref a4, .ref a5, .int ym, .int yd, .int yr, .int xf])), (a1, .inl (cy 1, 7, .inr (.inl f1))), (a2, .inl (cy 1, 10, .inr (.inl f2))), (a3, .inl (cy 0, 10, .inl f3)), (a4, .inl (cy 2, 10, .inl f4)), (a5, .inl (cy 0, 7, .inl f5)), (k0, .inr (2, [.ref b1, .ref b2, .ref b3, .ref b4, .ref b5, .int ym, .int yd, .int yr, .int yf])), (b1, .inl (cy 1, 7, .inr (.inl g1))), (b2, .inl (cy 1, 10, .inr (.inl g2))), (b3, .inl (cy 0, 10, .inl g3)), (b4, .inl (cy 2, 10, .inl g4)), (b5, .inl (cy 0, 7, .inl g5))] H := hP
  have hD : va_D A [(h0, .inr (2, [.ref a1, .ref a2, .ref a3, .ref a4, .ref a5, .int ym, .int yd, .int yr, .int xf])), (a1, .inl (cy 1, 7, .inr (.inl f1))), (a2, .inl (cy 1, 10, .inr (.inl f2))), (a3, .inl (cy 0, 10, .inl f3)), (a4, .inl (cy 2, 10, .inl f4)), (a5, .inl (cy 0, 7, .inl f5)), (k0, .inr (2, [.ref b1, .ref b2, .ref b3, .ref b4, .ref b5, .int ym, .int yd, .int yr, .int yf])), (b1, .inl (cy 1, 7, .inr (.inl g1))), (b2, .inl (cy 1, 10, .inr (.inl g2))), (b3, .inl (cy 0, 10, .inl g3)), (b4, .inl (cy 2, 10, .inl g4)), (b5, .inl (cy 0, 7, .inl g5))] := hD
  refine lv_aload_n hx hb dX1_copyFrom_24 rfl (lv_at hl 0 rfl) ?_
  refine lv_aload_n hx hb dX1_copyFrom_25 rfl (lv_at hl 1 rfl) ?_
  refine gf_X1_33 hx hb hts hown hK hP 6 rfl rfl dX1_copyFrom_26 ?_
  refine pf_X1_33 hx hb hts hown hK hP hD hS 0 rfl rfl rfl (Nat.le_of_ble_eq_true rfl) dX1_copyFrom_29 (fun H locs hP hD hS => ?_)
  have hP : va_P (dC, dI) vwCl [(h0, .inr (2, [.ref a1, .ref a2, .ref a3, .ref a4, .ref a5, .int ym, .int yd, .int yr, .int yf])), (a1, .inl (cy 1, 7, .inr (.inl f1))), (a2, .inl (cy 1, 10, .inr (.inl f2))), (a3, .inl (cy 0, 10, .inl f3)), (a4, .inl (cy 2, 10, .inl f4)), (a5, .inl (cy 0, 7, .inl f5)), (k0, .inr (2, [.ref b1, .ref b2, .ref b3, .ref b4, .ref b5, .int ym, .int yd, .int yr, .int yf])), (b1, .inl (cy 1, 7, .inr (.inl g1))), (b2, .inl (cy 1, 10, .inr (.inl g2))), (b3, .inl (cy 0, 10, .inl g3)), (b4, .inl (cy 2, 10, .inl g4)), (b5, .inl (cy 0, 7, .inl g5))] H := hP
  have hD : va_D A [(h0, .inr (2, [.ref a1, .ref a2, .ref a3, .ref a4, .ref a5, .int ym, .int yd, .int yr, .int yf])), (a1, .inl (cy 1, 7, .inr (.inl f1))), (a2, .inl (cy 1, 10, .inr (.inl f2))), (a3, .inl (cy 0, 10, .inl f3)), (a4, .inl (cy 2, 10, .inl f4)), (a5, .inl (cy 0, 7, .inl f5)), (k0, .inr (2, [.ref b1, .ref b2, .ref b3, .ref b4, .ref b5, .int ym, .int yd, .int yr, .int yf])), (b1, .inl (cy 1, 7, .inr (.inl g1))), (b2, .inl (cy 1, 10, .inr (.inl g2))), (b3, .inl (cy 0, 10, .inl g3)), (b4, .inl (cy 2, 10, .inl g4)), (b5, .inl (cy 0, 7, .inl g5))] := hD
  refine lv_iconst (v := 0) hx hb dX1_copyFrom_32 (by decide) ?_
  refine lv_istore_n (lv' := [(2, .int 0), (0, .ref h0), (1, .ref k0)]) hx hb dX1_copyFrom_33 rfl hl (by decide) rfl (fun ls hl => ?_)
  have loop1 : ∀ (n1_ i1 : Nat) (g_2 : Nat → Int64) (g_3 : Nat → Int32) , i1 + n1_ = 7 → ∀ (H : Heap) (locs : List Loc), va_P (dC, dI) vwCl [(h0, .inr (2, [.ref a1, .ref a2, .ref a3, .ref a4, .ref a5, .int ym, .int yd, .int yr, .int yf])), (a1, .inl (cy 1, 7, .inr (.inl g_2))), (a2, .inl (cy 1, 10, .inr (.inl f2))), (a3, .inl (cy 0, 10, .inl f3)), (a4, .inl (cy 2, 10, .inl f4)), (a5, .inl (cy 0, 7, .inl g_3)), (k0, .inr (2, [.ref b1, .ref b2, .ref b3, .ref b4, .ref b5, .int ym, .int yd, .int yr, .int yf])), (b1, .inl (cy 1, 7, .inr (.inl g1))), (b2, .inl (cy 1, 10, .inr (.inl g2))), (b3, .inl (cy 0, 10, .inl g3)), (b4, .inl (cy 2, 10, .inl g4)), (b5, .inl (cy 0, 7, .inl g5))] H → va_D A [(h0, .inr (2, [.ref a1, .ref a2, .ref a3, .ref a4, .ref a5, .int ym, .int yd, .int yr, .int yf])), (a1, .inl (cy 1, 7, .inr (.inl g_2))), (a2, .inl (cy 1, 10, .inr (.inl f2))), (a3, .inl (cy 0, 10, .inl f3)), (a4, .inl (cy 2, 10, .inl f4)), (a5, .inl (cy 0, 7, .inl g_3)), (k0, .inr (2, [.ref b1, .ref b2, .ref b3, .ref b4, .ref b5, .int ym, .int yd, .int yr, .int yf])), (b1, .inl (cy 1, 7, .inr (.inl g1))), (b2, .inl (cy 1, 10, .inr (.inl g2))), (b3, .inl (cy 0, 10, .inl g3)), (b4, .inl (cy 2, 10, .inl g4)), (b5, .inl (cy 0, 7, .inl g5))] → va_S A s.heap H locs → ∀ ls : Array Slot, lv_has ls 3 [(0, .ref h0), (1, .ref k0), (2, .int (nI i1))] → W p l e ({ frames := 1, cells := 0, slots := 0, locals := 64 }) s m av9 below meth c H locs 0 0 Q9 (F0 m 34 ls []) := by
    intro n1_
    induction n1_ with
    | zero =>
      intro i1 g_2 g_3  hn1 H locs hP hD hS ls hl
      obtain rfl : i1 = 7 := by omega
      have hl : lv_has ls 3 [(0, .ref h0), (1, .ref k0), (2, .int 7)] := hl
      have hP : va_P (dC, dI) vwCl [(h0, .inr (2, [.ref a1, .ref a2, .ref a3, .ref a4, .ref a5, .int ym, .int yd, .int yr, .int yf])), (a1, .inl (cy 1, 7, .inr (.inl g_2))), (a2, .inl (cy 1, 10, .inr (.inl f2))), (a3, .inl (cy 0, 10, .inl f3)), (a4, .inl (cy 2, 10, .inl f4)), (a5, .inl (cy 0, 7, .inl g_3)), (k0, .inr (2, [.ref b1, .ref b2, .ref b3, .ref b4, .ref b5, .int ym, .int yd, .int yr, .int yf])), (b1, .inl (cy 1, 7, .inr (.inl g1))), (b2, .inl (cy 1, 10, .inr (.inl g2))), (b3, .inl (cy 0, 10, .inl g3)), (b4, .inl (cy 2, 10, .inl g4)), (b5, .inl (cy 0, 7, .inl g5))] H := hP
      have hD : va_D A [(h0, .inr (2, [.ref a1, .ref a2, .ref a3, .ref a4, .ref a5, .int ym, .int yd, .int yr, .int yf])), (a1, .inl (cy 1, 7, .inr (.inl g_2))), (a2, .inl (cy 1, 10, .inr (.inl f2))), (a3, .inl (cy 0, 10, .inl f3)), (a4, .inl (cy 2, 10, .inl f4)), (a5, .inl (cy 0, 7, .inl g_3)), (k0, .inr (2, [.ref b1, .ref b2, .ref b3, .ref b4, .ref b5, .int ym, .int yd, .int yr, .int yf])), (b1, .inl (cy 1, 7, .inr (.inl g1))), (b2, .inl (cy 1, 10, .inr (.inl g2))), (b3, .inl (cy 0, 10, .inl g3)), (b4, .inl (cy 2, 10, .inl g4)), (b5, .inl (cy 0, 7, .inl g5))] := hD
      refine lv_iload_n hx hb dX1_copyFrom_34 rfl (lv_at hl 2 rfl) ?_
      refine lv_bipush (v := 7) hx hb dX1_copyFrom_35 (by decide) ?_
      refine lv_icmp_ge (tgt := 70) hx hb dX1_copyFrom_37 (by decide) (fun _ => ?_) (fun c9 => absurd (by decide) c9)
      refine lv_iconst (v := 0) hx hb dX1_copyFrom_70 (by decide) ?_
      refine lv_istore_n (lv' := [(2, .int 0), (0, .ref h0), (1, .ref k0)]) hx hb dX1_copyFrom_71 rfl hl (by decide) rfl (fun ls hl => ?_)
      have loop4 : ∀ (n4_ i4 : Nat) (g_5 : Nat → Int64) (g_6 : Nat → Int32) (g_7 : Nat → Int32) , i4 + n4_ = 10 → ∀ (H : Heap) (locs : List Loc), va_P (dC, dI) vwCl [(h0, .inr (2, [.ref a1, .ref a2, .ref a3, .ref a4, .ref a5, .int ym, .int yd, .int yr, .int yf])), (a1, .inl (cy 1, 7, .inr (.inl g_2))), (a2, .inl (cy 1, 10, .inr (.inl g_5))), (a3, .inl (cy 0, 10, .inl g_6)), (a4, .inl (cy 2, 10, .inl g_7)), (a5, .inl (cy 0, 7, .inl g_3)), (k0, .inr (2, [.ref b1, .ref b2, .ref b3, .ref b4, .ref b5, .int ym, .int yd, .int yr, .int yf])), (b1, .inl (cy 1, 7, .inr (.inl g1))), (b2, .inl (cy 1, 10, .inr (.inl g2))), (b3, .inl (cy 0, 10, .inl g3)), (b4, .inl (cy 2, 10, .inl g4)), (b5, .inl (cy 0, 7, .inl g5))] H → va_D A [(h0, .inr (2, [.ref a1, .ref a2, .ref a3, .ref a4, .ref a5, .int ym, .int yd, .int yr, .int yf])), (a1, .inl (cy 1, 7, .inr (.inl g_2))), (a2, .inl (cy 1, 10, .inr (.inl g_5))), (a3, .inl (cy 0, 10, .inl g_6)), (a4, .inl (cy 2, 10, .inl g_7)), (a5, .inl (cy 0, 7, .inl g_3)), (k0, .inr (2, [.ref b1, .ref b2, .ref b3, .ref b4, .ref b5, .int ym, .int yd, .int yr, .int yf])), (b1, .inl (cy 1, 7, .inr (.inl g1))), (b2, .inl (cy 1, 10, .inr (.inl g2))), (b3, .inl (cy 0, 10, .inl g3)), (b4, .inl (cy 2, 10, .inl g4)), (b5, .inl (cy 0, 7, .inl g5))] → va_S A s.heap H locs → ∀ ls : Array Slot, lv_has ls 3 [(0, .ref h0), (1, .ref k0), (2, .int (nI i4))] → W p l e ({ frames := 1, cells := 0, slots := 0, locals := 64 }) s m av9 below meth c H locs 0 0 Q9 (F0 m 72 ls []) := by
        intro n4_
        induction n4_ with
        | zero =>
          intro i4 g_5 g_6 g_7  hn4 H locs hP hD hS ls hl
          obtain rfl : i4 = 10 := by omega
          have hl : lv_has ls 3 [(0, .ref h0), (1, .ref k0), (2, .int 10)] := hl
          have hP : va_P (dC, dI) vwCl [(h0, .inr (2, [.ref a1, .ref a2, .ref a3, .ref a4, .ref a5, .int ym, .int yd, .int yr, .int yf])), (a1, .inl (cy 1, 7, .inr (.inl g_2))), (a2, .inl (cy 1, 10, .inr (.inl g_5))), (a3, .inl (cy 0, 10, .inl g_6)), (a4, .inl (cy 2, 10, .inl g_7)), (a5, .inl (cy 0, 7, .inl g_3)), (k0, .inr (2, [.ref b1, .ref b2, .ref b3, .ref b4, .ref b5, .int ym, .int yd, .int yr, .int yf])), (b1, .inl (cy 1, 7, .inr (.inl g1))), (b2, .inl (cy 1, 10, .inr (.inl g2))), (b3, .inl (cy 0, 10, .inl g3)), (b4, .inl (cy 2, 10, .inl g4)), (b5, .inl (cy 0, 7, .inl g5))] H := hP
          have hD : va_D A [(h0, .inr (2, [.ref a1, .ref a2, .ref a3, .ref a4, .ref a5, .int ym, .int yd, .int yr, .int yf])), (a1, .inl (cy 1, 7, .inr (.inl g_2))), (a2, .inl (cy 1, 10, .inr (.inl g_5))), (a3, .inl (cy 0, 10, .inl g_6)), (a4, .inl (cy 2, 10, .inl g_7)), (a5, .inl (cy 0, 7, .inl g_3)), (k0, .inr (2, [.ref b1, .ref b2, .ref b3, .ref b4, .ref b5, .int ym, .int yd, .int yr, .int yf])), (b1, .inl (cy 1, 7, .inr (.inl g1))), (b2, .inl (cy 1, 10, .inr (.inl g2))), (b3, .inl (cy 0, 10, .inl g3)), (b4, .inl (cy 2, 10, .inl g4)), (b5, .inl (cy 0, 7, .inl g5))] := hD
          refine lv_iload_n hx hb dX1_copyFrom_72 rfl (lv_at hl 2 rfl) ?_
          refine lv_bipush (v := 10) hx hb dX1_copyFrom_73 (by decide) ?_
          refine lv_icmp_ge (tgt := 120) hx hb dX1_copyFrom_75 (by decide) (fun _ => ?_) (fun c9 => absurd (by decide) c9)
          rw [hQ9]
          exact re_v (g_2, g_5, g_6, g_7, g_3) hx hb hr hlocks trivial (hP.sub [0, 1, 2, 3, 4, 5, 6, 7, 8, 9, 10, 11] rfl) (hD.sub [0, 1, 2, 3, 4, 5, 6, 7, 8, 9, 10, 11] rfl rfl) hS dX1_copyFrom_120
        | succ n4_ ih4 =>
          intro i4 g_5 g_6 g_7  hn4 H locs hP hD hS ls hl
          refine lv_iload_n hx hb dX1_copyFrom_72 rfl (lv_at hl 2 rfl) ?_
          refine lv_bipush (v := 10) hx hb dX1_copyFrom_73 (by decide) ?_
          refine lv_icmp_ge (tgt := 120) hx hb dX1_copyFrom_75 (by decide) (fun c9 => absurd c9 (nI_ge (a := i4) (b := 10) (by omega) (by omega))) (fun _ => ?_)
          refine lv_aload_n hx hb dX1_copyFrom_78 rfl (lv_at hl 0 rfl) ?_
          refine gf_X1_15 hx hb hts hown hK hP 0 rfl rfl dX1_copyFrom_79 ?_
          refine lv_iload_n hx hb dX1_copyFrom_82 rfl (lv_at hl 2 rfl) ?_
          refine lv_aload_n hx hb dX1_copyFrom_83 rfl (lv_at hl 1 rfl) ?_
          refine gf_X1_15 hx hb hts hown hK hP 6 rfl rfl dX1_copyFrom_84 ?_
          refine lv_iload_n hx hb dX1_copyFrom_87 rfl (lv_at hl 2 rfl) ?_
          refine va_lald hx hb hK hP 8 1 rfl rfl (vp_in_nI (n := i4) (N := 10) (by omega) (by omega)) dX1_copyFrom_88 ?_
          refine as_l (g2 i4) (congrArg g2 (nI_clamp (n := i4) (by omega))) ?_
          refine va_last hx hb hK hP hD hS 2 1 rfl rfl (vp_in_nI (n := i4) (N := 10) (by omega) (by omega)) dX1_copyFrom_89 (fun H locs hP hD hS => ?_)
          obtain ⟨f_8, ef_8⟩ : ∃ z : Nat → Int64, z = vp_updL g_5 (Int32.toNatClampNeg (nI i4)) (g2 i4) := ⟨_, rfl⟩
          have hP : va_P (dC, dI) vwCl [(h0, .inr (2, [.ref a1, .ref a2, .ref a3, .ref a4, .ref a5, .int ym, .int yd, .int yr, .int yf])), (a1, .inl (cy 1, 7, .inr (.inl g_2))), (a2, .inl (cy 1, 10, .inr (.inl f_8))), (a3, .inl (cy 0, 10, .inl g_6)), (a4, .inl (cy 2, 10, .inl g_7)), (a5, .inl (cy 0, 7, .inl g_3)), (k0, .inr (2, [.ref b1, .ref b2, .ref b3, .ref b4, .ref b5, .int ym, .int yd, .int yr, .int yf])), (b1, .inl (cy 1, 7, .inr (.inl g1))), (b2, .inl (cy 1, 10, .inr (.inl g2))), (b3, .inl (cy 0, 10, .inl g3)), (b4, .inl (cy 2, 10, .inl g4)), (b5, .inl (cy 0, 7, .inl g5))] H := by rw [ef_8]; exact hP
          have hD : va_D A [(h0, .inr (2, [.ref a1, .ref a2, .ref a3, .ref a4, .ref a5, .int ym, .int yd, .int yr, .int yf])), (a1, .inl (cy 1, 7, .inr (.inl g_2))), (a2, .inl (cy 1, 10, .inr (.inl f_8))), (a3, .inl (cy 0, 10, .inl g_6)), (a4, .inl (cy 2, 10, .inl g_7)), (a5, .inl (cy 0, 7, .inl g_3)), (k0, .inr (2, [.ref b1, .ref b2, .ref b3, .ref b4, .ref b5, .int ym, .int yd, .int yr, .int yf])), (b1, .inl (cy 1, 7, .inr (.inl g1))), (b2, .inl (cy 1, 10, .inr (.inl g2))), (b3, .inl (cy 0, 10, .inl g3)), (b4, .inl (cy 2, 10, .inl g4)), (b5, .inl (cy 0, 7, .inl g5))] := by rw [ef_8]; exact hD
          rw [(nI_clamp (n := i4) (by omega))] at ef_8
          refine lv_aload_n hx hb dX1_copyFrom_90 rfl (lv_at hl 0 rfl) ?_
          refine gf_X1_18 hx hb hts hown hK hP 0 rfl rfl dX1_copyFrom_91 ?_
          refine lv_iload_n hx hb dX1_copyFrom_94 rfl (lv_at hl 2 rfl) ?_
          refine lv_aload_n hx hb dX1_copyFrom_95 rfl (lv_at hl 1 rfl) ?_
          refine gf_X1_18 hx hb hts hown hK hP 6 rfl rfl dX1_copyFrom_96 ?_
          refine lv_iload_n hx hb dX1_copyFrom_99 rfl (lv_at hl 2 rfl) ?_
          refine va_iald hx hb hK hP 9 0 rfl rfl (vp_in_nI (n := i4) (N := 10) (by omega) (by omega)) dX1_copyFrom_100 ?_
          refine as_i (g3 i4) (congrArg g3 (nI_clamp (n := i4) (by omega))) ?_
          refine va_iast hx hb hK hP hD hS 3 0 rfl rfl (vp_in_nI (n := i4) (N := 10) (by omega) (by omega)) dX1_copyFrom_101 (fun H locs hP hD hS => ?_)
          obtain ⟨f_9, ef_9⟩ : ∃ z : Nat → Int32, z = upd g_6 (Int32.toNatClampNeg (nI i4)) (g3 i4) := ⟨_, rfl⟩
          have hP : va_P (dC, dI) vwCl [(h0, .inr (2, [.ref a1, .ref a2, .ref a3, .ref a4, .ref a5, .int ym, .int yd, .int yr, .int yf])), (a1, .inl (cy 1, 7, .inr (.inl g_2))), (a2, .inl (cy 1, 10, .inr (.inl f_8))), (a3, .inl (cy 0, 10, .inl f_9)), (a4, .inl (cy 2, 10, .inl g_7)), (a5, .inl (cy 0, 7, .inl g_3)), (k0, .inr (2, [.ref b1, .ref b2, .ref b3, .ref b4, .ref b5, .int ym, .int yd, .int yr, .int yf])), (b1, .inl (cy 1, 7, .inr (.inl g1))), (b2, .inl (cy 1, 10, .inr (.inl g2))), (b3, .inl (cy 0, 10, .inl g3)), (b4, .inl (cy 2, 10, .inl g4)), (b5, .inl (cy 0, 7, .inl g5))] H := by rw [ef_9]; exact hP
          have hD : va_D A [(h0, .inr (2, [.ref a1, .ref a2, .ref a3, .ref a4, .ref a5, .int ym, .int yd, .int yr, .int yf])), (a1, .inl (cy 1, 7, .inr (.inl g_2))), (a2, .inl (cy 1, 10, .inr (.inl f_8))), (a3, .inl (cy 0, 10, .inl f_9)), (a4, .inl (cy 2, 10, .inl g_7)), (a5, .inl (cy 0, 7, .inl g_3)), (k0, .inr (2, [.ref b1, .ref b2, .ref b3, .ref b4, .ref b5, .int ym, .int yd, .int yr, .int yf])), (b1, .inl (cy 1, 7, .inr (.inl g1))), (b2, .inl (cy 1, 10, .inr (.inl g2))), (b3, .inl (cy 0, 10, .inl g3)), (b4, .inl (cy 2, 10, .inl g4)), (b5, .inl (cy 0, 7, .inl g5))] := by rw [ef_9]; exact hD
          rw [(nI_clamp (n := i4) (by omega))] at ef_9
          refine lv_aload_n hx hb dX1_copyFrom_102 rfl (lv_at hl 0 rfl) ?_
          refine gf_X1_22 hx hb hts hown hK hP 0 rfl rfl dX1_copyFrom_103 ?_
          refine lv_iload_n hx hb dX1_copyFrom_106 rfl (lv_at hl 2 rfl) ?_
          refine lv_aload_n hx hb dX1_copyFrom_107 rfl (lv_at hl 1 rfl) ?_
          refine gf_X1_22 hx hb hts hown hK hP 6 rfl rfl dX1_copyFrom_108 ?_
          refine lv_iload_n hx hb dX1_copyFrom_111 rfl (lv_at hl 2 rfl) ?_
          refine va_zald hx hb hK hP 10 2 rfl rfl (vp_in_nI (n := i4) (N := 10) (by omega) (by omega)) dX1_copyFrom_112 ?_
          refine as_i (g4 i4) (congrArg g4 (nI_clamp (n := i4) (by omega))) ?_
          refine va_zast hx hb hK hP hD hS 4 2 rfl rfl (vp_in_nI (n := i4) (N := 10) (by omega) (by omega)) dX1_copyFrom_113 (fun H locs hP hD hS => ?_)
          obtain ⟨f_10, ef_10⟩ : ∃ z : Nat → Int32, z = upd g_7 (Int32.toNatClampNeg (nI i4)) (vp_nar .boolean (g4 i4)) := ⟨_, rfl⟩
          have hP : va_P (dC, dI) vwCl [(h0, .inr (2, [.ref a1, .ref a2, .ref a3, .ref a4, .ref a5, .int ym, .int yd, .int yr, .int yf])), (a1, .inl (cy 1, 7, .inr (.inl g_2))), (a2, .inl (cy 1, 10, .inr (.inl f_8))), (a3, .inl (cy 0, 10, .inl f_9)), (a4, .inl (cy 2, 10, .inl f_10)), (a5, .inl (cy 0, 7, .inl g_3)), (k0, .inr (2, [.ref b1, .ref b2, .ref b3, .ref b4, .ref b5, .int ym, .int yd, .int yr, .int yf])), (b1, .inl (cy 1, 7, .inr (.inl g1))), (b2, .inl (cy 1, 10, .inr (.inl g2))), (b3, .inl (cy 0, 10, .inl g3)), (b4, .inl (cy 2, 10, .inl g4)), (b5, .inl (cy 0, 7, .inl g5))] H := by rw [ef_10]; exact hP
          have hD : va_D A [(h0, .inr (2, [.ref a1, .ref a2, .ref a3, .ref a4, .ref a5, .int ym, .int yd, .int yr, .int yf])), (a1, .inl (cy 1, 7, .inr (.inl g_2))), (a2, .inl (cy 1, 10, .inr (.inl f_8))), (a3, .inl (cy 0, 10, .inl f_9)), (a4, .inl (cy 2, 10, .inl f_10)), (a5, .inl (cy 0, 7, .inl g_3)), (k0, .inr (2, [.ref b1, .ref b2, .ref b3, .ref b4, .ref b5, .int ym, .int yd, .int yr, .int yf])), (b1, .inl (cy 1, 7, .inr (.inl g1))), (b2, .inl (cy 1, 10, .inr (.inl g2))), (b3, .inl (cy 0, 10, .inl g3)), (b4, .inl (cy 2, 10, .inl g4)), (b5, .inl (cy 0, 7, .inl g5))] := by rw [ef_10]; exact hD
          rw [(nI_clamp (n := i4) (by omega))] at ef_10
          refine lv_iinc (v := nI (i4 + 1)) (lv' := [(2, .int (nI (i4 + 1))), (0, .ref h0), (1, .ref k0)]) hx hb dX1_copyFrom_114 hl (k := 2) rfl (nI_add i4 1) (by decide) rfl (fun ls hl => ?_)
          refine lv_goto (tgt := 72) hx hb dX1_copyFrom_117 (by decide) ?_
          exact ih4 (i4 + 1) f_8 f_9 f_10  (by omega) _ _ (hP.sub [0, 1, 2, 3, 4, 5, 6, 7, 8, 9, 10, 11] rfl) (hD.sub [0, 1, 2, 3, 4, 5, 6, 7, 8, 9, 10, 11] rfl rfl) hS ls (lv_sub hl [1, 2, 0] rfl)
      exact loop4 10 0 f2 f3 f4  (by omega) _ _ hP hD hS ls (lv_sub hl [1, 2, 0] rfl)
    | succ n1_ ih1 =>
      intro i1 g_2 g_3  hn1 H locs hP hD hS ls hl
      refine lv_iload_n hx hb dX1_copyFrom_34 rfl (lv_at hl 2 rfl) ?_
      refine lv_bipush (v := 7) hx hb dX1_copyFrom_35 (by decide) ?_
      refine lv_icmp_ge (tgt := 70) hx hb dX1_copyFrom_37 (by decide) (fun c9 => absurd c9 (nI_ge (a := i1) (b := 7) (by omega) (by omega))) (fun _ => ?_)
      refine lv_aload_n hx hb dX1_copyFrom_40 rfl (lv_at hl 0 rfl) ?_
      refine gf_X1_9 hx hb hts hown hK hP 0 rfl rfl dX1_copyFrom_41 ?_
      refine lv_iload_n hx hb dX1_copyFrom_44 rfl (lv_at hl 2 rfl) ?_
      refine lv_aload_n hx hb dX1_copyFrom_45 rfl (lv_at hl 1 rfl) ?_
      refine gf_X1_9 hx hb hts hown hK hP 6 rfl rfl dX1_copyFrom_46 ?_
      refine lv_iload_n hx hb dX1_copyFrom_49 rfl (lv_at hl 2 rfl) ?_
      refine va_lald hx hb hK hP 7 1 rfl rfl (vp_in_nI (n := i1) (N := 7) (by omega) (by omega)) dX1_copyFrom_50 ?_
      refine as_l (g1 i1) (congrArg g1 (nI_clamp (n := i1) (by omega))) ?_
      refine va_last hx hb hK hP hD hS 1 1 rfl rfl (vp_in_nI (n := i1) (N := 7) (by omega) (by omega)) dX1_copyFrom_51 (fun H locs hP hD hS => ?_)
      obtain ⟨f_11, ef_11⟩ : ∃ z : Nat → Int64, z = vp_updL g_2 (Int32.toNatClampNeg (nI i1)) (g1 i1) := ⟨_, rfl⟩
      have hP : va_P (dC, dI) vwCl [(h0, .inr (2, [.ref a1, .ref a2, .ref a3, .ref a4, .ref a5, .int ym, .int yd, .int yr, .int yf])), (a1, .inl (cy 1, 7, .inr (.inl f_11))), (a2, .inl (cy 1, 10, .inr (.inl f2))), (a3, .inl (cy 0, 10, .inl f3)), (a4, .inl (cy 2, 10, .inl f4)), (a5, .inl (cy 0, 7, .inl g_3)), (k0, .inr (2, [.ref b1, .ref b2, .ref b3, .ref b4, .ref b5, .int ym, .int yd, .int yr, .int yf])), (b1, .inl (cy 1, 7, .inr (.inl g1))), (b2, .inl (cy 1, 10, .inr (.inl g2))), (b3, .inl (cy 0, 10, .inl g3)), (b4, .inl (cy 2, 10, .inl g4)), (b5, .inl (cy 0, 7, .inl g5))] H := by rw [ef_11]; exact hP
      have hD : va_D A [(h0, .inr (2, [.ref a1, .ref a2, .ref a3, .ref a4, .ref a5, .int ym, .int yd, .int yr, .int yf])), (a1, .inl (cy 1, 7, .inr (.inl f_11))), (a2, .inl (cy 1, 10, .inr (.inl f2))), (a3, .inl (cy 0, 10, .inl f3)), (a4, .inl (cy 2, 10, .inl f4)), (a5, .inl (cy 0, 7, .inl g_3)), (k0, .inr (2, [.ref b1, .ref b2, .ref b3, .ref b4, .ref b5, .int ym, .int yd, .int yr, .int yf])), (b1, .inl (cy 1, 7, .inr (.inl g1))), (b2, .inl (cy 1, 10, .inr (.inl g2))), (b3, .inl (cy 0, 10, .inl g3)), (b4, .inl (cy 2, 10, .inl g4)), (b5, .inl (cy 0, 7, .inl g5))] := by rw [ef_11]; exact hD
      rw [(nI_clamp (n := i1) (by omega))] at ef_11
      refine lv_aload_n hx hb dX1_copyFrom_52 rfl (lv_at hl 0 rfl) ?_
      refine gf_X1_26 hx hb hts hown hK hP 0 rfl rfl dX1_copyFrom_53 ?_
      refine lv_iload_n hx hb dX1_copyFrom_56 rfl (lv_at hl 2 rfl) ?_
      refine lv_aload_n hx hb dX1_copyFrom_57 rfl (lv_at hl 1 rfl) ?_
      refine gf_X1_26 hx hb hts hown hK hP 6 rfl rfl dX1_copyFrom_58 ?_
      refine lv_iload_n hx hb dX1_copyFrom_61 rfl (lv_at hl 2 rfl) ?_
      refine va_iald hx hb hK hP 11 0 rfl rfl (vp_in_nI (n := i1) (N := 7) (by omega) (by omega)) dX1_copyFrom_62 ?_
      refine as_i (g5 i1) (congrArg g5 (nI_clamp (n := i1) (by omega))) ?_
      refine va_iast hx hb hK hP hD hS 5 0 rfl rfl (vp_in_nI (n := i1) (N := 7) (by omega) (by omega)) dX1_copyFrom_63 (fun H locs hP hD hS => ?_)
      obtain ⟨f_12, ef_12⟩ : ∃ z : Nat → Int32, z = upd g_3 (Int32.toNatClampNeg (nI i1)) (g5 i1) := ⟨_, rfl⟩
      have hP : va_P (dC, dI) vwCl [(h0, .inr (2, [.ref a1, .ref a2, .ref a3, .ref a4, .ref a5, .int ym, .int yd, .int yr, .int yf])), (a1, .inl (cy 1, 7, .inr (.inl f_11))), (a2, .inl (cy 1, 10, .inr (.inl f2))), (a3, .inl (cy 0, 10, .inl f3)), (a4, .inl (cy 2, 10, .inl f4)), (a5, .inl (cy 0, 7, .inl f_12)), (k0, .inr (2, [.ref b1, .ref b2, .ref b3, .ref b4, .ref b5, .int ym, .int yd, .int yr, .int yf])), (b1, .inl (cy 1, 7, .inr (.inl g1))), (b2, .inl (cy 1, 10, .inr (.inl g2))), (b3, .inl (cy 0, 10, .inl g3)), (b4, .inl (cy 2, 10, .inl g4)), (b5, .inl (cy 0, 7, .inl g5))] H := by rw [ef_12]; exact hP
      have hD : va_D A [(h0, .inr (2, [.ref a1, .ref a2, .ref a3, .ref a4, .ref a5, .int ym, .int yd, .int yr, .int yf])), (a1, .inl (cy 1, 7, .inr (.inl f_11))), (a2, .inl (cy 1, 10, .inr (.inl f2))), (a3, .inl (cy 0, 10, .inl f3)), (a4, .inl (cy 2, 10, .inl f4)), (a5, .inl (cy 0, 7, .inl f_12)), (k0, .inr (2, [.ref b1, .ref b2, .ref b3, .ref b4, .ref b5, .int ym, .int yd, .int yr, .int yf])), (b1, .inl (cy 1, 7, .inr (.inl g1))), (b2, .inl (cy 1, 10, .inr (.inl g2))), (b3, .inl (cy 0, 10, .inl g3)), (b4, .inl (cy 2, 10, .inl g4)), (b5, .inl (cy 0, 7, .inl g5))] := by rw [ef_12]; exact hD
      rw [(nI_clamp (n := i1) (by omega))] at ef_12
      refine lv_iinc (v := nI (i1 + 1)) (lv' := [(2, .int (nI (i1 + 1))), (0, .ref h0), (1, .ref k0)]) hx hb dX1_copyFrom_64 hl (k := 2) rfl (nI_add i1 1) (by decide) rfl (fun ls hl => ?_)
      refine lv_goto (tgt := 34) hx hb dX1_copyFrom_67 (by decide) ?_
      exact ih1 (i1 + 1) f_11 f_12  (by omega) _ _ (hP.sub [0, 1, 2, 3, 4, 5, 6, 7, 8, 9, 10, 11] rfl) (hD.sub [0, 1, 2, 3, 4, 5, 6, 7, 8, 9, 10, 11] rfl rfl) hS ls (lv_sub hl [1, 2, 0] rfl)
  exact loop1 7 0 f1 f5  (by omega) _ _ hP hD hS ls (lv_sub hl [1, 2, 0] rfl)
abbrev cX6_copyFrom : ByteArray := prog_8_method_3_code
def yX6_copyFrom : MethodName := ⟨RX6, "copyFrom", "(LLikenessPound$Sentence;)V"⟩
theorem t1304 : Cond.code yX6_copyFrom cX6_copyFrom 2 none ∈ GW := gw_mem 1418 (by decide +kernel) (by decide +kernel)
abbrev O_c_Sen_copy (cy : Nat → ClassId) (h0 : Nat) (a1 : Nat) (a2 : Nat) (a3 : Nat) (a4 : Nat) (x1 : Int32) (x2 : Int32) (f1 : Nat → Int32) (f2 : Nat → Int32) (f3 : Nat → Int32) (k0 : Nat) (b1 : Nat) (b2 : Nat) (b3 : Nat) (b4 : Nat) (y1 : Int32) (y2 : Int32) (g1 : Nat → Int32) (g2 : Nat → Int32) (g3 : Nat → Int32) (u : (Nat → Int32) × (Nat → Int32) × (Nat → Int32)) : va_W := [(h0, .inr (7, [.ref a1, .ref a2, .ref a3, .ref a4, .int y1, .int y2])), (a1, .inl (cy 0, 40, .inl u.1)), (a2, .inl (cy 0, 40, .inl u.2.1)), (a3, .inl (cy 0, 40, .inl u.2.2)), (k0, .inr (7, [.ref b1, .ref b2, .ref b3, .ref b4, .int y1, .int y2])), (b1, .inl (cy 0, 40, .inl g1)), (b2, .inl (cy 0, 40, .inl g2)), (b3, .inl (cy 0, 40, .inl g3))]
theorem dX6_copyFrom_0 : decode cX6_copyFrom 0 = .ok (.aload_n 0, 1) := by decide +kernel
theorem dX6_copyFrom_1 : decode cX6_copyFrom 1 = .ok (.aload_n 1, 1) := by decide +kernel
theorem dX6_copyFrom_2 : decode cX6_copyFrom 2 = .ok (.getfield 24, 3) := by decide +kernel
theorem gf_X6_24 {p : Program} {l : Launch} {e : Env} {R : Room} {s : State} {m : MethodId} {args : Array Value} {below : List Frame} {meth : Method} {c : Code} {H : Heap} {locs : List Loc} {cells slots : Nat} {Q : State → Prop} {cc : ByteArray} {pc : Nat} {ls : Array Slot} {rest : List Value} {D : va_G} {a : Nat} {tys : List (ClassId × FieldType)} {ws : va_W} (hx : p.tables.exec = Jvm.exec) (hb : c.code = cc) (hts : ∀ w ∈ GW, w.before args s = true) (hown : s.vm.findClass RX6 = some m.cls) (hK : va_K D vwCl tys s) (hP : va_P D vwCl ws H) (q0 : Nat) {fs : List Value} (he : ws[q0]? = some (a, .inr (7, fs))) {v : Value} (hv : fs[4]? = some v) (hdg : decode cc pc = .ok (.getfield 24, 3)) (kk : W p l e R s m args below meth c H locs cells slots Q (F0 m (pc + 3) ls (v :: rest))) : W p l e R s m args below meth c H locs cells slots Q (F0 m pc ls (.ref a :: rest)) := va_get (C := RX6) (T := TX6) (N := 6) (ci := 7) hx hb hts inX6 hown hK hP q0 he rfl 4 (by decide) (hts _ t443) (fun _ h => h) hv hdg kk
theorem dX6_copyFrom_5 : decode cX6_copyFrom 5 = .ok (.putfield 24, 3) := by decide +kernel
theorem dX6_copyFrom_8 : decode cX6_copyFrom 8 = .ok (.aload_n 0, 1) := by decide +kernel
theorem dX6_copyFrom_9 : decode cX6_copyFrom 9 = .ok (.aload_n 1, 1) := by decide +kernel
theorem dX6_copyFrom_10 : decode cX6_copyFrom 10 = .ok (.getfield 28, 3) := by decide +kernel
theorem gf_X6_28 {p : Program} {l : Launch} {e : Env} {R : Room} {s : State} {m : MethodId} {args : Array Value} {below : List Frame} {meth : Method} {c : Code} {H : Heap} {locs : List Loc} {cells slots : Nat} {Q : State → Prop} {cc : ByteArray} {pc : Nat} {ls : Array Slot} {rest : List Value} {D : va_G} {a : Nat} {tys : List (ClassId × FieldType)} {ws : va_W} (hx : p.tables.exec = Jvm.exec) (hb : c.code = cc) (hts : ∀ w ∈ GW, w.before args s = true) (hown : s.vm.findClass RX6 = some m.cls) (hK : va_K D vwCl tys s) (hP : va_P D vwCl ws H) (q0 : Nat) {fs : List Value} (he : ws[q0]? = some (a, .inr (7, fs))) {v : Value} (hv : fs[5]? = some v) (hdg : decode cc pc = .ok (.getfield 28, 3)) (kk : W p l e R s m args below meth c H locs cells slots Q (F0 m (pc + 3) ls (v :: rest))) : W p l e R s m args below meth c H locs cells slots Q (F0 m pc ls (.ref a :: rest)) := va_get (C := RX6) (T := TX6) (N := 6) (ci := 7) hx hb hts inX6 hown hK hP q0 he rfl 5 (by decide) (hts _ t444) (fun _ h => h) hv hdg kk
theorem dX6_copyFrom_13 : decode cX6_copyFrom 13 = .ok (.putfield 28, 3) := by decide +kernel
theorem dX6_copyFrom_16 : decode cX6_copyFrom 16 = .ok (.aload_n 1, 1) := by decide +kernel
theorem dX6_copyFrom_17 : decode cX6_copyFrom 17 = .ok (.getfield 11, 3) := by decide +kernel
theorem t439 : Cond.fieldLink RX6 11 "LikenessPound$Sentence" "step" "[I" ∈ GW := gw_mem 553 (by decide +kernel) (by decide +kernel)
theorem gf_X6_11 {p : Program} {l : Launch} {e : Env} {R : Room} {s : State} {m : MethodId} {args : Array Value} {below : List Frame} {meth : Method} {c : Code} {H : Heap} {locs : List Loc} {cells slots : Nat} {Q : State → Prop} {cc : ByteArray} {pc : Nat} {ls : Array Slot} {rest : List Value} {D : va_G} {a : Nat} {tys : List (ClassId × FieldType)} {ws : va_W} (hx : p.tables.exec = Jvm.exec) (hb : c.code = cc) (hts : ∀ w ∈ GW, w.before args s = true) (hown : s.vm.findClass RX6 = some m.cls) (hK : va_K D vwCl tys s) (hP : va_P D vwCl ws H) (q0 : Nat) {fs : List Value} (he : ws[q0]? = some (a, .inr (7, fs))) {v : Value} (hv : fs[0]? = some v) (hdg : decode cc pc = .ok (.getfield 11, 3)) (kk : W p l e R s m args below meth c H locs cells slots Q (F0 m (pc + 3) ls (v :: rest))) : W p l e R s m args below meth c H locs cells slots Q (F0 m pc ls (.ref a :: rest)) := va_get (C := RX6) (T := TX6) (N := 6) (ci := 7) hx hb hts inX6 hown hK hP q0 he rfl 0 (by decide) (hts _ t439) (fun _ h => h) hv hdg kk
theorem dX6_copyFrom_20 : decode cX6_copyFrom 20 = .ok (.iconst 0, 1) := by decide +kernel
theorem dX6_copyFrom_21 : decode cX6_copyFrom 21 = .ok (.aload_n 0, 1) := by decide +kernel
theorem dX6_copyFrom_22 : decode cX6_copyFrom 22 = .ok (.getfield 11, 3) := by decide +kernel
theorem dX6_copyFrom_25 : decode cX6_copyFrom 25 = .ok (.iconst 0, 1) := by decide +kernel
theorem dX6_copyFrom_26 : decode cX6_copyFrom 26 = .ok (.bipush 40, 2) := by decide +kernel
theorem dX6_copyFrom_28 : decode cX6_copyFrom 28 = .ok (.invokestatic 31, 3) := by decide +kernel
theorem t1305 : Cond.methodLink RX6 31 arraycopyName ∈ GW := gw_mem 1419 (by decide +kernel) (by decide +kernel)
theorem dX6_copyFrom_31 : decode cX6_copyFrom 31 = .ok (.aload_n 1, 1) := by decide +kernel
theorem dX6_copyFrom_32 : decode cX6_copyFrom 32 = .ok (.getfield 15, 3) := by decide +kernel
theorem t440 : Cond.fieldLink RX6 15 "LikenessPound$Sentence" "sign" "[I" ∈ GW := gw_mem 554 (by decide +kernel) (by decide +kernel)
theorem gf_X6_15 {p : Program} {l : Launch} {e : Env} {R : Room} {s : State} {m : MethodId} {args : Array Value} {below : List Frame} {meth : Method} {c : Code} {H : Heap} {locs : List Loc} {cells slots : Nat} {Q : State → Prop} {cc : ByteArray} {pc : Nat} {ls : Array Slot} {rest : List Value} {D : va_G} {a : Nat} {tys : List (ClassId × FieldType)} {ws : va_W} (hx : p.tables.exec = Jvm.exec) (hb : c.code = cc) (hts : ∀ w ∈ GW, w.before args s = true) (hown : s.vm.findClass RX6 = some m.cls) (hK : va_K D vwCl tys s) (hP : va_P D vwCl ws H) (q0 : Nat) {fs : List Value} (he : ws[q0]? = some (a, .inr (7, fs))) {v : Value} (hv : fs[1]? = some v) (hdg : decode cc pc = .ok (.getfield 15, 3)) (kk : W p l e R s m args below meth c H locs cells slots Q (F0 m (pc + 3) ls (v :: rest))) : W p l e R s m args below meth c H locs cells slots Q (F0 m pc ls (.ref a :: rest)) := va_get (C := RX6) (T := TX6) (N := 6) (ci := 7) hx hb hts inX6 hown hK hP q0 he rfl 1 (by decide) (hts _ t440) (fun _ h => h) hv hdg kk
theorem dX6_copyFrom_35 : decode cX6_copyFrom 35 = .ok (.iconst 0, 1) := by decide +kernel
theorem dX6_copyFrom_36 : decode cX6_copyFrom 36 = .ok (.aload_n 0, 1) := by decide +kernel
theorem dX6_copyFrom_37 : decode cX6_copyFrom 37 = .ok (.getfield 15, 3) := by decide +kernel
theorem dX6_copyFrom_40 : decode cX6_copyFrom 40 = .ok (.iconst 0, 1) := by decide +kernel
theorem dX6_copyFrom_41 : decode cX6_copyFrom 41 = .ok (.bipush 40, 2) := by decide +kernel
theorem dX6_copyFrom_43 : decode cX6_copyFrom 43 = .ok (.invokestatic 31, 3) := by decide +kernel
theorem dX6_copyFrom_46 : decode cX6_copyFrom 46 = .ok (.aload_n 1, 1) := by decide +kernel
theorem dX6_copyFrom_47 : decode cX6_copyFrom 47 = .ok (.getfield 18, 3) := by decide +kernel
theorem t441 : Cond.fieldLink RX6 18 "LikenessPound$Sentence" "number" "[I" ∈ GW := gw_mem 555 (by decide +kernel) (by decide +kernel)
theorem gf_X6_18 {p : Program} {l : Launch} {e : Env} {R : Room} {s : State} {m : MethodId} {args : Array Value} {below : List Frame} {meth : Method} {c : Code} {H : Heap} {locs : List Loc} {cells slots : Nat} {Q : State → Prop} {cc : ByteArray} {pc : Nat} {ls : Array Slot} {rest : List Value} {D : va_G} {a : Nat} {tys : List (ClassId × FieldType)} {ws : va_W} (hx : p.tables.exec = Jvm.exec) (hb : c.code = cc) (hts : ∀ w ∈ GW, w.before args s = true) (hown : s.vm.findClass RX6 = some m.cls) (hK : va_K D vwCl tys s) (hP : va_P D vwCl ws H) (q0 : Nat) {fs : List Value} (he : ws[q0]? = some (a, .inr (7, fs))) {v : Value} (hv : fs[2]? = some v) (hdg : decode cc pc = .ok (.getfield 18, 3)) (kk : W p l e R s m args below meth c H locs cells slots Q (F0 m (pc + 3) ls (v :: rest))) : W p l e R s m args below meth c H locs cells slots Q (F0 m pc ls (.ref a :: rest)) := va_get (C := RX6) (T := TX6) (N := 6) (ci := 7) hx hb hts inX6 hown hK hP q0 he rfl 2 (by decide) (hts _ t441) (fun _ h => h) hv hdg kk
theorem dX6_copyFrom_50 : decode cX6_copyFrom 50 = .ok (.iconst 0, 1) := by decide +kernel
theorem dX6_copyFrom_51 : decode cX6_copyFrom 51 = .ok (.aload_n 0, 1) := by decide +kernel
theorem dX6_copyFrom_52 : decode cX6_copyFrom 52 = .ok (.getfield 18, 3) := by decide +kernel
theorem dX6_copyFrom_55 : decode cX6_copyFrom 55 = .ok (.iconst 0, 1) := by decide +kernel
theorem dX6_copyFrom_56 : decode cX6_copyFrom 56 = .ok (.bipush 40, 2) := by decide +kernel
theorem dX6_copyFrom_58 : decode cX6_copyFrom 58 = .ok (.invokestatic 31, 3) := by decide +kernel
theorem dX6_copyFrom_61 : decode cX6_copyFrom 61 = .ok (.return_, 1) := by decide +kernel
set_option maxHeartbeats 4000000 in
set_option maxRecDepth 100000 in
theorem c_Sen_copy (l : Launch) (dC : Nat → ClassId) (dI : Nat → Nat → Nat) (cy : Nat → ClassId) (sz : Nat) (h0 : Nat) (a1 : Nat) (a2 : Nat) (a3 : Nat) (a4 : Nat) (x1 : Int32) (x2 : Int32) (f1 : Nat → Int32) (f2 : Nat → Int32) (f3 : Nat → Int32) (k0 : Nat) (b1 : Nat) (b2 : Nat) (b3 : Nat) (b4 : Nat) (y1 : Int32) (y2 : Int32) (g1 : Nat → Int32) (g2 : Nat → Int32) (g3 : Nat → Int32)  : Met l yX6_copyFrom (wl yX6_copyFrom cX6_copyFrom 2 none) ({ frames := 1, cells := 0, slots := 0, locals := 64 }) (Pw (dC, dI) vwCl cy [(h0, .inr (7, [.ref a1, .ref a2, .ref a3, .ref a4, .int x1, .int x2])), (a1, .inl (cy 0, 40, .inl f1)), (a2, .inl (cy 0, 40, .inl f2)), (a3, .inl (cy 0, 40, .inl f3)), (k0, .inr (7, [.ref b1, .ref b2, .ref b3, .ref b4, .int y1, .int y2])), (b1, .inl (cy 0, 40, .inl g1)), (b2, .inl (cy 0, 40, .inl g2)), (b3, .inl (cy 0, 40, .inl g3))] sz [.ref h0, .ref k0] nE) (Qv (dC, dI) vwCl (fun (u : (Nat → Int32) × (Nat → Int32) × (Nat → Int32)) => True) (O_c_Sen_copy cy h0 a1 a2 a3 a4 x1 x2 f1 f2 f3 k0 b1 b2 b3 b4 y1 y2 g1 g2 g3) (va_A [(h0, .inr (7, [.ref a1, .ref a2, .ref a3, .ref a4, .int x1, .int x2])), (a1, .inl (cy 0, 40, .inl f1)), (a2, .inl (cy 0, 40, .inl f2)), (a3, .inl (cy 0, 40, .inl f3)), (k0, .inr (7, [.ref b1, .ref b2, .ref b3, .ref b4, .int y1, .int y2])), (b1, .inl (cy 0, 40, .inl g1)), (b2, .inl (cy 0, 40, .inl g2)), (b3, .inl (cy 0, 40, .inl g3))] sz)) 0 0 (va_A [(h0, .inr (7, [.ref a1, .ref a2, .ref a3, .ref a4, .int x1, .int x2])), (a1, .inl (cy 0, 40, .inl f1)), (a2, .inl (cy 0, 40, .inl f2)), (a3, .inl (cy 0, 40, .inl f3)), (k0, .inr (7, [.ref b1, .ref b2, .ref b3, .ref b4, .int y1, .int y2])), (b1, .inl (cy 0, 40, .inl g1)), (b2, .inl (cy 0, 40, .inl g2)), (b3, .inl (cy 0, 40, .inl g3))] sz) := by
  refine mw (Qc := Qv (dC, dI) vwCl (fun (u : (Nat → Int32) × (Nat → Int32) × (Nat → Int32)) => True) (O_c_Sen_copy cy h0 a1 a2 a3 a4 x1 x2 f1 f2 f3 k0 b1 b2 b3 b4 y1 y2 g1 g2 g3)) RX6 rfl (by decide +kernel) (Nat.le_of_ble_eq_true rfl) ?_
  intro p e s m below meth c A hx hb hr hlocks av9 hav hts hown hnm hml hK hP hD hA hS hE hAe Q9 hQ9 ls hl
  have hl : lv_has ls 2 [(0, .ref h0), (1, .ref k0)] := hl
  refine lv_aload_n hx hb dX6_copyFrom_0 rfl (lv_at hl 0 rfl) ?_
  refine lv_aload_n hx hb dX6_copyFrom_1 rfl (lv_at hl 1 rfl) ?_
  refine gf_X6_24 hx hb hts hown hK hP 4 rfl rfl dX6_copyFrom_2 ?_
  refine pf_X6_24 hx hb hts hown hK hP hD hS 0 rfl rfl rfl (Nat.le_of_ble_eq_true rfl) dX6_copyFrom_5 (fun H locs hP hD hS => ?_)
  have hP : va_P (dC, dI) vwCl [(h0, .inr (7, [.ref a1, .ref a2, .ref a3, .ref a4, .int y1, .int x2])), (a1, .inl (cy 0, 40, .inl f1)), (a2, .inl (cy 0, 40, .inl f2)), (a3, .inl (cy 0, 40, .inl f3)), (k0, .inr (7, [.ref b1, .ref b2, .ref b3, .ref b4, .int y1, .int y2])), (b1, .inl (cy 0, 40, .inl g1)), (b2, .inl (cy 0, 40, .inl g2)), (b3, .inl (cy 0, 40, .inl g3))] H := hP
  have hD : va_D A [(h0, .inr (7, [.ref a1, .ref a2, .ref a3, .ref a4, .int y1, .int x2])), (a1, .inl (cy 0, 40, .inl f1)), (a2, .inl (cy 0, 40, .inl f2)), (a3, .inl (cy 0, 40, .inl f3)), (k0, .inr (7, [.ref b1, .ref b2, .ref b3, .ref b4, .int y1, .int y2])), (b1, .inl (cy 0, 40, .inl g1)), (b2, .inl (cy 0, 40, .inl g2)), (b3, .inl (cy 0, 40, .inl g3))] := hD
  refine lv_aload_n hx hb dX6_copyFrom_8 rfl (lv_at hl 0 rfl) ?_
  refine lv_aload_n hx hb dX6_copyFrom_9 rfl (lv_at hl 1 rfl) ?_
  refine gf_X6_28 hx hb hts hown hK hP 4 rfl rfl dX6_copyFrom_10 ?_
  refine pf_X6_28 hx hb hts hown hK hP hD hS 0 rfl rfl rfl (Nat.le_of_ble_eq_true rfl) dX6_copyFrom_13 (fun H locs hP hD hS => ?_)
  have hP : va_P (dC, dI) vwCl [(h0, .inr (7, [.ref a1, .ref a2, .ref a3, .ref a4, .int y1, .int y2])), (a1, .inl (cy 0, 40, .inl f1)), (a2, .inl (cy 0, 40, .inl f2)), (a3, .inl (cy 0, 40, .inl f3)), (k0, .inr (7, [.ref b1, .ref b2, .ref b3, .ref b4, .int y1, .int y2])), (b1, .inl (cy 0, 40, .inl g1)), (b2, .inl (cy 0, 40, .inl g2)), (b3, .inl (cy 0, 40, .inl g3))] H := hP
  have hD : va_D A [(h0, .inr (7, [.ref a1, .ref a2, .ref a3, .ref a4, .int y1, .int y2])), (a1, .inl (cy 0, 40, .inl f1)), (a2, .inl (cy 0, 40, .inl f2)), (a3, .inl (cy 0, 40, .inl f3)), (k0, .inr (7, [.ref b1, .ref b2, .ref b3, .ref b4, .int y1, .int y2])), (b1, .inl (cy 0, 40, .inl g1)), (b2, .inl (cy 0, 40, .inl g2)), (b3, .inl (cy 0, 40, .inl g3))] := hD
  refine lv_aload_n hx hb dX6_copyFrom_16 rfl (lv_at hl 1 rfl) ?_
  refine gf_X6_11 hx hb hts hown hK hP 4 rfl rfl dX6_copyFrom_17 ?_
  refine lv_iconst (v := 0) hx hb dX6_copyFrom_20 (by decide) ?_
  refine lv_aload_n hx hb dX6_copyFrom_21 rfl (lv_at hl 0 rfl) ?_
  refine gf_X6_11 hx hb hts hown hK hP 0 rfl rfl dX6_copyFrom_22 ?_
  refine lv_iconst (v := 0) hx hb dX6_copyFrom_25 (by decide) ?_
  refine lv_bipush (v := 40) hx hb dX6_copyFrom_26 (by decide) ?_
  refine va_copyi hx hb (by rw [hml, hl.1]) hown (hts _ t1305) (hts _ t769) (hts _ t768) (hts _ t23) hK hP hD hS 5 1 0 0 rfl rfl rfl rfl rfl (by decide) (by decide) (by decide) (by decide) (by decide) (fun _ _ => rfl) (Nat.le_of_ble_eq_true rfl) (Nat.le_of_ble_eq_true rfl) dX6_copyFrom_28 (fun H locs hP hD hS => ?_)
  obtain ⟨f_1, ef_1⟩ : ∃ z : Nat → Int32, z = va_cpy g1 f1 (Int32.toNatClampNeg 0) (Int32.toNatClampNeg 0) (Int32.toNatClampNeg 40) := ⟨_, rfl⟩
  have hP : va_P (dC, dI) vwCl [(h0, .inr (7, [.ref a1, .ref a2, .ref a3, .ref a4, .int y1, .int y2])), (a1, .inl (cy 0, 40, .inl f_1)), (a2, .inl (cy 0, 40, .inl f2)), (a3, .inl (cy 0, 40, .inl f3)), (k0, .inr (7, [.ref b1, .ref b2, .ref b3, .ref b4, .int y1, .int y2])), (b1, .inl (cy 0, 40, .inl g1)), (b2, .inl (cy 0, 40, .inl g2)), (b3, .inl (cy 0, 40, .inl g3))] H := by rw [ef_1]; exact hP
  have hD : va_D A [(h0, .inr (7, [.ref a1, .ref a2, .ref a3, .ref a4, .int y1, .int y2])), (a1, .inl (cy 0, 40, .inl f_1)), (a2, .inl (cy 0, 40, .inl f2)), (a3, .inl (cy 0, 40, .inl f3)), (k0, .inr (7, [.ref b1, .ref b2, .ref b3, .ref b4, .int y1, .int y2])), (b1, .inl (cy 0, 40, .inl g1)), (b2, .inl (cy 0, 40, .inl g2)), (b3, .inl (cy 0, 40, .inl g3))] := by rw [ef_1]; exact hD
  refine lv_aload_n hx hb dX6_copyFrom_31 rfl (lv_at hl 1 rfl) ?_
  refine gf_X6_15 hx hb hts hown hK hP 4 rfl rfl dX6_copyFrom_32 ?_
  refine lv_iconst (v := 0) hx hb dX6_copyFrom_35 (by decide) ?_
  refine lv_aload_n hx hb dX6_copyFrom_36 rfl (lv_at hl 0 rfl) ?_
  refine gf_X6_15 hx hb hts hown hK hP 0 rfl rfl dX6_copyFrom_37 ?_
  refine lv_iconst (v := 0) hx hb dX6_copyFrom_40 (by decide) ?_
  refine lv_bipush (v := 40) hx hb dX6_copyFrom_41 (by decide) ?_
  refine va_copyi hx hb (by rw [hml, hl.1]) hown (hts _ t1305) (hts _ t769) (hts _ t768) (hts _ t23) hK hP hD hS 6 2 0 0 rfl rfl rfl rfl rfl (by decide) (by decide) (by decide) (by decide) (by decide) (fun _ _ => rfl) (Nat.le_of_ble_eq_true rfl) (Nat.le_of_ble_eq_true rfl) dX6_copyFrom_43 (fun H locs hP hD hS => ?_)
  obtain ⟨f_2, ef_2⟩ : ∃ z : Nat → Int32, z = va_cpy g2 f2 (Int32.toNatClampNeg 0) (Int32.toNatClampNeg 0) (Int32.toNatClampNeg 40) := ⟨_, rfl⟩
  have hP : va_P (dC, dI) vwCl [(h0, .inr (7, [.ref a1, .ref a2, .ref a3, .ref a4, .int y1, .int y2])), (a1, .inl (cy 0, 40, .inl f_1)), (a2, .inl (cy 0, 40, .inl f_2)), (a3, .inl (cy 0, 40, .inl f3)), (k0, .inr (7, [.ref b1, .ref b2, .ref b3, .ref b4, .int y1, .int y2])), (b1, .inl (cy 0, 40, .inl g1)), (b2, .inl (cy 0, 40, .inl g2)), (b3, .inl (cy 0, 40, .inl g3))] H := by rw [ef_2]; exact hP
  have hD : va_D A [(h0, .inr (7, [.ref a1, .ref a2, .ref a3, .ref a4, .int y1, .int y2])), (a1, .inl (cy 0, 40, .inl f_1)), (a2, .inl (cy 0, 40, .inl f_2)), (a3, .inl (cy 0, 40, .inl f3)), (k0, .inr (7, [.ref b1, .ref b2, .ref b3, .ref b4, .int y1, .int y2])), (b1, .inl (cy 0, 40, .inl g1)), (b2, .inl (cy 0, 40, .inl g2)), (b3, .inl (cy 0, 40, .inl g3))] := by rw [ef_2]; exact hD
  refine lv_aload_n hx hb dX6_copyFrom_46 rfl (lv_at hl 1 rfl) ?_
  refine gf_X6_18 hx hb hts hown hK hP 4 rfl rfl dX6_copyFrom_47 ?_
  refine lv_iconst (v := 0) hx hb dX6_copyFrom_50 (by decide) ?_
  refine lv_aload_n hx hb dX6_copyFrom_51 rfl (lv_at hl 0 rfl) ?_
  refine gf_X6_18 hx hb hts hown hK hP 0 rfl rfl dX6_copyFrom_52 ?_
  refine lv_iconst (v := 0) hx hb dX6_copyFrom_55 (by decide) ?_
  refine lv_bipush (v := 40) hx hb dX6_copyFrom_56 (by decide) ?_
  refine va_copyi hx hb (by rw [hml, hl.1]) hown (hts _ t1305) (hts _ t769) (hts _ t768) (hts _ t23) hK hP hD hS 7 3 0 0 rfl rfl rfl rfl rfl (by decide) (by decide) (by decide) (by decide) (by decide) (fun _ _ => rfl) (Nat.le_of_ble_eq_true rfl) (Nat.le_of_ble_eq_true rfl) dX6_copyFrom_58 (fun H locs hP hD hS => ?_)
  obtain ⟨f_3, ef_3⟩ : ∃ z : Nat → Int32, z = va_cpy g3 f3 (Int32.toNatClampNeg 0) (Int32.toNatClampNeg 0) (Int32.toNatClampNeg 40) := ⟨_, rfl⟩
  have hP : va_P (dC, dI) vwCl [(h0, .inr (7, [.ref a1, .ref a2, .ref a3, .ref a4, .int y1, .int y2])), (a1, .inl (cy 0, 40, .inl f_1)), (a2, .inl (cy 0, 40, .inl f_2)), (a3, .inl (cy 0, 40, .inl f_3)), (k0, .inr (7, [.ref b1, .ref b2, .ref b3, .ref b4, .int y1, .int y2])), (b1, .inl (cy 0, 40, .inl g1)), (b2, .inl (cy 0, 40, .inl g2)), (b3, .inl (cy 0, 40, .inl g3))] H := by rw [ef_3]; exact hP
  have hD : va_D A [(h0, .inr (7, [.ref a1, .ref a2, .ref a3, .ref a4, .int y1, .int y2])), (a1, .inl (cy 0, 40, .inl f_1)), (a2, .inl (cy 0, 40, .inl f_2)), (a3, .inl (cy 0, 40, .inl f_3)), (k0, .inr (7, [.ref b1, .ref b2, .ref b3, .ref b4, .int y1, .int y2])), (b1, .inl (cy 0, 40, .inl g1)), (b2, .inl (cy 0, 40, .inl g2)), (b3, .inl (cy 0, 40, .inl g3))] := by rw [ef_3]; exact hD
  rw [hQ9]
  exact re_v (f_1, f_2, f_3) hx hb hr hlocks trivial (hP.sub [0, 1, 2, 3, 4, 5, 6, 7] rfl) (hD.sub [0, 1, 2, 3, 4, 5, 6, 7] rfl rfl) hS dX6_copyFrom_61
