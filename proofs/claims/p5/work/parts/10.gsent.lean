def SOK (f g : Nat → Int32) : Prop := ∀ j : Nat, j < 40 → (f j).toInt = 23 → 0 ≤ (g j).toInt ∧ (g j).toInt ≤ 9
theorem SOK.put {f g : Nat → Int32} {k : Nat} {w v : Int32} (h : SOK f g) (hv : w.toInt = 23 → 0 ≤ v.toInt ∧ v.toInt ≤ 9) : SOK (upd f k w) (upd g k v) := by
  intro j hj
  by_cases e : j = k
  · rw [e, pk_us, pk_us]; exact hv
  · rw [pk_un e, pk_un e]; exact h j hj
theorem SOK.cpy {f g f' g' : Nat → Int32} (h : SOK f g) : SOK (va_cpy f f' 0 0 40) (va_cpy g g' 0 0 40) := by
  intro j hj
  have h1 : va_cpy f f' 0 0 40 j = f j := by unfold va_cpy; simp [hj]
  have h2 : va_cpy g g' 0 0 40 j = g j := by unfold va_cpy; simp [hj]
  rw [h1, h2]; exact h j hj
theorem SOK.at {f g : Nat → Int32} (h : SOK f g) {i x y z : Int32} (hi : vp_in i 40) (ex : x = f i.toNatClampNeg) (hx : x.toInt = 23) (hi2 : vp_in y 40) (e : y.toInt = i.toInt) (ez : z = g y.toNatClampNeg) : 0 ≤ z.toInt ∧ z.toInt ≤ 9 := by
  rw [ez, i_eq.mpr e]; exact h _ (vp_cl hi) (by rw [← ex]; exact hx)
abbrev cX6_clear : ByteArray := prog_8_method_2_code
def yX6_clear : MethodName := ⟨RX6, "clear", "()V"⟩
theorem t660 : Cond.code yX6_clear cX6_clear 1 none ∈ GW := gw_mem 774 (by decide +kernel) (by decide +kernel)
abbrev O_g_se_clear (cy : Nat → ClassId) (vz : Nat) (vz1 : Nat) (vz2 : Nat) (vz3 : Nat) (vz4 : Nat) (vzs : Int32) (vzo : Int32) (u : Int32 × Int32) : va_W := [(vz, .inr (7, [.ref vz1, .ref vz2, .ref vz3, .ref vz4, .int u.1, .int u.2]))]
theorem dX6_clear_0 : decode cX6_clear 0 = .ok (.aload_n 0, 1) := by decide +kernel
theorem dX6_clear_1 : decode cX6_clear 1 = .ok (.iconst 0, 1) := by decide +kernel
theorem dX6_clear_2 : decode cX6_clear 2 = .ok (.putfield 24, 3) := by decide +kernel
theorem t443 : Cond.fieldLink RX6 24 "LikenessPound$Sentence" "steps" "I" ∈ GW := gw_mem 557 (by decide +kernel) (by decide +kernel)
theorem pf_X6_24 {p : Program} {l : Launch} {e : Env} {R : Room} {s : State} {m : MethodId} {args : Array Value} {below : List Frame} {meth : Method} {c : Code} {H : Heap} {locs : List Loc} {cells slots : Nat} {Q : State → Prop} {cc : ByteArray} {pc : Nat} {ls : Array Slot} {rest : List Value} {D : va_G} {A : Nat → Prop} {a : Nat} {tys : List (ClassId × FieldType)} {ws : va_W} {H0 : Heap} (hx : p.tables.exec = Jvm.exec) (hb : c.code = cc) (hts : ∀ w ∈ GW, w.before args s = true) (hown : s.vm.findClass RX6 = some m.cls) (hK : va_K D vwCl tys s) (hP : va_P D vwCl ws H) (hD : va_D A ws) (hS0 : va_S A H0 H locs) (q0 : Nat) {fs : List Value} (he : ws[q0]? = some (a, .inr (7, fs))) {v : Value} (hn : narrow (tyX6 4) v = v) (hfit : fits (tyX6 4) v = true) (hl : 4 < fs.length) (hdg : decode cc pc = .ok (.putfield 24, 3)) (kk : ∀ (H1 : Heap) (locs1 : List Loc), va_P D vwCl (ws.set q0 (a, .inr (7, fs.set 4 v))) H1 → va_D A (ws.set q0 (a, .inr (7, fs.set 4 v))) → va_S A H0 H1 locs1 → W p l e R s m args below meth c H1 locs1 cells slots Q (F0 m (pc + 3) ls rest)) : W p l e R s m args below meth c H locs cells slots Q (F0 m pc ls (v :: .ref a :: rest)) := va_put (C := RX6) (T := TX6) (N := 6) (ci := 7) hx hb hts inX6 tyX6 tkX6 nmX6 hown hK hP hD hS0 q0 he rfl 4 (by decide) (hts _ t443) (fun _ h => h) rfl (tkX6 4 (by decide)) hn hfit hl hdg kk
theorem dX6_clear_5 : decode cX6_clear 5 = .ok (.aload_n 0, 1) := by decide +kernel
theorem dX6_clear_6 : decode cX6_clear 6 = .ok (.iconst 0, 1) := by decide +kernel
theorem dX6_clear_7 : decode cX6_clear 7 = .ok (.putfield 28, 3) := by decide +kernel
theorem t444 : Cond.fieldLink RX6 28 "LikenessPound$Sentence" "ones" "I" ∈ GW := gw_mem 558 (by decide +kernel) (by decide +kernel)
theorem pf_X6_28 {p : Program} {l : Launch} {e : Env} {R : Room} {s : State} {m : MethodId} {args : Array Value} {below : List Frame} {meth : Method} {c : Code} {H : Heap} {locs : List Loc} {cells slots : Nat} {Q : State → Prop} {cc : ByteArray} {pc : Nat} {ls : Array Slot} {rest : List Value} {D : va_G} {A : Nat → Prop} {a : Nat} {tys : List (ClassId × FieldType)} {ws : va_W} {H0 : Heap} (hx : p.tables.exec = Jvm.exec) (hb : c.code = cc) (hts : ∀ w ∈ GW, w.before args s = true) (hown : s.vm.findClass RX6 = some m.cls) (hK : va_K D vwCl tys s) (hP : va_P D vwCl ws H) (hD : va_D A ws) (hS0 : va_S A H0 H locs) (q0 : Nat) {fs : List Value} (he : ws[q0]? = some (a, .inr (7, fs))) {v : Value} (hn : narrow (tyX6 5) v = v) (hfit : fits (tyX6 5) v = true) (hl : 5 < fs.length) (hdg : decode cc pc = .ok (.putfield 28, 3)) (kk : ∀ (H1 : Heap) (locs1 : List Loc), va_P D vwCl (ws.set q0 (a, .inr (7, fs.set 5 v))) H1 → va_D A (ws.set q0 (a, .inr (7, fs.set 5 v))) → va_S A H0 H1 locs1 → W p l e R s m args below meth c H1 locs1 cells slots Q (F0 m (pc + 3) ls rest)) : W p l e R s m args below meth c H locs cells slots Q (F0 m pc ls (v :: .ref a :: rest)) := va_put (C := RX6) (T := TX6) (N := 6) (ci := 7) hx hb hts inX6 tyX6 tkX6 nmX6 hown hK hP hD hS0 q0 he rfl 5 (by decide) (hts _ t444) (fun _ h => h) rfl (tkX6 5 (by decide)) hn hfit hl hdg kk
theorem dX6_clear_10 : decode cX6_clear 10 = .ok (.return_, 1) := by decide +kernel
set_option maxHeartbeats 4000000 in
set_option maxRecDepth 100000 in
theorem g_se_clear (l : Launch) (dC : Nat → ClassId) (dI : Nat → Nat → Nat) (cy : Nat → ClassId) (sz : Nat) (vz : Nat) (vz1 : Nat) (vz2 : Nat) (vz3 : Nat) (vz4 : Nat) (vzs : Int32) (vzo : Int32)  : Met l yX6_clear (wl yX6_clear cX6_clear 1 none) ({ frames := 0, cells := 0, slots := 0, locals := 0 }) (Pw (dC, dI) vwCl cy [(vz, .inr (7, [.ref vz1, .ref vz2, .ref vz3, .ref vz4, .int vzs, .int vzo]))] sz [.ref vz] nE) (Qv (dC, dI) vwCl (fun (u : Int32 × Int32) => (0 ≤ (u.1 : Int32).toInt ∧ (u.1 : Int32).toInt ≤ 0) ∧ (0 ≤ (u.2 : Int32).toInt ∧ (u.2 : Int32).toInt ≤ 0)) (O_g_se_clear cy vz vz1 vz2 vz3 vz4 vzs vzo) (va_A [(vz, .inr (7, [.ref vz1, .ref vz2, .ref vz3, .ref vz4, .int vzs, .int vzo]))] sz)) 0 0 (va_A [(vz, .inr (7, [.ref vz1, .ref vz2, .ref vz3, .ref vz4, .int vzs, .int vzo]))] sz) := by
  refine mw (Qc := Qv (dC, dI) vwCl (fun (u : Int32 × Int32) => (0 ≤ (u.1 : Int32).toInt ∧ (u.1 : Int32).toInt ≤ 0) ∧ (0 ≤ (u.2 : Int32).toInt ∧ (u.2 : Int32).toInt ≤ 0)) (O_g_se_clear cy vz vz1 vz2 vz3 vz4 vzs vzo)) RX6 rfl (by decide +kernel) (Nat.le_of_ble_eq_true rfl) ?_
  intro p e s m below meth c A hx hb hr hlocks av9 hav hts hown hnm hml hK hP hD hA hS hE hAe Q9 hQ9 ls hl
  have hl : lv_has ls 1 [(0, .ref vz)] := hl
  refine lv_aload_n hx hb dX6_clear_0 rfl (lv_at hl 0 rfl) ?_
  refine lv_iconst (v := 0) hx hb dX6_clear_1 (by decide) ?_
  refine pf_X6_24 hx hb hts hown hK hP hD hS 0 rfl rfl rfl (Nat.le_of_ble_eq_true rfl) dX6_clear_2 (fun H locs hP hD hS => ?_)
  have hP : va_P (dC, dI) vwCl [(vz, .inr (7, [.ref vz1, .ref vz2, .ref vz3, .ref vz4, .int 0, .int vzo]))] H := hP
  have hD : va_D A [(vz, .inr (7, [.ref vz1, .ref vz2, .ref vz3, .ref vz4, .int 0, .int vzo]))] := hD
  refine lv_aload_n hx hb dX6_clear_5 rfl (lv_at hl 0 rfl) ?_
  refine lv_iconst (v := 0) hx hb dX6_clear_6 (by decide) ?_
  refine pf_X6_28 hx hb hts hown hK hP hD hS 0 rfl rfl rfl (Nat.le_of_ble_eq_true rfl) dX6_clear_7 (fun H locs hP hD hS => ?_)
  have hP : va_P (dC, dI) vwCl [(vz, .inr (7, [.ref vz1, .ref vz2, .ref vz3, .ref vz4, .int 0, .int 0]))] H := hP
  have hD : va_D A [(vz, .inr (7, [.ref vz1, .ref vz2, .ref vz3, .ref vz4, .int 0, .int 0]))] := hD
  have k_0 : (0 : Int32).toInt = 0 := by decide
  rw [hQ9]
  exact re_v ((0 : Int32), (0 : Int32)) hx hb hr hlocks ⟨(show 0 ≤ (0 : Int32).toInt ∧ (0 : Int32).toInt ≤ 0 from ⟨by omega, by omega⟩), (show 0 ≤ (0 : Int32).toInt ∧ (0 : Int32).toInt ≤ 0 from ⟨by omega, by omega⟩)⟩ (hP.sub [0] rfl) (hD.sub [0] rfl rfl) hS dX6_clear_10
abbrev cX6_put : ByteArray := prog_8_method_12_code
def yX6_put : MethodName := ⟨RX6, "put", "(III)Z"⟩
theorem t1287 : Cond.code yX6_put cX6_put 4 (some .boolean) ∈ GW := gw_mem 1401 (by decide +kernel) (by decide +kernel)
abbrev O_g_se_put (cy : Nat → ClassId) (vz : Nat) (vz1 : Nat) (vz2 : Nat) (vz3 : Nat) (vz4 : Nat) (vzs : Int32) (vzo : Int32) (vzf1 : Nat → Int32) (vzf2 : Nat → Int32) (vzf3 : Nat → Int32) (vwo : Int32) (vcp : Int32) (vva : Int32) (u : (Nat → Int32) × (Nat → Int32) × (Nat → Int32) × Int32) : va_W := [(vz, .inr (7, [.ref vz1, .ref vz2, .ref vz3, .ref vz4, .int u.2.2.2, .int vzo])), (vz1, .inl (cy 0, 40, .inl u.1)), (vz2, .inl (cy 0, 40, .inl u.2.1)), (vz3, .inl (cy 0, 40, .inl u.2.2.1))]
theorem dX6_put_0 : decode cX6_put 0 = .ok (.aload_n 0, 1) := by decide +kernel
theorem dX6_put_1 : decode cX6_put 1 = .ok (.getfield 24, 3) := by decide +kernel
theorem gf_X6_24 {p : Program} {l : Launch} {e : Env} {R : Room} {s : State} {m : MethodId} {args : Array Value} {below : List Frame} {meth : Method} {c : Code} {H : Heap} {locs : List Loc} {cells slots : Nat} {Q : State → Prop} {cc : ByteArray} {pc : Nat} {ls : Array Slot} {rest : List Value} {D : va_G} {a : Nat} {tys : List (ClassId × FieldType)} {ws : va_W} (hx : p.tables.exec = Jvm.exec) (hb : c.code = cc) (hts : ∀ w ∈ GW, w.before args s = true) (hown : s.vm.findClass RX6 = some m.cls) (hK : va_K D vwCl tys s) (hP : va_P D vwCl ws H) (q0 : Nat) {fs : List Value} (he : ws[q0]? = some (a, .inr (7, fs))) {v : Value} (hv : fs[4]? = some v) (hdg : decode cc pc = .ok (.getfield 24, 3)) (kk : W p l e R s m args below meth c H locs cells slots Q (F0 m (pc + 3) ls (v :: rest))) : W p l e R s m args below meth c H locs cells slots Q (F0 m pc ls (.ref a :: rest)) := va_get (C := RX6) (T := TX6) (N := 6) (ci := 7) hx hb hts inX6 hown hK hP q0 he rfl 4 (by decide) (hts _ t443) (fun _ h => h) hv hdg kk
theorem dX6_put_4 : decode cX6_put 4 = .ok (.bipush 40, 2) := by decide +kernel
theorem dX6_put_6 : decode cX6_put 6 = .ok (.if_icmp .ge 43, 3) := by decide +kernel
theorem dX6_put_49 : decode cX6_put 49 = .ok (.iconst 1, 1) := by decide +kernel
theorem dX6_put_50 : decode cX6_put 50 = .ok (.ireturn, 1) := by decide +kernel
theorem dX6_put_9 : decode cX6_put 9 = .ok (.aload_n 0, 1) := by decide +kernel
theorem dX6_put_10 : decode cX6_put 10 = .ok (.getfield 11, 3) := by decide +kernel
theorem t439 : Cond.fieldLink RX6 11 "LikenessPound$Sentence" "step" "[I" ∈ GW := gw_mem 553 (by decide +kernel) (by decide +kernel)
theorem gf_X6_11 {p : Program} {l : Launch} {e : Env} {R : Room} {s : State} {m : MethodId} {args : Array Value} {below : List Frame} {meth : Method} {c : Code} {H : Heap} {locs : List Loc} {cells slots : Nat} {Q : State → Prop} {cc : ByteArray} {pc : Nat} {ls : Array Slot} {rest : List Value} {D : va_G} {a : Nat} {tys : List (ClassId × FieldType)} {ws : va_W} (hx : p.tables.exec = Jvm.exec) (hb : c.code = cc) (hts : ∀ w ∈ GW, w.before args s = true) (hown : s.vm.findClass RX6 = some m.cls) (hK : va_K D vwCl tys s) (hP : va_P D vwCl ws H) (q0 : Nat) {fs : List Value} (he : ws[q0]? = some (a, .inr (7, fs))) {v : Value} (hv : fs[0]? = some v) (hdg : decode cc pc = .ok (.getfield 11, 3)) (kk : W p l e R s m args below meth c H locs cells slots Q (F0 m (pc + 3) ls (v :: rest))) : W p l e R s m args below meth c H locs cells slots Q (F0 m pc ls (.ref a :: rest)) := va_get (C := RX6) (T := TX6) (N := 6) (ci := 7) hx hb hts inX6 hown hK hP q0 he rfl 0 (by decide) (hts _ t439) (fun _ h => h) hv hdg kk
theorem dX6_put_13 : decode cX6_put 13 = .ok (.aload_n 0, 1) := by decide +kernel
theorem dX6_put_14 : decode cX6_put 14 = .ok (.getfield 24, 3) := by decide +kernel
theorem dX6_put_17 : decode cX6_put 17 = .ok (.iload_n 1, 1) := by decide +kernel
theorem dX6_put_18 : decode cX6_put 18 = .ok (.iastore, 1) := by decide +kernel
theorem dX6_put_19 : decode cX6_put 19 = .ok (.aload_n 0, 1) := by decide +kernel
theorem dX6_put_20 : decode cX6_put 20 = .ok (.getfield 15, 3) := by decide +kernel
theorem t440 : Cond.fieldLink RX6 15 "LikenessPound$Sentence" "sign" "[I" ∈ GW := gw_mem 554 (by decide +kernel) (by decide +kernel)
theorem gf_X6_15 {p : Program} {l : Launch} {e : Env} {R : Room} {s : State} {m : MethodId} {args : Array Value} {below : List Frame} {meth : Method} {c : Code} {H : Heap} {locs : List Loc} {cells slots : Nat} {Q : State → Prop} {cc : ByteArray} {pc : Nat} {ls : Array Slot} {rest : List Value} {D : va_G} {a : Nat} {tys : List (ClassId × FieldType)} {ws : va_W} (hx : p.tables.exec = Jvm.exec) (hb : c.code = cc) (hts : ∀ w ∈ GW, w.before args s = true) (hown : s.vm.findClass RX6 = some m.cls) (hK : va_K D vwCl tys s) (hP : va_P D vwCl ws H) (q0 : Nat) {fs : List Value} (he : ws[q0]? = some (a, .inr (7, fs))) {v : Value} (hv : fs[1]? = some v) (hdg : decode cc pc = .ok (.getfield 15, 3)) (kk : W p l e R s m args below meth c H locs cells slots Q (F0 m (pc + 3) ls (v :: rest))) : W p l e R s m args below meth c H locs cells slots Q (F0 m pc ls (.ref a :: rest)) := va_get (C := RX6) (T := TX6) (N := 6) (ci := 7) hx hb hts inX6 hown hK hP q0 he rfl 1 (by decide) (hts _ t440) (fun _ h => h) hv hdg kk
theorem dX6_put_23 : decode cX6_put 23 = .ok (.aload_n 0, 1) := by decide +kernel
theorem dX6_put_24 : decode cX6_put 24 = .ok (.getfield 24, 3) := by decide +kernel
theorem dX6_put_27 : decode cX6_put 27 = .ok (.iload_n 2, 1) := by decide +kernel
theorem dX6_put_28 : decode cX6_put 28 = .ok (.iastore, 1) := by decide +kernel
theorem dX6_put_29 : decode cX6_put 29 = .ok (.aload_n 0, 1) := by decide +kernel
theorem dX6_put_30 : decode cX6_put 30 = .ok (.getfield 18, 3) := by decide +kernel
theorem t441 : Cond.fieldLink RX6 18 "LikenessPound$Sentence" "number" "[I" ∈ GW := gw_mem 555 (by decide +kernel) (by decide +kernel)
theorem gf_X6_18 {p : Program} {l : Launch} {e : Env} {R : Room} {s : State} {m : MethodId} {args : Array Value} {below : List Frame} {meth : Method} {c : Code} {H : Heap} {locs : List Loc} {cells slots : Nat} {Q : State → Prop} {cc : ByteArray} {pc : Nat} {ls : Array Slot} {rest : List Value} {D : va_G} {a : Nat} {tys : List (ClassId × FieldType)} {ws : va_W} (hx : p.tables.exec = Jvm.exec) (hb : c.code = cc) (hts : ∀ w ∈ GW, w.before args s = true) (hown : s.vm.findClass RX6 = some m.cls) (hK : va_K D vwCl tys s) (hP : va_P D vwCl ws H) (q0 : Nat) {fs : List Value} (he : ws[q0]? = some (a, .inr (7, fs))) {v : Value} (hv : fs[2]? = some v) (hdg : decode cc pc = .ok (.getfield 18, 3)) (kk : W p l e R s m args below meth c H locs cells slots Q (F0 m (pc + 3) ls (v :: rest))) : W p l e R s m args below meth c H locs cells slots Q (F0 m pc ls (.ref a :: rest)) := va_get (C := RX6) (T := TX6) (N := 6) (ci := 7) hx hb hts inX6 hown hK hP q0 he rfl 2 (by decide) (hts _ t441) (fun _ h => h) hv hdg kk
theorem dX6_put_33 : decode cX6_put 33 = .ok (.aload_n 0, 1) := by decide +kernel
theorem dX6_put_34 : decode cX6_put 34 = .ok (.getfield 24, 3) := by decide +kernel
theorem dX6_put_37 : decode cX6_put 37 = .ok (.iload_n 3, 1) := by decide +kernel
theorem dX6_put_38 : decode cX6_put 38 = .ok (.iastore, 1) := by decide +kernel
theorem dX6_put_39 : decode cX6_put 39 = .ok (.aload_n 0, 1) := by decide +kernel
theorem dX6_put_40 : decode cX6_put 40 = .ok (.dup, 1) := by decide +kernel
theorem dX6_put_41 : decode cX6_put 41 = .ok (.getfield 24, 3) := by decide +kernel
theorem dX6_put_44 : decode cX6_put 44 = .ok (.iconst 1, 1) := by decide +kernel
theorem dX6_put_45 : decode cX6_put 45 = .ok (.iadd, 1) := by decide +kernel
theorem dX6_put_46 : decode cX6_put 46 = .ok (.putfield 24, 3) := by decide +kernel
set_option maxHeartbeats 4000000 in
set_option maxRecDepth 100000 in
theorem g_se_put (l : Launch) (dC : Nat → ClassId) (dI : Nat → Nat → Nat) (cy : Nat → ClassId) (sz : Nat) (vz : Nat) (vz1 : Nat) (vz2 : Nat) (vz3 : Nat) (vz4 : Nat) (vzs : Int32) (vzo : Int32) (vzf1 : Nat → Int32) (vzf2 : Nat → Int32) (vzf3 : Nat → Int32) (vwo : Int32) (vcp : Int32) (vva : Int32) (r_vzs : 0 ≤ (vzs : Int32).toInt ∧ (vzs : Int32).toInt ≤ 40) (hs : SOK vzf1 vzf3) (hv : (vwo : Int32).toInt = 23 → 0 ≤ (vva : Int32).toInt ∧ (vva : Int32).toInt ≤ 9) : Met l yX6_put (wl yX6_put cX6_put 4 (some .boolean)) ({ frames := 0, cells := 0, slots := 0, locals := 0 }) (Pw (dC, dI) vwCl cy [(vz, .inr (7, [.ref vz1, .ref vz2, .ref vz3, .ref vz4, .int vzs, .int vzo])), (vz1, .inl (cy 0, 40, .inl vzf1)), (vz2, .inl (cy 0, 40, .inl vzf2)), (vz3, .inl (cy 0, 40, .inl vzf3))] sz [.ref vz, .int vwo, .int vcp, .int vva] nE) (Qi (dC, dI) vwCl (fun (r : Int32) (u : (Nat → Int32) × (Nat → Int32) × (Nat → Int32) × Int32) => ((r = 1)) ∧ (0 ≤ (u.2.2.2 : Int32).toInt ∧ (u.2.2.2 : Int32).toInt ≤ 40) ∧ (SOK u.1 u.2.2.1)) (O_g_se_put cy vz vz1 vz2 vz3 vz4 vzs vzo vzf1 vzf2 vzf3 vwo vcp vva) (va_A [(vz, .inr (7, [.ref vz1, .ref vz2, .ref vz3, .ref vz4, .int vzs, .int vzo])), (vz1, .inl (cy 0, 40, .inl vzf1)), (vz2, .inl (cy 0, 40, .inl vzf2)), (vz3, .inl (cy 0, 40, .inl vzf3))] sz)) 0 0 (va_A [(vz, .inr (7, [.ref vz1, .ref vz2, .ref vz3, .ref vz4, .int vzs, .int vzo])), (vz1, .inl (cy 0, 40, .inl vzf1)), (vz2, .inl (cy 0, 40, .inl vzf2)), (vz3, .inl (cy 0, 40, .inl vzf3))] sz) := by
  refine mw (Qc := Qi (dC, dI) vwCl (fun (r : Int32) (u : (Nat → Int32) × (Nat → Int32) × (Nat → Int32) × Int32) => ((r = 1)) ∧ (0 ≤ (u.2.2.2 : Int32).toInt ∧ (u.2.2.2 : Int32).toInt ≤ 40) ∧ (SOK u.1 u.2.2.1)) (O_g_se_put cy vz vz1 vz2 vz3 vz4 vzs vzo vzf1 vzf2 vzf3 vwo vcp vva)) RX6 rfl (by decide +kernel) (Nat.le_of_ble_eq_true rfl) ?_
  intro p e s m below meth c A hx hb hr hlocks av9 hav hts hown hnm hml hK hP hD hA hS hE hAe Q9 hQ9 ls hl
  have hl : lv_has ls 4 [(0, .ref vz), (1, .int vwo), (2, .int vcp), (3, .int vva)] := hl
  refine lv_aload_n hx hb dX6_put_0 rfl (lv_at hl 0 rfl) ?_
  refine gf_X6_24 hx hb hts hown hK hP 0 rfl rfl dX6_put_1 ?_
  refine lv_bipush (v := 40) hx hb dX6_put_4 (by decide) ?_
  have k_40 : (40 : Int32).toInt = 40 := by decide
  refine lv_icmp_ge (tgt := 49) hx hb dX6_put_6 (by decide) (fun c_1 => ?_) (fun c_1 => ?_)
  · skip
    have c_1 : (40 : Int32).toInt ≤ vzs.toInt := i_le.mp c_1
    refine lv_iconst (v := 1) hx hb dX6_put_49 (by decide) ?_
    have k_1 : (1 : Int32).toInt = 1 := by decide
    rw [hQ9]
    exact re_z (vzf1, vzf2, vzf3, vzs) hx hb hr hlocks (Or.inr rfl) ⟨(show ((1 : Int32) = 1) from (rfl)), (show 0 ≤ (vzs : Int32).toInt ∧ (vzs : Int32).toInt ≤ 40 from ⟨by omega, by omega⟩), (show SOK vzf1 vzf3 from hs)⟩ (hP.sub [0, 1, 2, 3] rfl) (hD.sub [0, 1, 2, 3] rfl rfl) hS dX6_put_50
  · skip
    have c_1 : ¬ ((40 : Int32).toInt ≤ vzs.toInt) := fun h9 => c_1 (i_le.mpr h9)
    refine lv_aload_n hx hb dX6_put_9 rfl (lv_at hl 0 rfl) ?_
    refine gf_X6_11 hx hb hts hown hK hP 0 rfl rfl dX6_put_10 ?_
    refine lv_aload_n hx hb dX6_put_13 rfl (lv_at hl 0 rfl) ?_
    refine gf_X6_24 hx hb hts hown hK hP 0 rfl rfl dX6_put_14 ?_
    refine lv_iload_n hx hb dX6_put_17 rfl (lv_at hl 1 rfl) ?_
    have hin_2 : vp_in vzs 40 := vp_in_iff.mpr ⟨by omega, by omega⟩
    refine va_iast hx hb hK hP hD hS 1 0 rfl rfl hin_2 dX6_put_18 (fun H locs hP hD hS => ?_)
    obtain ⟨f_3, ef_3⟩ : ∃ z : Nat → Int32, z = upd vzf1 (Int32.toNatClampNeg vzs) vwo := ⟨_, rfl⟩
    have hP : va_P (dC, dI) vwCl [(vz, .inr (7, [.ref vz1, .ref vz2, .ref vz3, .ref vz4, .int vzs, .int vzo])), (vz1, .inl (cy 0, 40, .inl f_3)), (vz2, .inl (cy 0, 40, .inl vzf2)), (vz3, .inl (cy 0, 40, .inl vzf3))] H := by rw [ef_3]; exact hP
    have hD : va_D A [(vz, .inr (7, [.ref vz1, .ref vz2, .ref vz3, .ref vz4, .int vzs, .int vzo])), (vz1, .inl (cy 0, 40, .inl f_3)), (vz2, .inl (cy 0, 40, .inl vzf2)), (vz3, .inl (cy 0, 40, .inl vzf3))] := by rw [ef_3]; exact hD
    refine lv_aload_n hx hb dX6_put_19 rfl (lv_at hl 0 rfl) ?_
    refine gf_X6_15 hx hb hts hown hK hP 0 rfl rfl dX6_put_20 ?_
    refine lv_aload_n hx hb dX6_put_23 rfl (lv_at hl 0 rfl) ?_
    refine gf_X6_24 hx hb hts hown hK hP 0 rfl rfl dX6_put_24 ?_
    refine lv_iload_n hx hb dX6_put_27 rfl (lv_at hl 2 rfl) ?_
    have hin_4 : vp_in vzs 40 := vp_in_iff.mpr ⟨by omega, by omega⟩
    refine va_iast hx hb hK hP hD hS 2 0 rfl rfl hin_4 dX6_put_28 (fun H locs hP hD hS => ?_)
    obtain ⟨f_5, ef_5⟩ : ∃ z : Nat → Int32, z = upd vzf2 (Int32.toNatClampNeg vzs) vcp := ⟨_, rfl⟩
    have hP : va_P (dC, dI) vwCl [(vz, .inr (7, [.ref vz1, .ref vz2, .ref vz3, .ref vz4, .int vzs, .int vzo])), (vz1, .inl (cy 0, 40, .inl f_3)), (vz2, .inl (cy 0, 40, .inl f_5)), (vz3, .inl (cy 0, 40, .inl vzf3))] H := by rw [ef_5]; exact hP
    have hD : va_D A [(vz, .inr (7, [.ref vz1, .ref vz2, .ref vz3, .ref vz4, .int vzs, .int vzo])), (vz1, .inl (cy 0, 40, .inl f_3)), (vz2, .inl (cy 0, 40, .inl f_5)), (vz3, .inl (cy 0, 40, .inl vzf3))] := by rw [ef_5]; exact hD
    refine lv_aload_n hx hb dX6_put_29 rfl (lv_at hl 0 rfl) ?_
    refine gf_X6_18 hx hb hts hown hK hP 0 rfl rfl dX6_put_30 ?_
    refine lv_aload_n hx hb dX6_put_33 rfl (lv_at hl 0 rfl) ?_
    refine gf_X6_24 hx hb hts hown hK hP 0 rfl rfl dX6_put_34 ?_
    refine lv_iload_n hx hb dX6_put_37 rfl (lv_at hl 3 rfl) ?_
    have hin_6 : vp_in vzs 40 := vp_in_iff.mpr ⟨by omega, by omega⟩
    refine va_iast hx hb hK hP hD hS 3 0 rfl rfl hin_6 dX6_put_38 (fun H locs hP hD hS => ?_)
    obtain ⟨f_7, ef_7⟩ : ∃ z : Nat → Int32, z = upd vzf3 (Int32.toNatClampNeg vzs) vva := ⟨_, rfl⟩
    have hP : va_P (dC, dI) vwCl [(vz, .inr (7, [.ref vz1, .ref vz2, .ref vz3, .ref vz4, .int vzs, .int vzo])), (vz1, .inl (cy 0, 40, .inl f_3)), (vz2, .inl (cy 0, 40, .inl f_5)), (vz3, .inl (cy 0, 40, .inl f_7))] H := by rw [ef_7]; exact hP
    have hD : va_D A [(vz, .inr (7, [.ref vz1, .ref vz2, .ref vz3, .ref vz4, .int vzs, .int vzo])), (vz1, .inl (cy 0, 40, .inl f_3)), (vz2, .inl (cy 0, 40, .inl f_5)), (vz3, .inl (cy 0, 40, .inl f_7))] := by rw [ef_7]; exact hD
    refine lv_aload_n hx hb dX6_put_39 rfl (lv_at hl 0 rfl) ?_
    refine lv_dup hx hb dX6_put_40 rfl ?_
    refine gf_X6_24 hx hb hts hown hK hP 0 rfl rfl dX6_put_41 ?_
    refine lv_iconst (v := 1) hx hb dX6_put_44 (by decide) ?_
    refine lv_iadd hx hb dX6_put_45 ?_
    refine lv_topi (fun z_8 ez_8 => ?_)
    have k_1 : (1 : Int32).toInt = 1 := by decide
    have bz_8 : z_8.toInt = vzs.toInt + (1 : Int32).toInt := i_add ez_8 (by omega) (by omega)
    refine pf_X6_24 hx hb hts hown hK hP hD hS 0 rfl rfl rfl (Nat.le_of_ble_eq_true rfl) dX6_put_46 (fun H locs hP hD hS => ?_)
    have hP : va_P (dC, dI) vwCl [(vz, .inr (7, [.ref vz1, .ref vz2, .ref vz3, .ref vz4, .int z_8, .int vzo])), (vz1, .inl (cy 0, 40, .inl f_3)), (vz2, .inl (cy 0, 40, .inl f_5)), (vz3, .inl (cy 0, 40, .inl f_7))] H := hP
    have hD : va_D A [(vz, .inr (7, [.ref vz1, .ref vz2, .ref vz3, .ref vz4, .int z_8, .int vzo])), (vz1, .inl (cy 0, 40, .inl f_3)), (vz2, .inl (cy 0, 40, .inl f_5)), (vz3, .inl (cy 0, 40, .inl f_7))] := hD
    refine lv_iconst (v := 1) hx hb dX6_put_49 (by decide) ?_
    rw [hQ9]
    exact re_z (f_3, f_5, f_7, z_8) hx hb hr hlocks (Or.inr rfl) ⟨(show ((1 : Int32) = 1) from (rfl)), (show 0 ≤ (z_8 : Int32).toInt ∧ (z_8 : Int32).toInt ≤ 40 from ⟨by omega, by omega⟩), (show SOK f_3 f_7 from (by rw [ef_3, ef_7]; exact SOK.put hs hv))⟩ (hP.sub [0, 1, 2, 3] rfl) (hD.sub [0, 1, 2, 3] rfl rfl) hS dX6_put_50
abbrev cX6_copyFrom : ByteArray := prog_8_method_3_code
def yX6_copyFrom : MethodName := ⟨RX6, "copyFrom", "(LLikenessPound$Sentence;)V"⟩
theorem t1304 : Cond.code yX6_copyFrom cX6_copyFrom 2 none ∈ GW := gw_mem 1418 (by decide +kernel) (by decide +kernel)
abbrev O_g_se_copy (cy : Nat → ClassId) (vz : Nat) (vz1 : Nat) (vz2 : Nat) (vz3 : Nat) (vz4 : Nat) (vzs : Int32) (vzo : Int32) (vzf1 : Nat → Int32) (vzf2 : Nat → Int32) (vzf3 : Nat → Int32) (vk : Nat) (vk1 : Nat) (vk2 : Nat) (vk3 : Nat) (vk4 : Nat) (vks : Int32) (vko : Int32) (vkf1 : Nat → Int32) (vkf2 : Nat → Int32) (vkf3 : Nat → Int32) (u : (Nat → Int32) × (Nat → Int32) × (Nat → Int32) × Int32 × Int32) : va_W := [(vz, .inr (7, [.ref vz1, .ref vz2, .ref vz3, .ref vz4, .int u.2.2.2.1, .int u.2.2.2.2])), (vz1, .inl (cy 0, 40, .inl u.1)), (vz2, .inl (cy 0, 40, .inl u.2.1)), (vz3, .inl (cy 0, 40, .inl u.2.2.1)), (vk, .inr (7, [.ref vk1, .ref vk2, .ref vk3, .ref vk4, .int vks, .int vko])), (vk1, .inl (cy 0, 40, .inl vkf1)), (vk2, .inl (cy 0, 40, .inl vkf2)), (vk3, .inl (cy 0, 40, .inl vkf3))]
theorem dX6_copyFrom_0 : decode cX6_copyFrom 0 = .ok (.aload_n 0, 1) := by decide +kernel
theorem dX6_copyFrom_1 : decode cX6_copyFrom 1 = .ok (.aload_n 1, 1) := by decide +kernel
theorem dX6_copyFrom_2 : decode cX6_copyFrom 2 = .ok (.getfield 24, 3) := by decide +kernel
theorem dX6_copyFrom_5 : decode cX6_copyFrom 5 = .ok (.putfield 24, 3) := by decide +kernel
theorem dX6_copyFrom_8 : decode cX6_copyFrom 8 = .ok (.aload_n 0, 1) := by decide +kernel
theorem dX6_copyFrom_9 : decode cX6_copyFrom 9 = .ok (.aload_n 1, 1) := by decide +kernel
theorem dX6_copyFrom_10 : decode cX6_copyFrom 10 = .ok (.getfield 28, 3) := by decide +kernel
theorem gf_X6_28 {p : Program} {l : Launch} {e : Env} {R : Room} {s : State} {m : MethodId} {args : Array Value} {below : List Frame} {meth : Method} {c : Code} {H : Heap} {locs : List Loc} {cells slots : Nat} {Q : State → Prop} {cc : ByteArray} {pc : Nat} {ls : Array Slot} {rest : List Value} {D : va_G} {a : Nat} {tys : List (ClassId × FieldType)} {ws : va_W} (hx : p.tables.exec = Jvm.exec) (hb : c.code = cc) (hts : ∀ w ∈ GW, w.before args s = true) (hown : s.vm.findClass RX6 = some m.cls) (hK : va_K D vwCl tys s) (hP : va_P D vwCl ws H) (q0 : Nat) {fs : List Value} (he : ws[q0]? = some (a, .inr (7, fs))) {v : Value} (hv : fs[5]? = some v) (hdg : decode cc pc = .ok (.getfield 28, 3)) (kk : W p l e R s m args below meth c H locs cells slots Q (F0 m (pc + 3) ls (v :: rest))) : W p l e R s m args below meth c H locs cells slots Q (F0 m pc ls (.ref a :: rest)) := va_get (C := RX6) (T := TX6) (N := 6) (ci := 7) hx hb hts inX6 hown hK hP q0 he rfl 5 (by decide) (hts _ t444) (fun _ h => h) hv hdg kk
theorem dX6_copyFrom_13 : decode cX6_copyFrom 13 = .ok (.putfield 28, 3) := by decide +kernel
theorem dX6_copyFrom_16 : decode cX6_copyFrom 16 = .ok (.aload_n 1, 1) := by decide +kernel
theorem dX6_copyFrom_17 : decode cX6_copyFrom 17 = .ok (.getfield 11, 3) := by decide +kernel
theorem dX6_copyFrom_20 : decode cX6_copyFrom 20 = .ok (.iconst 0, 1) := by decide +kernel
theorem dX6_copyFrom_21 : decode cX6_copyFrom 21 = .ok (.aload_n 0, 1) := by decide +kernel
theorem dX6_copyFrom_22 : decode cX6_copyFrom 22 = .ok (.getfield 11, 3) := by decide +kernel
theorem dX6_copyFrom_25 : decode cX6_copyFrom 25 = .ok (.iconst 0, 1) := by decide +kernel
theorem dX6_copyFrom_26 : decode cX6_copyFrom 26 = .ok (.bipush 40, 2) := by decide +kernel
theorem dX6_copyFrom_28 : decode cX6_copyFrom 28 = .ok (.invokestatic 31, 3) := by decide +kernel
theorem t1305 : Cond.methodLink RX6 31 arraycopyName ∈ GW := gw_mem 1419 (by decide +kernel) (by decide +kernel)
theorem dX6_copyFrom_31 : decode cX6_copyFrom 31 = .ok (.aload_n 1, 1) := by decide +kernel
theorem dX6_copyFrom_32 : decode cX6_copyFrom 32 = .ok (.getfield 15, 3) := by decide +kernel
theorem dX6_copyFrom_35 : decode cX6_copyFrom 35 = .ok (.iconst 0, 1) := by decide +kernel
theorem dX6_copyFrom_36 : decode cX6_copyFrom 36 = .ok (.aload_n 0, 1) := by decide +kernel
theorem dX6_copyFrom_37 : decode cX6_copyFrom 37 = .ok (.getfield 15, 3) := by decide +kernel
theorem dX6_copyFrom_40 : decode cX6_copyFrom 40 = .ok (.iconst 0, 1) := by decide +kernel
theorem dX6_copyFrom_41 : decode cX6_copyFrom 41 = .ok (.bipush 40, 2) := by decide +kernel
theorem dX6_copyFrom_43 : decode cX6_copyFrom 43 = .ok (.invokestatic 31, 3) := by decide +kernel
theorem dX6_copyFrom_46 : decode cX6_copyFrom 46 = .ok (.aload_n 1, 1) := by decide +kernel
theorem dX6_copyFrom_47 : decode cX6_copyFrom 47 = .ok (.getfield 18, 3) := by decide +kernel
theorem dX6_copyFrom_50 : decode cX6_copyFrom 50 = .ok (.iconst 0, 1) := by decide +kernel
theorem dX6_copyFrom_51 : decode cX6_copyFrom 51 = .ok (.aload_n 0, 1) := by decide +kernel
theorem dX6_copyFrom_52 : decode cX6_copyFrom 52 = .ok (.getfield 18, 3) := by decide +kernel
theorem dX6_copyFrom_55 : decode cX6_copyFrom 55 = .ok (.iconst 0, 1) := by decide +kernel
theorem dX6_copyFrom_56 : decode cX6_copyFrom 56 = .ok (.bipush 40, 2) := by decide +kernel
theorem dX6_copyFrom_58 : decode cX6_copyFrom 58 = .ok (.invokestatic 31, 3) := by decide +kernel
theorem dX6_copyFrom_61 : decode cX6_copyFrom 61 = .ok (.return_, 1) := by decide +kernel
set_option maxHeartbeats 4000000 in
set_option maxRecDepth 100000 in
theorem g_se_copy (l : Launch) (dC : Nat → ClassId) (dI : Nat → Nat → Nat) (cy : Nat → ClassId) (sz : Nat) (vz : Nat) (vz1 : Nat) (vz2 : Nat) (vz3 : Nat) (vz4 : Nat) (vzs : Int32) (vzo : Int32) (vzf1 : Nat → Int32) (vzf2 : Nat → Int32) (vzf3 : Nat → Int32) (vk : Nat) (vk1 : Nat) (vk2 : Nat) (vk3 : Nat) (vk4 : Nat) (vks : Int32) (vko : Int32) (vkf1 : Nat → Int32) (vkf2 : Nat → Int32) (vkf3 : Nat → Int32) (r_vks : 0 ≤ (vks : Int32).toInt ∧ (vks : Int32).toInt ≤ 40) (hs : SOK vkf1 vkf3) : Met l yX6_copyFrom (wl yX6_copyFrom cX6_copyFrom 2 none) ({ frames := 1, cells := 0, slots := 0, locals := 64 }) (Pw (dC, dI) vwCl cy [(vz, .inr (7, [.ref vz1, .ref vz2, .ref vz3, .ref vz4, .int vzs, .int vzo])), (vz1, .inl (cy 0, 40, .inl vzf1)), (vz2, .inl (cy 0, 40, .inl vzf2)), (vz3, .inl (cy 0, 40, .inl vzf3)), (vk, .inr (7, [.ref vk1, .ref vk2, .ref vk3, .ref vk4, .int vks, .int vko])), (vk1, .inl (cy 0, 40, .inl vkf1)), (vk2, .inl (cy 0, 40, .inl vkf2)), (vk3, .inl (cy 0, 40, .inl vkf3))] sz [.ref vz, .ref vk] nE) (Qv (dC, dI) vwCl (fun (u : (Nat → Int32) × (Nat → Int32) × (Nat → Int32) × Int32 × Int32) => (0 ≤ (u.2.2.2.1 : Int32).toInt ∧ (u.2.2.2.1 : Int32).toInt ≤ 40) ∧ (SOK u.1 u.2.2.1)) (O_g_se_copy cy vz vz1 vz2 vz3 vz4 vzs vzo vzf1 vzf2 vzf3 vk vk1 vk2 vk3 vk4 vks vko vkf1 vkf2 vkf3) (va_A [(vz, .inr (7, [.ref vz1, .ref vz2, .ref vz3, .ref vz4, .int vzs, .int vzo])), (vz1, .inl (cy 0, 40, .inl vzf1)), (vz2, .inl (cy 0, 40, .inl vzf2)), (vz3, .inl (cy 0, 40, .inl vzf3)), (vk, .inr (7, [.ref vk1, .ref vk2, .ref vk3, .ref vk4, .int vks, .int vko])), (vk1, .inl (cy 0, 40, .inl vkf1)), (vk2, .inl (cy 0, 40, .inl vkf2)), (vk3, .inl (cy 0, 40, .inl vkf3))] sz)) 0 0 (va_A [(vz, .inr (7, [.ref vz1, .ref vz2, .ref vz3, .ref vz4, .int vzs, .int vzo])), (vz1, .inl (cy 0, 40, .inl vzf1)), (vz2, .inl (cy 0, 40, .inl vzf2)), (vz3, .inl (cy 0, 40, .inl vzf3)), (vk, .inr (7, [.ref vk1, .ref vk2, .ref vk3, .ref vk4, .int vks, .int vko])), (vk1, .inl (cy 0, 40, .inl vkf1)), (vk2, .inl (cy 0, 40, .inl vkf2)), (vk3, .inl (cy 0, 40, .inl vkf3))] sz) := by
  refine mw (Qc := Qv (dC, dI) vwCl (fun (u : (Nat → Int32) × (Nat → Int32) × (Nat → Int32) × Int32 × Int32) => (0 ≤ (u.2.2.2.1 : Int32).toInt ∧ (u.2.2.2.1 : Int32).toInt ≤ 40) ∧ (SOK u.1 u.2.2.1)) (O_g_se_copy cy vz vz1 vz2 vz3 vz4 vzs vzo vzf1 vzf2 vzf3 vk vk1 vk2 vk3 vk4 vks vko vkf1 vkf2 vkf3)) RX6 rfl (by decide +kernel) (Nat.le_of_ble_eq_true rfl) ?_
  intro p e s m below meth c A hx hb hr hlocks av9 hav hts hown hnm hml hK hP hD hA hS hE hAe Q9 hQ9 ls hl
  have hl : lv_has ls 2 [(0, .ref vz), (1, .ref vk)] := hl
  refine lv_aload_n hx hb dX6_copyFrom_0 rfl (lv_at hl 0 rfl) ?_
  refine lv_aload_n hx hb dX6_copyFrom_1 rfl (lv_at hl 1 rfl) ?_
  refine gf_X6_24 hx hb hts hown hK hP 4 rfl rfl dX6_copyFrom_2 ?_
  refine pf_X6_24 hx hb hts hown hK hP hD hS 0 rfl rfl rfl (Nat.le_of_ble_eq_true rfl) dX6_copyFrom_5 (fun H locs hP hD hS => ?_)
  have hP : va_P (dC, dI) vwCl [(vz, .inr (7, [.ref vz1, .ref vz2, .ref vz3, .ref vz4, .int vks, .int vzo])), (vz1, .inl (cy 0, 40, .inl vzf1)), (vz2, .inl (cy 0, 40, .inl vzf2)), (vz3, .inl (cy 0, 40, .inl vzf3)), (vk, .inr (7, [.ref vk1, .ref vk2, .ref vk3, .ref vk4, .int vks, .int vko])), (vk1, .inl (cy 0, 40, .inl vkf1)), (vk2, .inl (cy 0, 40, .inl vkf2)), (vk3, .inl (cy 0, 40, .inl vkf3))] H := hP
  have hD : va_D A [(vz, .inr (7, [.ref vz1, .ref vz2, .ref vz3, .ref vz4, .int vks, .int vzo])), (vz1, .inl (cy 0, 40, .inl vzf1)), (vz2, .inl (cy 0, 40, .inl vzf2)), (vz3, .inl (cy 0, 40, .inl vzf3)), (vk, .inr (7, [.ref vk1, .ref vk2, .ref vk3, .ref vk4, .int vks, .int vko])), (vk1, .inl (cy 0, 40, .inl vkf1)), (vk2, .inl (cy 0, 40, .inl vkf2)), (vk3, .inl (cy 0, 40, .inl vkf3))] := hD
  refine lv_aload_n hx hb dX6_copyFrom_8 rfl (lv_at hl 0 rfl) ?_
  refine lv_aload_n hx hb dX6_copyFrom_9 rfl (lv_at hl 1 rfl) ?_
  refine gf_X6_28 hx hb hts hown hK hP 4 rfl rfl dX6_copyFrom_10 ?_
  refine pf_X6_28 hx hb hts hown hK hP hD hS 0 rfl rfl rfl (Nat.le_of_ble_eq_true rfl) dX6_copyFrom_13 (fun H locs hP hD hS => ?_)
  have hP : va_P (dC, dI) vwCl [(vz, .inr (7, [.ref vz1, .ref vz2, .ref vz3, .ref vz4, .int vks, .int vko])), (vz1, .inl (cy 0, 40, .inl vzf1)), (vz2, .inl (cy 0, 40, .inl vzf2)), (vz3, .inl (cy 0, 40, .inl vzf3)), (vk, .inr (7, [.ref vk1, .ref vk2, .ref vk3, .ref vk4, .int vks, .int vko])), (vk1, .inl (cy 0, 40, .inl vkf1)), (vk2, .inl (cy 0, 40, .inl vkf2)), (vk3, .inl (cy 0, 40, .inl vkf3))] H := hP
  have hD : va_D A [(vz, .inr (7, [.ref vz1, .ref vz2, .ref vz3, .ref vz4, .int vks, .int vko])), (vz1, .inl (cy 0, 40, .inl vzf1)), (vz2, .inl (cy 0, 40, .inl vzf2)), (vz3, .inl (cy 0, 40, .inl vzf3)), (vk, .inr (7, [.ref vk1, .ref vk2, .ref vk3, .ref vk4, .int vks, .int vko])), (vk1, .inl (cy 0, 40, .inl vkf1)), (vk2, .inl (cy 0, 40, .inl vkf2)), (vk3, .inl (cy 0, 40, .inl vkf3))] := hD
  refine lv_aload_n hx hb dX6_copyFrom_16 rfl (lv_at hl 1 rfl) ?_
  refine gf_X6_11 hx hb hts hown hK hP 4 rfl rfl dX6_copyFrom_17 ?_
  refine lv_iconst (v := 0) hx hb dX6_copyFrom_20 (by decide) ?_
  refine lv_aload_n hx hb dX6_copyFrom_21 rfl (lv_at hl 0 rfl) ?_
  refine gf_X6_11 hx hb hts hown hK hP 0 rfl rfl dX6_copyFrom_22 ?_
  refine lv_iconst (v := 0) hx hb dX6_copyFrom_25 (by decide) ?_
  refine lv_bipush (v := 40) hx hb dX6_copyFrom_26 (by decide) ?_
  refine va_copyi hx hb (by rw [hml, hl.1]) hown (hts _ t1305) (hts _ t769) (hts _ t768) (hts _ t23) hK hP hD hS 5 1 0 0 rfl rfl rfl rfl rfl (by decide) (by decide) (by decide) (by decide) (by decide) (fun _ _ => rfl) (Nat.le_of_ble_eq_true rfl) (Nat.le_of_ble_eq_true rfl) dX6_copyFrom_28 (fun H locs hP hD hS => ?_)
  obtain ⟨f_1, ef_1⟩ : ∃ z : Nat → Int32, z = va_cpy vkf1 vzf1 (Int32.toNatClampNeg 0) (Int32.toNatClampNeg 0) (Int32.toNatClampNeg 40) := ⟨_, rfl⟩
  have hP : va_P (dC, dI) vwCl [(vz, .inr (7, [.ref vz1, .ref vz2, .ref vz3, .ref vz4, .int vks, .int vko])), (vz1, .inl (cy 0, 40, .inl f_1)), (vz2, .inl (cy 0, 40, .inl vzf2)), (vz3, .inl (cy 0, 40, .inl vzf3)), (vk, .inr (7, [.ref vk1, .ref vk2, .ref vk3, .ref vk4, .int vks, .int vko])), (vk1, .inl (cy 0, 40, .inl vkf1)), (vk2, .inl (cy 0, 40, .inl vkf2)), (vk3, .inl (cy 0, 40, .inl vkf3))] H := by rw [ef_1]; exact hP
  have hD : va_D A [(vz, .inr (7, [.ref vz1, .ref vz2, .ref vz3, .ref vz4, .int vks, .int vko])), (vz1, .inl (cy 0, 40, .inl f_1)), (vz2, .inl (cy 0, 40, .inl vzf2)), (vz3, .inl (cy 0, 40, .inl vzf3)), (vk, .inr (7, [.ref vk1, .ref vk2, .ref vk3, .ref vk4, .int vks, .int vko])), (vk1, .inl (cy 0, 40, .inl vkf1)), (vk2, .inl (cy 0, 40, .inl vkf2)), (vk3, .inl (cy 0, 40, .inl vkf3))] := by rw [ef_1]; exact hD
  refine lv_aload_n hx hb dX6_copyFrom_31 rfl (lv_at hl 1 rfl) ?_
  refine gf_X6_15 hx hb hts hown hK hP 4 rfl rfl dX6_copyFrom_32 ?_
  refine lv_iconst (v := 0) hx hb dX6_copyFrom_35 (by decide) ?_
  refine lv_aload_n hx hb dX6_copyFrom_36 rfl (lv_at hl 0 rfl) ?_
  refine gf_X6_15 hx hb hts hown hK hP 0 rfl rfl dX6_copyFrom_37 ?_
  refine lv_iconst (v := 0) hx hb dX6_copyFrom_40 (by decide) ?_
  refine lv_bipush (v := 40) hx hb dX6_copyFrom_41 (by decide) ?_
  refine va_copyi hx hb (by rw [hml, hl.1]) hown (hts _ t1305) (hts _ t769) (hts _ t768) (hts _ t23) hK hP hD hS 6 2 0 0 rfl rfl rfl rfl rfl (by decide) (by decide) (by decide) (by decide) (by decide) (fun _ _ => rfl) (Nat.le_of_ble_eq_true rfl) (Nat.le_of_ble_eq_true rfl) dX6_copyFrom_43 (fun H locs hP hD hS => ?_)
  obtain ⟨f_2, ef_2⟩ : ∃ z : Nat → Int32, z = va_cpy vkf2 vzf2 (Int32.toNatClampNeg 0) (Int32.toNatClampNeg 0) (Int32.toNatClampNeg 40) := ⟨_, rfl⟩
  have hP : va_P (dC, dI) vwCl [(vz, .inr (7, [.ref vz1, .ref vz2, .ref vz3, .ref vz4, .int vks, .int vko])), (vz1, .inl (cy 0, 40, .inl f_1)), (vz2, .inl (cy 0, 40, .inl f_2)), (vz3, .inl (cy 0, 40, .inl vzf3)), (vk, .inr (7, [.ref vk1, .ref vk2, .ref vk3, .ref vk4, .int vks, .int vko])), (vk1, .inl (cy 0, 40, .inl vkf1)), (vk2, .inl (cy 0, 40, .inl vkf2)), (vk3, .inl (cy 0, 40, .inl vkf3))] H := by rw [ef_2]; exact hP
  have hD : va_D A [(vz, .inr (7, [.ref vz1, .ref vz2, .ref vz3, .ref vz4, .int vks, .int vko])), (vz1, .inl (cy 0, 40, .inl f_1)), (vz2, .inl (cy 0, 40, .inl f_2)), (vz3, .inl (cy 0, 40, .inl vzf3)), (vk, .inr (7, [.ref vk1, .ref vk2, .ref vk3, .ref vk4, .int vks, .int vko])), (vk1, .inl (cy 0, 40, .inl vkf1)), (vk2, .inl (cy 0, 40, .inl vkf2)), (vk3, .inl (cy 0, 40, .inl vkf3))] := by rw [ef_2]; exact hD
  refine lv_aload_n hx hb dX6_copyFrom_46 rfl (lv_at hl 1 rfl) ?_
  refine gf_X6_18 hx hb hts hown hK hP 4 rfl rfl dX6_copyFrom_47 ?_
  refine lv_iconst (v := 0) hx hb dX6_copyFrom_50 (by decide) ?_
  refine lv_aload_n hx hb dX6_copyFrom_51 rfl (lv_at hl 0 rfl) ?_
  refine gf_X6_18 hx hb hts hown hK hP 0 rfl rfl dX6_copyFrom_52 ?_
  refine lv_iconst (v := 0) hx hb dX6_copyFrom_55 (by decide) ?_
  refine lv_bipush (v := 40) hx hb dX6_copyFrom_56 (by decide) ?_
  refine va_copyi hx hb (by rw [hml, hl.1]) hown (hts _ t1305) (hts _ t769) (hts _ t768) (hts _ t23) hK hP hD hS 7 3 0 0 rfl rfl rfl rfl rfl (by decide) (by decide) (by decide) (by decide) (by decide) (fun _ _ => rfl) (Nat.le_of_ble_eq_true rfl) (Nat.le_of_ble_eq_true rfl) dX6_copyFrom_58 (fun H locs hP hD hS => ?_)
  obtain ⟨f_3, ef_3⟩ : ∃ z : Nat → Int32, z = va_cpy vkf3 vzf3 (Int32.toNatClampNeg 0) (Int32.toNatClampNeg 0) (Int32.toNatClampNeg 40) := ⟨_, rfl⟩
  have hP : va_P (dC, dI) vwCl [(vz, .inr (7, [.ref vz1, .ref vz2, .ref vz3, .ref vz4, .int vks, .int vko])), (vz1, .inl (cy 0, 40, .inl f_1)), (vz2, .inl (cy 0, 40, .inl f_2)), (vz3, .inl (cy 0, 40, .inl f_3)), (vk, .inr (7, [.ref vk1, .ref vk2, .ref vk3, .ref vk4, .int vks, .int vko])), (vk1, .inl (cy 0, 40, .inl vkf1)), (vk2, .inl (cy 0, 40, .inl vkf2)), (vk3, .inl (cy 0, 40, .inl vkf3))] H := by rw [ef_3]; exact hP
  have hD : va_D A [(vz, .inr (7, [.ref vz1, .ref vz2, .ref vz3, .ref vz4, .int vks, .int vko])), (vz1, .inl (cy 0, 40, .inl f_1)), (vz2, .inl (cy 0, 40, .inl f_2)), (vz3, .inl (cy 0, 40, .inl f_3)), (vk, .inr (7, [.ref vk1, .ref vk2, .ref vk3, .ref vk4, .int vks, .int vko])), (vk1, .inl (cy 0, 40, .inl vkf1)), (vk2, .inl (cy 0, 40, .inl vkf2)), (vk3, .inl (cy 0, 40, .inl vkf3))] := by rw [ef_3]; exact hD
  rw [hQ9]
  exact re_v (f_1, f_2, f_3, vks, vko) hx hb hr hlocks ⟨(show 0 ≤ (vks : Int32).toInt ∧ (vks : Int32).toInt ≤ 40 from ⟨by omega, by omega⟩), (show SOK f_1 f_3 from (by rw [ef_1, ef_3]; exact SOK.cpy hs))⟩ (hP.sub [0, 1, 2, 3, 4, 5, 6, 7] rfl) (hD.sub [0, 1, 2, 3, 4, 5, 6, 7] rfl rfl) hS dX6_copyFrom_61
abbrev cX6_beginsOne : ByteArray := prog_8_method_8_code
def yX6_beginsOne : MethodName := ⟨RX6, "beginsOne", "(I)Z"⟩
theorem t1280 : Cond.code yX6_beginsOne cX6_beginsOne 1 (some .boolean) ∈ GW := gw_mem 1394 (by decide +kernel) (by decide +kernel)
theorem dX6_beginsOne_0 : decode cX6_beginsOne 0 = .ok (.iload_n 0, 1) := by decide +kernel
theorem dX6_beginsOne_1 : decode cX6_beginsOne 1 = .ok (.bipush 8, 2) := by decide +kernel
theorem dX6_beginsOne_3 : decode cX6_beginsOne 3 = .ok (.if_icmp .eq 9, 3) := by decide +kernel
theorem dX6_beginsOne_12 : decode cX6_beginsOne 12 = .ok (.iconst 1, 1) := by decide +kernel
theorem dX6_beginsOne_13 : decode cX6_beginsOne 13 = .ok (.goto 4, 3) := by decide +kernel
theorem dX6_beginsOne_17 : decode cX6_beginsOne 17 = .ok (.ireturn, 1) := by decide +kernel
theorem dX6_beginsOne_6 : decode cX6_beginsOne 6 = .ok (.iload_n 0, 1) := by decide +kernel
theorem dX6_beginsOne_7 : decode cX6_beginsOne 7 = .ok (.bipush 18, 2) := by decide +kernel
theorem dX6_beginsOne_9 : decode cX6_beginsOne 9 = .ok (.if_icmp .lt 7, 3) := by decide +kernel
theorem dX6_beginsOne_16 : decode cX6_beginsOne 16 = .ok (.iconst 0, 1) := by decide +kernel
abbrev cX6_isCompared : ByteArray := prog_8_method_9_code
def yX6_isCompared : MethodName := ⟨RX6, "isCompared", "(I)Z"⟩
theorem t1296 : Cond.code yX6_isCompared cX6_isCompared 1 (some .boolean) ∈ GW := gw_mem 1410 (by decide +kernel) (by decide +kernel)
theorem dX6_isCompared_0 : decode cX6_isCompared 0 = .ok (.iload_n 0, 1) := by decide +kernel
theorem dX6_isCompared_1 : decode cX6_isCompared 1 = .ok (.bipush 25, 2) := by decide +kernel
theorem dX6_isCompared_3 : decode cX6_isCompared 3 = .ok (.if_icmp .eq 21, 3) := by decide +kernel
theorem dX6_isCompared_24 : decode cX6_isCompared 24 = .ok (.iconst 1, 1) := by decide +kernel
theorem dX6_isCompared_25 : decode cX6_isCompared 25 = .ok (.goto 4, 3) := by decide +kernel
theorem dX6_isCompared_29 : decode cX6_isCompared 29 = .ok (.ireturn, 1) := by decide +kernel
theorem dX6_isCompared_6 : decode cX6_isCompared 6 = .ok (.iload_n 0, 1) := by decide +kernel
theorem dX6_isCompared_7 : decode cX6_isCompared 7 = .ok (.bipush 26, 2) := by decide +kernel
theorem dX6_isCompared_9 : decode cX6_isCompared 9 = .ok (.if_icmp .eq 15, 3) := by decide +kernel
theorem dX6_isCompared_12 : decode cX6_isCompared 12 = .ok (.iload_n 0, 1) := by decide +kernel
theorem dX6_isCompared_13 : decode cX6_isCompared 13 = .ok (.bipush 27, 2) := by decide +kernel
theorem dX6_isCompared_15 : decode cX6_isCompared 15 = .ok (.if_icmp .eq 9, 3) := by decide +kernel
theorem dX6_isCompared_18 : decode cX6_isCompared 18 = .ok (.iload_n 0, 1) := by decide +kernel
theorem dX6_isCompared_19 : decode cX6_isCompared 19 = .ok (.bipush 28, 2) := by decide +kernel
theorem dX6_isCompared_21 : decode cX6_isCompared 21 = .ok (.if_icmp .ne 7, 3) := by decide +kernel
theorem dX6_isCompared_28 : decode cX6_isCompared 28 = .ok (.iconst 0, 1) := by decide +kernel
abbrev cX6_readNamed : ByteArray := prog_8_method_10_code
def yX6_readNamed : MethodName := ⟨RX6, "readNamed", "(IILLikenessPound$Tape;)Z"⟩
theorem t1292 : Cond.code yX6_readNamed cX6_readNamed 4 (some .boolean) ∈ GW := gw_mem 1406 (by decide +kernel) (by decide +kernel)
theorem dX6_readNamed_0 : decode cX6_readNamed 0 = .ok (.iload_n 2, 1) := by decide +kernel
theorem dX6_readNamed_1 : decode cX6_readNamed 1 = .ok (.iconst (-1), 1) := by decide +kernel
theorem dX6_readNamed_2 : decode cX6_readNamed 2 = .ok (.if_icmp .ne 5, 3) := by decide +kernel
theorem dX6_readNamed_7 : decode cX6_readNamed 7 = .ok (.aload_n 3, 1) := by decide +kernel
theorem dX6_readNamed_8 : decode cX6_readNamed 8 = .ok (.invokevirtual 63, 3) := by decide +kernel
theorem t1282 : Cond.methodLink RX6 63 yX8_advance ∈ GW := gw_mem 1396 (by decide +kernel) (by decide +kernel)
theorem cw_X6_63 {R : Room} {s : State} {args : Array Value} {rm : Room} {mc ms : Nat} (hts : ∀ w ∈ GW, w.before args s = true) (hrc : rm.cells = mc) (hrs : rm.slots = ms) (hR : rm.frames + 1 ≤ R.frames ∧ 8 + (1 + 11) + rm.locals ≤ R.locals) : CallW R s args RX6 RX8 63 yX8_advance cX8_advance 1 none (wl yX8_advance cX8_advance 1 none) rm mc ms 0 := cwV 0 hts (gi_V t1282 t559 t560 t2 t561) rfl hrc hrs (by decide +kernel) hR
theorem dX6_readNamed_11 : decode cX6_readNamed 11 = .ok (.aload_n 0, 1) := by decide +kernel
theorem dX6_readNamed_12 : decode cX6_readNamed 12 = .ok (.iload_n 1, 1) := by decide +kernel
theorem dX6_readNamed_13 : decode cX6_readNamed 13 = .ok (.iconst 0, 1) := by decide +kernel
theorem dX6_readNamed_14 : decode cX6_readNamed 14 = .ok (.iload_n 2, 1) := by decide +kernel
theorem dX6_readNamed_15 : decode cX6_readNamed 15 = .ok (.invokevirtual 66, 3) := by decide +kernel
theorem t1284 : Cond.methodLink RX6 66 yX6_put ∈ GW := gw_mem 1398 (by decide +kernel) (by decide +kernel)
theorem t17 : Cond.initialized RX6 ∈ GW := gw_mem 131 (by decide +kernel) (by decide +kernel)
theorem t1286 : Cond.instanceMethod yX6_put ∈ GW := gw_mem 1400 (by decide +kernel) (by decide +kernel)
theorem s31 : Cond.selects RX6 yX6_put yX6_put ∈ GW := gw_mem 31 (by decide +kernel) (by decide +kernel)
theorem cw_X6_66 {R : Room} {s : State} {args : Array Value} {rm : Room} {mc ms : Nat} (hts : ∀ w ∈ GW, w.before args s = true) (hrc : rm.cells = mc) (hrs : rm.slots = ms) (hR : rm.frames + 1 ≤ R.frames ∧ 8 + (4 + 11) + rm.locals ≤ R.locals) : CallW R s args RX6 RX6 66 yX6_put cX6_put 4 (some .boolean) (wl yX6_put cX6_put 4 (some .boolean)) rm mc ms 3 := cwV 3 hts (gi_V t1284 t1286 s31 t17 t1287) rfl hrc hrs (by decide +kernel) hR
theorem dX6_readNamed_18 : decode cX6_readNamed 18 = .ok (.ireturn, 1) := by decide +kernel
theorem dX6_readNamed_5 : decode cX6_readNamed 5 = .ok (.iconst 0, 1) := by decide +kernel
theorem dX6_readNamed_6 : decode cX6_readNamed 6 = .ok (.ireturn, 1) := by decide +kernel
abbrev cX6_readCompared : ByteArray := prog_8_method_11_code
def yX6_readCompared : MethodName := ⟨RX6, "readCompared", "(ILLikenessPound$Tape;)Z"⟩
theorem t1300 : Cond.code yX6_readCompared cX6_readCompared 4 (some .boolean) ∈ GW := gw_mem 1414 (by decide +kernel) (by decide +kernel)
theorem dX6_readCompared_0 : decode cX6_readCompared 0 = .ok (.aload_n 2, 1) := by decide +kernel
theorem dX6_readCompared_1 : decode cX6_readCompared 1 = .ok (.getfield 50, 3) := by decide +kernel
theorem t102 : Cond.fieldLink RX6 50 "LikenessPound$Tape" "kind" "I" ∈ GW := gw_mem 216 (by decide +kernel) (by decide +kernel)
theorem gf_X6_50 {p : Program} {l : Launch} {e : Env} {R : Room} {s : State} {m : MethodId} {args : Array Value} {below : List Frame} {meth : Method} {c : Code} {H : Heap} {locs : List Loc} {cells slots : Nat} {Q : State → Prop} {cc : ByteArray} {pc : Nat} {ls : Array Slot} {rest : List Value} {D : va_G} {a : Nat} {tys : List (ClassId × FieldType)} {ws : va_W} (hx : p.tables.exec = Jvm.exec) (hb : c.code = cc) (hts : ∀ w ∈ GW, w.before args s = true) (hown : s.vm.findClass RX6 = some m.cls) (hK : va_K D vwCl tys s) (hP : va_P D vwCl ws H) (q0 : Nat) {fs : List Value} (he : ws[q0]? = some (a, .inr (9, fs))) {v : Value} (hv : fs[5]? = some v) (hdg : decode cc pc = .ok (.getfield 50, 3)) (kk : W p l e R s m args below meth c H locs cells slots Q (F0 m (pc + 3) ls (v :: rest))) : W p l e R s m args below meth c H locs cells slots Q (F0 m pc ls (.ref a :: rest)) := va_get (C := RX8) (T := TX8) (N := 12) (ci := 9) hx hb hts inX8 hown hK hP q0 he rfl 5 (by decide) (hts _ t102) (fun _ h => h) hv hdg kk
theorem dX6_readCompared_4 : decode cX6_readCompared 4 = .ok (.istore_n 3, 1) := by decide +kernel
theorem dX6_readCompared_5 : decode cX6_readCompared 5 = .ok (.iload_n 3, 1) := by decide +kernel
theorem dX6_readCompared_6 : decode cX6_readCompared 6 = .ok (.bipush 60, 2) := by decide +kernel
theorem dX6_readCompared_8 : decode cX6_readCompared 8 = .ok (.if_icmp .eq 21, 3) := by decide +kernel
theorem dX6_readCompared_29 : decode cX6_readCompared 29 = .ok (.aload_n 2, 1) := by decide +kernel
theorem dX6_readCompared_30 : decode cX6_readCompared 30 = .ok (.invokevirtual 63, 3) := by decide +kernel
theorem dX6_readCompared_33 : decode cX6_readCompared 33 = .ok (.aload_n 2, 1) := by decide +kernel
theorem dX6_readCompared_34 : decode cX6_readCompared 34 = .ok (.getfield 50, 3) := by decide +kernel
theorem dX6_readCompared_37 : decode cX6_readCompared 37 = .ok (.iconst 2, 1) := by decide +kernel
theorem dX6_readCompared_38 : decode cX6_readCompared 38 = .ok (.if_icmp .eq 9, 3) := by decide +kernel
theorem dX6_readCompared_47 : decode cX6_readCompared 47 = .ok (.aload_n 0, 1) := by decide +kernel
theorem dX6_readCompared_48 : decode cX6_readCompared 48 = .ok (.iload_n 1, 1) := by decide +kernel
theorem dX6_readCompared_49 : decode cX6_readCompared 49 = .ok (.iload_n 3, 1) := by decide +kernel
theorem dX6_readCompared_50 : decode cX6_readCompared 50 = .ok (.aload_n 2, 1) := by decide +kernel
theorem dX6_readCompared_51 : decode cX6_readCompared 51 = .ok (.getfield 99, 3) := by decide +kernel
theorem t113 : Cond.fieldLink RX6 99 "LikenessPound$Tape" "number" "I" ∈ GW := gw_mem 227 (by decide +kernel) (by decide +kernel)
theorem gf_X6_99 {p : Program} {l : Launch} {e : Env} {R : Room} {s : State} {m : MethodId} {args : Array Value} {below : List Frame} {meth : Method} {c : Code} {H : Heap} {locs : List Loc} {cells slots : Nat} {Q : State → Prop} {cc : ByteArray} {pc : Nat} {ls : Array Slot} {rest : List Value} {D : va_G} {a : Nat} {tys : List (ClassId × FieldType)} {ws : va_W} (hx : p.tables.exec = Jvm.exec) (hb : c.code = cc) (hts : ∀ w ∈ GW, w.before args s = true) (hown : s.vm.findClass RX6 = some m.cls) (hK : va_K D vwCl tys s) (hP : va_P D vwCl ws H) (q0 : Nat) {fs : List Value} (he : ws[q0]? = some (a, .inr (9, fs))) {v : Value} (hv : fs[9]? = some v) (hdg : decode cc pc = .ok (.getfield 99, 3)) (kk : W p l e R s m args below meth c H locs cells slots Q (F0 m (pc + 3) ls (v :: rest))) : W p l e R s m args below meth c H locs cells slots Q (F0 m pc ls (.ref a :: rest)) := va_get (C := RX8) (T := TX8) (N := 12) (ci := 9) hx hb hts inX8 hown hK hP q0 he rfl 9 (by decide) (hts _ t113) (fun _ h => h) hv hdg kk
theorem dX6_readCompared_54 : decode cX6_readCompared 54 = .ok (.invokevirtual 66, 3) := by decide +kernel
theorem dX6_readCompared_57 : decode cX6_readCompared 57 = .ok (.pop, 1) := by decide +kernel
theorem dX6_readCompared_58 : decode cX6_readCompared 58 = .ok (.aload_n 2, 1) := by decide +kernel
theorem dX6_readCompared_59 : decode cX6_readCompared 59 = .ok (.invokevirtual 63, 3) := by decide +kernel
theorem dX6_readCompared_62 : decode cX6_readCompared 62 = .ok (.iconst 1, 1) := by decide +kernel
theorem dX6_readCompared_63 : decode cX6_readCompared 63 = .ok (.ireturn, 1) := by decide +kernel
theorem dX6_readCompared_41 : decode cX6_readCompared 41 = .ok (.aload_n 2, 1) := by decide +kernel
theorem dX6_readCompared_42 : decode cX6_readCompared 42 = .ok (.iconst 1, 1) := by decide +kernel
theorem dX6_readCompared_43 : decode cX6_readCompared 43 = .ok (.invokevirtual 53, 3) := by decide +kernel
theorem t1281 : Cond.methodLink RX6 53 yX8_refuse ∈ GW := gw_mem 1395 (by decide +kernel) (by decide +kernel)
theorem cw_X6_53 {R : Room} {s : State} {args : Array Value} {rm : Room} {mc ms : Nat} (hts : ∀ w ∈ GW, w.before args s = true) (hrc : rm.cells = mc) (hrs : rm.slots = ms) (hR : rm.frames + 1 ≤ R.frames ∧ 8 + (2 + 11) + rm.locals ≤ R.locals) : CallW R s args RX6 RX8 53 yX8_refuse cX8_refuse 2 (some .boolean) (wl yX8_refuse cX8_refuse 2 (some .boolean)) rm mc ms 1 := cwV 1 hts (gi_V t1281 t584 t585 t2 t586) rfl hrc hrs (by decide +kernel) hR
theorem dX6_readCompared_46 : decode cX6_readCompared 46 = .ok (.ireturn, 1) := by decide +kernel
theorem dX6_readCompared_11 : decode cX6_readCompared 11 = .ok (.iload_n 3, 1) := by decide +kernel
theorem dX6_readCompared_12 : decode cX6_readCompared 12 = .ok (.bipush 61, 2) := by decide +kernel
theorem dX6_readCompared_14 : decode cX6_readCompared 14 = .ok (.if_icmp .eq 15, 3) := by decide +kernel
theorem dX6_readCompared_17 : decode cX6_readCompared 17 = .ok (.iload_n 3, 1) := by decide +kernel
theorem dX6_readCompared_18 : decode cX6_readCompared 18 = .ok (.bipush 62, 2) := by decide +kernel
theorem dX6_readCompared_20 : decode cX6_readCompared 20 = .ok (.if_icmp .eq 9, 3) := by decide +kernel
theorem dX6_readCompared_23 : decode cX6_readCompared 23 = .ok (.aload_n 2, 1) := by decide +kernel
theorem dX6_readCompared_24 : decode cX6_readCompared 24 = .ok (.iconst 1, 1) := by decide +kernel
theorem dX6_readCompared_25 : decode cX6_readCompared 25 = .ok (.invokevirtual 53, 3) := by decide +kernel
theorem dX6_readCompared_28 : decode cX6_readCompared 28 = .ok (.ireturn, 1) := by decide +kernel
