def Fr (f g : Nat → Int32) (k : Nat) : Prop := ∀ j : Nat, j ≠ k → g j = f j
theorem Fr.rf {f : Nat → Int32} {k : Nat} : Fr f f k := fun _ _ => rfl
theorem Fr.up {f g : Nat → Int32} {k : Nat} {v : Int32} (h : Fr f g k) : Fr f (upd g k v) k := fun j hj => by rw [pk_un hj]; exact h j hj
theorem Fr.tr {f g h : Nat → Int32} {k : Nat} (h1 : Fr f g k) (h2 : Fr g h k) : Fr f h k := fun j hj => (h2 j hj).trans (h1 j hj)
def BK (v m t : Nat → Int32) (j : Nat) : Prop := ((v j).toInt = 9 ∨ (v j).toInt = 10 → 0 ≤ (t j).toInt ∧ (t j).toInt ≤ 9) ∧ ((v j).toInt = 12 ∨ (v j).toInt = 13 → 0 ≤ (m j).toInt ∧ (m j).toInt ≤ 6)
def BOK (n : Int) (v m t : Nat → Int32) : Prop := ∀ j : Nat, (j : Int) < n → BK v m t j
theorem BOK.nil {n : Int} {v m t : Nat → Int32} (h : n ≤ 0) : BOK n v m t := fun j hj => absurd hj (by omega)
theorem BOK.next {n n' : Int} {v m t v' m' t' : Nat → Int32} {k : Nat} (h : BOK n v m t) (hk : (k : Int) = n) (hn : n' = n + 1) (h1 : Fr v v' k) (h2 : Fr m m' k) (h3 : Fr t t' k) (hb : BK v' m' t' k) : BOK n' v' m' t' := by
  intro j hj
  by_cases e : j = k
  · rw [e]; exact hb
  · have h4 := h j (by omega)
    unfold BK at h4 ⊢
    rw [h1 j e, h2 j e, h3 j e]; exact h4
theorem BK.verb {v m t : Nat → Int32} {k : Nat} {w : Int32} (e : v k = w) (h : (w.toInt = 9 ∨ w.toInt = 10 → 0 ≤ (t k).toInt ∧ (t k).toInt ≤ 9) ∧ (w.toInt = 12 ∨ w.toInt = 13 → 0 ≤ (m k).toInt ∧ (m k).toInt ≤ 6)) : BK v m t k := by
  unfold BK; rw [e]; exact h
abbrev cX0_readDone : ByteArray := prog_2_method_6_code
def yX0_readDone : MethodName := ⟨RX0, "readDone", "(LLikenessPound$Tape;LLikenessPound$Colony;)Z"⟩
theorem t1219 : Cond.code yX0_readDone cX0_readDone 3 (some .boolean) ∈ GW := gw_mem 1333 (by decide +kernel) (by decide +kernel)
theorem dX0_readDone_0 : decode cX0_readDone 0 = .ok (.aload_n 0, 1) := by decide +kernel
theorem dX0_readDone_1 : decode cX0_readDone 1 = .ok (.getfield 21, 3) := by decide +kernel
theorem t178 : Cond.fieldLink RX0 21 "LikenessPound$BookText" "what" "[I" ∈ GW := gw_mem 292 (by decide +kernel) (by decide +kernel)
theorem gf_X0_21 {p : Program} {l : Launch} {e : Env} {R : Room} {s : State} {m : MethodId} {args : Array Value} {below : List Frame} {meth : Method} {c : Code} {H : Heap} {locs : List Loc} {cells slots : Nat} {Q : State → Prop} {cc : ByteArray} {pc : Nat} {ls : Array Slot} {rest : List Value} {D : va_G} {a : Nat} {tys : List (ClassId × FieldType)} {ws : va_W} (hx : p.tables.exec = Jvm.exec) (hb : c.code = cc) (hts : ∀ w ∈ GW, w.before args s = true) (hown : s.vm.findClass RX0 = some m.cls) (hK : va_K D vwCl tys s) (hP : va_P D vwCl ws H) (q0 : Nat) {fs : List Value} (he : ws[q0]? = some (a, .inr (1, fs))) {v : Value} (hv : fs[3]? = some v) (hdg : decode cc pc = .ok (.getfield 21, 3)) (kk : W p l e R s m args below meth c H locs cells slots Q (F0 m (pc + 3) ls (v :: rest))) : W p l e R s m args below meth c H locs cells slots Q (F0 m pc ls (.ref a :: rest)) := va_get (C := RX0) (T := TX0) (N := 10) (ci := 1) hx hb hts inX0 hown hK hP q0 he rfl 3 (by decide) (hts _ t178) (fun _ h => h) hv hdg kk
theorem dX0_readDone_4 : decode cX0_readDone 4 = .ok (.aload_n 0, 1) := by decide +kernel
theorem dX0_readDone_5 : decode cX0_readDone 5 = .ok (.getfield 24, 3) := by decide +kernel
theorem t179 : Cond.fieldLink RX0 24 "LikenessPound$BookText" "lines" "I" ∈ GW := gw_mem 293 (by decide +kernel) (by decide +kernel)
theorem gf_X0_24 {p : Program} {l : Launch} {e : Env} {R : Room} {s : State} {m : MethodId} {args : Array Value} {below : List Frame} {meth : Method} {c : Code} {H : Heap} {locs : List Loc} {cells slots : Nat} {Q : State → Prop} {cc : ByteArray} {pc : Nat} {ls : Array Slot} {rest : List Value} {D : va_G} {a : Nat} {tys : List (ClassId × FieldType)} {ws : va_W} (hx : p.tables.exec = Jvm.exec) (hb : c.code = cc) (hts : ∀ w ∈ GW, w.before args s = true) (hown : s.vm.findClass RX0 = some m.cls) (hK : va_K D vwCl tys s) (hP : va_P D vwCl ws H) (q0 : Nat) {fs : List Value} (he : ws[q0]? = some (a, .inr (1, fs))) {v : Value} (hv : fs[4]? = some v) (hdg : decode cc pc = .ok (.getfield 24, 3)) (kk : W p l e R s m args below meth c H locs cells slots Q (F0 m (pc + 3) ls (v :: rest))) : W p l e R s m args below meth c H locs cells slots Q (F0 m pc ls (.ref a :: rest)) := va_get (C := RX0) (T := TX0) (N := 10) (ci := 1) hx hb hts inX0 hown hK hP q0 he rfl 4 (by decide) (hts _ t179) (fun _ h => h) hv hdg kk
theorem dX0_readDone_8 : decode cX0_readDone 8 = .ok (.aload_n 2, 1) := by decide +kernel
theorem dX0_readDone_9 : decode cX0_readDone 9 = .ok (.aload_n 1, 1) := by decide +kernel
theorem dX0_readDone_10 : decode cX0_readDone 10 = .ok (.invokevirtual 77, 3) := by decide +kernel
theorem t1220 : Cond.methodLink RX0 77 yX1_deedAt ∈ GW := gw_mem 1334 (by decide +kernel) (by decide +kernel)
theorem cw_X0_77 {R : Room} {s : State} {args : Array Value} {rm : Room} {mc ms : Nat} (hts : ∀ w ∈ GW, w.before args s = true) (hrc : rm.cells = mc) (hrs : rm.slots = ms) (hR : rm.frames + 1 ≤ R.frames ∧ 8 + (2 + 11) + rm.locals ≤ R.locals) : CallW R s args RX0 RX1 77 yX1_deedAt cX1_deedAt 2 (some .int) (wl yX1_deedAt cX1_deedAt 2 (some .int)) rm mc ms 1 := cwV 1 hts (gi_V t1220 t625 t626 t16 t627) rfl hrc hrs (by decide +kernel) hR
theorem dX0_readDone_13 : decode cX0_readDone 13 = .ok (.iastore, 1) := by decide +kernel
theorem dX0_readDone_14 : decode cX0_readDone 14 = .ok (.aload_n 0, 1) := by decide +kernel
theorem dX0_readDone_15 : decode cX0_readDone 15 = .ok (.getfield 21, 3) := by decide +kernel
theorem dX0_readDone_18 : decode cX0_readDone 18 = .ok (.aload_n 0, 1) := by decide +kernel
theorem dX0_readDone_19 : decode cX0_readDone 19 = .ok (.getfield 24, 3) := by decide +kernel
theorem dX0_readDone_22 : decode cX0_readDone 22 = .ok (.iaload, 1) := by decide +kernel
theorem dX0_readDone_23 : decode cX0_readDone 23 = .ok (.iconst (-1), 1) := by decide +kernel
theorem dX0_readDone_24 : decode cX0_readDone 24 = .ok (.if_icmp .ne 5, 3) := by decide +kernel
theorem dX0_readDone_29 : decode cX0_readDone 29 = .ok (.aload_n 1, 1) := by decide +kernel
theorem dX0_readDone_30 : decode cX0_readDone 30 = .ok (.invokevirtual 57, 3) := by decide +kernel
theorem t1210 : Cond.methodLink RX0 57 yX8_advance ∈ GW := gw_mem 1324 (by decide +kernel) (by decide +kernel)
theorem cw_X0_57 {R : Room} {s : State} {args : Array Value} {rm : Room} {mc ms : Nat} (hts : ∀ w ∈ GW, w.before args s = true) (hrc : rm.cells = mc) (hrs : rm.slots = ms) (hR : rm.frames + 1 ≤ R.frames ∧ 8 + (1 + 11) + rm.locals ≤ R.locals) : CallW R s args RX0 RX8 57 yX8_advance cX8_advance 1 none (wl yX8_advance cX8_advance 1 none) rm mc ms 0 := cwV 0 hts (gi_V t1210 t559 t560 t2 t561) rfl hrc hrs (by decide +kernel) hR
theorem dX0_readDone_33 : decode cX0_readDone 33 = .ok (.iconst 1, 1) := by decide +kernel
theorem dX0_readDone_34 : decode cX0_readDone 34 = .ok (.ireturn, 1) := by decide +kernel
theorem dX0_readDone_27 : decode cX0_readDone 27 = .ok (.iconst 0, 1) := by decide +kernel
theorem dX0_readDone_28 : decode cX0_readDone 28 = .ok (.ireturn, 1) := by decide +kernel
abbrev cX0_readWhom : ByteArray := prog_2_method_5_code
def yX0_readWhom : MethodName := ⟨RX0, "readWhom", "(LLikenessPound$Tape;LLikenessPound$Colony;)Z"⟩
theorem t1224 : Cond.code yX0_readWhom cX0_readWhom 3 (some .boolean) ∈ GW := gw_mem 1338 (by decide +kernel) (by decide +kernel)
theorem dX0_readWhom_0 : decode cX0_readWhom 0 = .ok (.aload_n 0, 1) := by decide +kernel
theorem dX0_readWhom_1 : decode cX0_readWhom 1 = .ok (.getfield 18, 3) := by decide +kernel
theorem t177 : Cond.fieldLink RX0 18 "LikenessPound$BookText" "whom" "[I" ∈ GW := gw_mem 291 (by decide +kernel) (by decide +kernel)
theorem gf_X0_18 {p : Program} {l : Launch} {e : Env} {R : Room} {s : State} {m : MethodId} {args : Array Value} {below : List Frame} {meth : Method} {c : Code} {H : Heap} {locs : List Loc} {cells slots : Nat} {Q : State → Prop} {cc : ByteArray} {pc : Nat} {ls : Array Slot} {rest : List Value} {D : va_G} {a : Nat} {tys : List (ClassId × FieldType)} {ws : va_W} (hx : p.tables.exec = Jvm.exec) (hb : c.code = cc) (hts : ∀ w ∈ GW, w.before args s = true) (hown : s.vm.findClass RX0 = some m.cls) (hK : va_K D vwCl tys s) (hP : va_P D vwCl ws H) (q0 : Nat) {fs : List Value} (he : ws[q0]? = some (a, .inr (1, fs))) {v : Value} (hv : fs[2]? = some v) (hdg : decode cc pc = .ok (.getfield 18, 3)) (kk : W p l e R s m args below meth c H locs cells slots Q (F0 m (pc + 3) ls (v :: rest))) : W p l e R s m args below meth c H locs cells slots Q (F0 m pc ls (.ref a :: rest)) := va_get (C := RX0) (T := TX0) (N := 10) (ci := 1) hx hb hts inX0 hown hK hP q0 he rfl 2 (by decide) (hts _ t177) (fun _ h => h) hv hdg kk
theorem dX0_readWhom_4 : decode cX0_readWhom 4 = .ok (.aload_n 0, 1) := by decide +kernel
theorem dX0_readWhom_5 : decode cX0_readWhom 5 = .ok (.getfield 24, 3) := by decide +kernel
theorem dX0_readWhom_8 : decode cX0_readWhom 8 = .ok (.aload_n 2, 1) := by decide +kernel
theorem dX0_readWhom_9 : decode cX0_readWhom 9 = .ok (.aload_n 1, 1) := by decide +kernel
theorem dX0_readWhom_10 : decode cX0_readWhom 10 = .ok (.invokevirtual 48, 3) := by decide +kernel
theorem t1208 : Cond.methodLink RX0 48 yX1_manAt ∈ GW := gw_mem 1322 (by decide +kernel) (by decide +kernel)
theorem cw_X0_48 {R : Room} {s : State} {args : Array Value} {rm : Room} {mc ms : Nat} (hts : ∀ w ∈ GW, w.before args s = true) (hrc : rm.cells = mc) (hrs : rm.slots = ms) (hR : rm.frames + 1 ≤ R.frames ∧ 8 + (2 + 11) + rm.locals ≤ R.locals) : CallW R s args RX0 RX1 48 yX1_manAt cX1_manAt 2 (some .int) (wl yX1_manAt cX1_manAt 2 (some .int)) rm mc ms 1 := cwV 1 hts (gi_V t1208 t615 t616 t16 t617) rfl hrc hrs (by decide +kernel) hR
theorem dX0_readWhom_13 : decode cX0_readWhom 13 = .ok (.iastore, 1) := by decide +kernel
theorem dX0_readWhom_14 : decode cX0_readWhom 14 = .ok (.aload_n 0, 1) := by decide +kernel
theorem dX0_readWhom_15 : decode cX0_readWhom 15 = .ok (.getfield 18, 3) := by decide +kernel
theorem dX0_readWhom_18 : decode cX0_readWhom 18 = .ok (.aload_n 0, 1) := by decide +kernel
theorem dX0_readWhom_19 : decode cX0_readWhom 19 = .ok (.getfield 24, 3) := by decide +kernel
theorem dX0_readWhom_22 : decode cX0_readWhom 22 = .ok (.iaload, 1) := by decide +kernel
theorem dX0_readWhom_23 : decode cX0_readWhom 23 = .ok (.iconst (-1), 1) := by decide +kernel
theorem dX0_readWhom_24 : decode cX0_readWhom 24 = .ok (.if_icmp .ne 5, 3) := by decide +kernel
theorem dX0_readWhom_29 : decode cX0_readWhom 29 = .ok (.aload_n 1, 1) := by decide +kernel
theorem dX0_readWhom_30 : decode cX0_readWhom 30 = .ok (.invokevirtual 57, 3) := by decide +kernel
theorem dX0_readWhom_33 : decode cX0_readWhom 33 = .ok (.iconst 1, 1) := by decide +kernel
theorem dX0_readWhom_34 : decode cX0_readWhom 34 = .ok (.ireturn, 1) := by decide +kernel
theorem dX0_readWhom_27 : decode cX0_readWhom 27 = .ok (.iconst 0, 1) := by decide +kernel
theorem dX0_readWhom_28 : decode cX0_readWhom 28 = .ok (.ireturn, 1) := by decide +kernel
abbrev cX0_readLoan : ByteArray := prog_2_method_7_code
def yX0_readLoan : MethodName := ⟨RX0, "readLoan", "(LLikenessPound$Tape;)Z"⟩
theorem t1228 : Cond.code yX0_readLoan cX0_readLoan 2 (some .boolean) ∈ GW := gw_mem 1342 (by decide +kernel) (by decide +kernel)
theorem dX0_readLoan_0 : decode cX0_readLoan 0 = .ok (.aload_n 0, 1) := by decide +kernel
theorem dX0_readLoan_1 : decode cX0_readLoan 1 = .ok (.getfield 21, 3) := by decide +kernel
theorem dX0_readLoan_4 : decode cX0_readLoan 4 = .ok (.aload_n 0, 1) := by decide +kernel
theorem dX0_readLoan_5 : decode cX0_readLoan 5 = .ok (.getfield 24, 3) := by decide +kernel
theorem dX0_readLoan_8 : decode cX0_readLoan 8 = .ok (.aload_n 1, 1) := by decide +kernel
theorem dX0_readLoan_9 : decode cX0_readLoan 9 = .ok (.iconst 1, 1) := by decide +kernel
theorem dX0_readLoan_10 : decode cX0_readLoan 10 = .ok (.bipush 40, 2) := by decide +kernel
theorem dX0_readLoan_12 : decode cX0_readLoan 12 = .ok (.invokevirtual 60, 3) := by decide +kernel
theorem t1211 : Cond.methodLink RX0 60 yX8_takeNumber ∈ GW := gw_mem 1325 (by decide +kernel) (by decide +kernel)
theorem cw_X0_60 {R : Room} {s : State} {args : Array Value} {rm : Room} {mc ms : Nat} (hts : ∀ w ∈ GW, w.before args s = true) (hrc : rm.cells = mc) (hrs : rm.slots = ms) (hR : rm.frames + 1 ≤ R.frames ∧ 8 + (4 + 11) + rm.locals ≤ R.locals) : CallW R s args RX0 RX8 60 yX8_takeNumber cX8_takeNumber 4 (some .int) (wl yX8_takeNumber cX8_takeNumber 4 (some .int)) rm mc ms 2 := cwV 2 hts (gi_V t1211 t604 t605 t2 t606) rfl hrc hrs (by decide +kernel) hR
theorem dX0_readLoan_15 : decode cX0_readLoan 15 = .ok (.iastore, 1) := by decide +kernel
theorem dX0_readLoan_16 : decode cX0_readLoan 16 = .ok (.aload_n 0, 1) := by decide +kernel
theorem dX0_readLoan_17 : decode cX0_readLoan 17 = .ok (.getfield 21, 3) := by decide +kernel
theorem dX0_readLoan_20 : decode cX0_readLoan 20 = .ok (.aload_n 0, 1) := by decide +kernel
theorem dX0_readLoan_21 : decode cX0_readLoan 21 = .ok (.getfield 24, 3) := by decide +kernel
theorem dX0_readLoan_24 : decode cX0_readLoan 24 = .ok (.iaload, 1) := by decide +kernel
theorem dX0_readLoan_25 : decode cX0_readLoan 25 = .ok (.iconst (-1), 1) := by decide +kernel
theorem dX0_readLoan_26 : decode cX0_readLoan 26 = .ok (.if_icmp .eq 7, 3) := by decide +kernel
theorem dX0_readLoan_33 : decode cX0_readLoan 33 = .ok (.iconst 0, 1) := by decide +kernel
theorem dX0_readLoan_34 : decode cX0_readLoan 34 = .ok (.ireturn, 1) := by decide +kernel
theorem dX0_readLoan_29 : decode cX0_readLoan 29 = .ok (.iconst 1, 1) := by decide +kernel
theorem dX0_readLoan_30 : decode cX0_readLoan 30 = .ok (.goto 4, 3) := by decide +kernel
abbrev cX0_readVerb : ByteArray := prog_2_method_4_code
def yX0_readVerb : MethodName := ⟨RX0, "readVerb", "(LLikenessPound$Tape;LLikenessPound$Colony;)Z"⟩
theorem t1215 : Cond.code yX0_readVerb cX0_readVerb 3 (some .boolean) ∈ GW := gw_mem 1329 (by decide +kernel) (by decide +kernel)
theorem dX0_readVerb_0 : decode cX0_readVerb 0 = .ok (.aload_n 1, 1) := by decide +kernel
theorem dX0_readVerb_1 : decode cX0_readVerb 1 = .ok (.getfield 45, 3) := by decide +kernel
theorem t106 : Cond.fieldLink RX0 45 "LikenessPound$Tape" "word" "I" ∈ GW := gw_mem 220 (by decide +kernel) (by decide +kernel)
theorem gf_X0_45 {p : Program} {l : Launch} {e : Env} {R : Room} {s : State} {m : MethodId} {args : Array Value} {below : List Frame} {meth : Method} {c : Code} {H : Heap} {locs : List Loc} {cells slots : Nat} {Q : State → Prop} {cc : ByteArray} {pc : Nat} {ls : Array Slot} {rest : List Value} {D : va_G} {a : Nat} {tys : List (ClassId × FieldType)} {ws : va_W} (hx : p.tables.exec = Jvm.exec) (hb : c.code = cc) (hts : ∀ w ∈ GW, w.before args s = true) (hown : s.vm.findClass RX0 = some m.cls) (hK : va_K D vwCl tys s) (hP : va_P D vwCl ws H) (q0 : Nat) {fs : List Value} (he : ws[q0]? = some (a, .inr (9, fs))) {v : Value} (hv : fs[7]? = some v) (hdg : decode cc pc = .ok (.getfield 45, 3)) (kk : W p l e R s m args below meth c H locs cells slots Q (F0 m (pc + 3) ls (v :: rest))) : W p l e R s m args below meth c H locs cells slots Q (F0 m pc ls (.ref a :: rest)) := va_get (C := RX8) (T := TX8) (N := 12) (ci := 9) hx hb hts inX8 hown hK hP q0 he rfl 7 (by decide) (hts _ t106) (fun _ h => h) hv hdg kk
theorem dX0_readVerb_4 : decode cX0_readVerb 4 = .ok (.tableswitch 112 9 14 #[40, 51, 106, 79, 79, 106], 40) := by decide +kernel
theorem dX0_readVerb_44 : decode cX0_readVerb 44 = .ok (.aload_n 1, 1) := by decide +kernel
theorem dX0_readVerb_45 : decode cX0_readVerb 45 = .ok (.invokevirtual 57, 3) := by decide +kernel
theorem dX0_readVerb_48 : decode cX0_readVerb 48 = .ok (.aload_n 0, 1) := by decide +kernel
theorem dX0_readVerb_49 : decode cX0_readVerb 49 = .ok (.aload_n 1, 1) := by decide +kernel
theorem dX0_readVerb_50 : decode cX0_readVerb 50 = .ok (.aload_n 2, 1) := by decide +kernel
theorem dX0_readVerb_51 : decode cX0_readVerb 51 = .ok (.invokevirtual 67, 3) := by decide +kernel
theorem t1216 : Cond.methodLink RX0 67 yX0_readDone ∈ GW := gw_mem 1330 (by decide +kernel) (by decide +kernel)
theorem t8 : Cond.initialized RX0 ∈ GW := gw_mem 122 (by decide +kernel) (by decide +kernel)
theorem t1218 : Cond.instanceMethod yX0_readDone ∈ GW := gw_mem 1332 (by decide +kernel) (by decide +kernel)
theorem s24 : Cond.selects RX0 yX0_readDone yX0_readDone ∈ GW := gw_mem 24 (by decide +kernel) (by decide +kernel)
theorem cw_X0_67 {R : Room} {s : State} {args : Array Value} {rm : Room} {mc ms : Nat} (hts : ∀ w ∈ GW, w.before args s = true) (hrc : rm.cells = mc) (hrs : rm.slots = ms) (hR : rm.frames + 1 ≤ R.frames ∧ 8 + (3 + 11) + rm.locals ≤ R.locals) : CallW R s args RX0 RX0 67 yX0_readDone cX0_readDone 3 (some .boolean) (wl yX0_readDone cX0_readDone 3 (some .boolean)) rm mc ms 2 := cwV 2 hts (gi_V t1216 t1218 s24 t8 t1219) rfl hrc hrs (by decide +kernel) hR
theorem dX0_readVerb_54 : decode cX0_readVerb 54 = .ok (.ireturn, 1) := by decide +kernel
theorem dX0_readVerb_55 : decode cX0_readVerb 55 = .ok (.aload_n 1, 1) := by decide +kernel
theorem dX0_readVerb_56 : decode cX0_readVerb 56 = .ok (.invokevirtual 57, 3) := by decide +kernel
theorem dX0_readVerb_59 : decode cX0_readVerb 59 = .ok (.aload_n 0, 1) := by decide +kernel
theorem dX0_readVerb_60 : decode cX0_readVerb 60 = .ok (.aload_n 1, 1) := by decide +kernel
theorem dX0_readVerb_61 : decode cX0_readVerb 61 = .ok (.aload_n 2, 1) := by decide +kernel
theorem dX0_readVerb_62 : decode cX0_readVerb 62 = .ok (.invokevirtual 70, 3) := by decide +kernel
theorem t1221 : Cond.methodLink RX0 70 yX0_readWhom ∈ GW := gw_mem 1335 (by decide +kernel) (by decide +kernel)
theorem t1223 : Cond.instanceMethod yX0_readWhom ∈ GW := gw_mem 1337 (by decide +kernel) (by decide +kernel)
theorem s25 : Cond.selects RX0 yX0_readWhom yX0_readWhom ∈ GW := gw_mem 25 (by decide +kernel) (by decide +kernel)
theorem cw_X0_70 {R : Room} {s : State} {args : Array Value} {rm : Room} {mc ms : Nat} (hts : ∀ w ∈ GW, w.before args s = true) (hrc : rm.cells = mc) (hrs : rm.slots = ms) (hR : rm.frames + 1 ≤ R.frames ∧ 8 + (3 + 11) + rm.locals ≤ R.locals) : CallW R s args RX0 RX0 70 yX0_readWhom cX0_readWhom 3 (some .boolean) (wl yX0_readWhom cX0_readWhom 3 (some .boolean)) rm mc ms 2 := cwV 2 hts (gi_V t1221 t1223 s25 t8 t1224) rfl hrc hrs (by decide +kernel) hR
theorem dX0_readVerb_65 : decode cX0_readVerb 65 = .ok (.ifCond .eq 16, 3) := by decide +kernel
theorem dX0_readVerb_81 : decode cX0_readVerb 81 = .ok (.iconst 0, 1) := by decide +kernel
theorem dX0_readVerb_82 : decode cX0_readVerb 82 = .ok (.ireturn, 1) := by decide +kernel
theorem dX0_readVerb_68 : decode cX0_readVerb 68 = .ok (.aload_n 0, 1) := by decide +kernel
theorem dX0_readVerb_69 : decode cX0_readVerb 69 = .ok (.aload_n 1, 1) := by decide +kernel
theorem dX0_readVerb_70 : decode cX0_readVerb 70 = .ok (.aload_n 2, 1) := by decide +kernel
theorem dX0_readVerb_71 : decode cX0_readVerb 71 = .ok (.invokevirtual 67, 3) := by decide +kernel
theorem dX0_readVerb_74 : decode cX0_readVerb 74 = .ok (.ifCond .eq 7, 3) := by decide +kernel
theorem dX0_readVerb_77 : decode cX0_readVerb 77 = .ok (.iconst 1, 1) := by decide +kernel
theorem dX0_readVerb_78 : decode cX0_readVerb 78 = .ok (.goto 4, 3) := by decide +kernel
theorem dX0_readVerb_110 : decode cX0_readVerb 110 = .ok (.aload_n 1, 1) := by decide +kernel
theorem dX0_readVerb_111 : decode cX0_readVerb 111 = .ok (.invokevirtual 57, 3) := by decide +kernel
theorem dX0_readVerb_114 : decode cX0_readVerb 114 = .ok (.iconst 1, 1) := by decide +kernel
theorem dX0_readVerb_115 : decode cX0_readVerb 115 = .ok (.ireturn, 1) := by decide +kernel
theorem dX0_readVerb_83 : decode cX0_readVerb 83 = .ok (.aload_n 1, 1) := by decide +kernel
theorem dX0_readVerb_84 : decode cX0_readVerb 84 = .ok (.invokevirtual 57, 3) := by decide +kernel
theorem dX0_readVerb_87 : decode cX0_readVerb 87 = .ok (.aload_n 0, 1) := by decide +kernel
theorem dX0_readVerb_88 : decode cX0_readVerb 88 = .ok (.aload_n 1, 1) := by decide +kernel
theorem dX0_readVerb_89 : decode cX0_readVerb 89 = .ok (.aload_n 2, 1) := by decide +kernel
theorem dX0_readVerb_90 : decode cX0_readVerb 90 = .ok (.invokevirtual 70, 3) := by decide +kernel
theorem dX0_readVerb_93 : decode cX0_readVerb 93 = .ok (.ifCond .eq 15, 3) := by decide +kernel
theorem dX0_readVerb_108 : decode cX0_readVerb 108 = .ok (.iconst 0, 1) := by decide +kernel
theorem dX0_readVerb_109 : decode cX0_readVerb 109 = .ok (.ireturn, 1) := by decide +kernel
theorem dX0_readVerb_96 : decode cX0_readVerb 96 = .ok (.aload_n 0, 1) := by decide +kernel
theorem dX0_readVerb_97 : decode cX0_readVerb 97 = .ok (.aload_n 1, 1) := by decide +kernel
theorem dX0_readVerb_98 : decode cX0_readVerb 98 = .ok (.invokevirtual 73, 3) := by decide +kernel
theorem t1225 : Cond.methodLink RX0 73 yX0_readLoan ∈ GW := gw_mem 1339 (by decide +kernel) (by decide +kernel)
theorem t1227 : Cond.instanceMethod yX0_readLoan ∈ GW := gw_mem 1341 (by decide +kernel) (by decide +kernel)
theorem s26 : Cond.selects RX0 yX0_readLoan yX0_readLoan ∈ GW := gw_mem 26 (by decide +kernel) (by decide +kernel)
theorem cw_X0_73 {R : Room} {s : State} {args : Array Value} {rm : Room} {mc ms : Nat} (hts : ∀ w ∈ GW, w.before args s = true) (hrc : rm.cells = mc) (hrs : rm.slots = ms) (hR : rm.frames + 1 ≤ R.frames ∧ 8 + (2 + 11) + rm.locals ≤ R.locals) : CallW R s args RX0 RX0 73 yX0_readLoan cX0_readLoan 2 (some .boolean) (wl yX0_readLoan cX0_readLoan 2 (some .boolean)) rm mc ms 1 := cwV 1 hts (gi_V t1225 t1227 s26 t8 t1228) rfl hrc hrs (by decide +kernel) hR
theorem dX0_readVerb_101 : decode cX0_readVerb 101 = .ok (.ifCond .eq 7, 3) := by decide +kernel
theorem dX0_readVerb_104 : decode cX0_readVerb 104 = .ok (.iconst 1, 1) := by decide +kernel
theorem dX0_readVerb_105 : decode cX0_readVerb 105 = .ok (.goto 4, 3) := by decide +kernel
theorem dX0_readVerb_116 : decode cX0_readVerb 116 = .ok (.aload_n 1, 1) := by decide +kernel
theorem dX0_readVerb_117 : decode cX0_readVerb 117 = .ok (.iconst 1, 1) := by decide +kernel
theorem dX0_readVerb_118 : decode cX0_readVerb 118 = .ok (.invokevirtual 54, 3) := by decide +kernel
theorem t1209 : Cond.methodLink RX0 54 yX8_refuse ∈ GW := gw_mem 1323 (by decide +kernel) (by decide +kernel)
theorem cw_X0_54 {R : Room} {s : State} {args : Array Value} {rm : Room} {mc ms : Nat} (hts : ∀ w ∈ GW, w.before args s = true) (hrc : rm.cells = mc) (hrs : rm.slots = ms) (hR : rm.frames + 1 ≤ R.frames ∧ 8 + (2 + 11) + rm.locals ≤ R.locals) : CallW R s args RX0 RX8 54 yX8_refuse cX8_refuse 2 (some .boolean) (wl yX8_refuse cX8_refuse 2 (some .boolean)) rm mc ms 1 := cwV 1 hts (gi_V t1209 t584 t585 t2 t586) rfl hrc hrs (by decide +kernel) hR
theorem dX0_readVerb_121 : decode cX0_readVerb 121 = .ok (.ireturn, 1) := by decide +kernel
