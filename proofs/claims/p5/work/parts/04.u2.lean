abbrev cX8_readRun : ByteArray := prog_10_method_5_code
def yX8_readRun : MethodName := ⟨RX8, "readRun", "()V"⟩
theorem t568 : Cond.code yX8_readRun cX8_readRun 4 none ∈ GW := gw_mem 682 (by decide +kernel) (by decide +kernel)
abbrev O_t_readRun (cy : Nat → ClassId) (vt : Nat) (vt1 : Nat) (vt2 : Nat) (vtL : Int32) (vtli : Int32) (vta : Int32) (vtk : Int32) (vtst : Int32) (vtw : Int32) (vtc : Int64) (vtn : Int32) (vtfk : Int32) (vtfp : Int32) (vtb : Nat → Int32) (u : Int32 × Int32 × Int64 × Int32) : va_W := [(vt, .inr (9, [.ref vt1, .ref vt2, .int vtL, .int vtli, .int u.1, .int u.2.1, .int vtst, .int vtw, .long u.2.2.1, .int u.2.2.2, .int vtfk, .int vtfp])), (vt1, .inl (cy 0, 940, .inl vtb))]
theorem dX8_readRun_0 : decode cX8_readRun 0 = .ok (.iconst 0, 1) := by decide +kernel
theorem dX8_readRun_1 : decode cX8_readRun 1 = .ok (.istore_n 1, 1) := by decide +kernel
theorem dX8_readRun_2 : decode cX8_readRun 2 = .ok (.iconst 0, 1) := by decide +kernel
theorem dX8_readRun_3 : decode cX8_readRun 3 = .ok (.istore_n 2, 1) := by decide +kernel
theorem dX8_readRun_4 : decode cX8_readRun 4 = .ok (.aload_n 0, 1) := by decide +kernel
theorem dX8_readRun_5 : decode cX8_readRun 5 = .ok (.lconst 0, 1) := by decide +kernel
theorem dX8_readRun_6 : decode cX8_readRun 6 = .ok (.putfield 73, 3) := by decide +kernel
theorem pf_X8_73 {p : Program} {l : Launch} {e : Env} {R : Room} {s : State} {m : MethodId} {args : Array Value} {below : List Frame} {meth : Method} {c : Code} {H : Heap} {locs : List Loc} {cells slots : Nat} {Q : State → Prop} {cc : ByteArray} {pc : Nat} {ls : Array Slot} {rest : List Value} {D : va_G} {A : Nat → Prop} {a : Nat} {tys : List (ClassId × FieldType)} {ws : va_W} {H0 : Heap} (hx : p.tables.exec = Jvm.exec) (hb : c.code = cc) (hts : ∀ w ∈ GW, w.before args s = true) (hown : s.vm.findClass RX8 = some m.cls) (hK : va_K D vwCl tys s) (hP : va_P D vwCl ws H) (hD : va_D A ws) (hS0 : va_S A H0 H locs) (q0 : Nat) {fs : List Value} (he : ws[q0]? = some (a, .inr (9, fs))) {v : Value} (hn : narrow (tyX8 8) v = v) (hfit : fits (tyX8 8) v = true) (hl : 8 < fs.length) (hdg : decode cc pc = .ok (.putfield 73, 3)) (kk : ∀ (H1 : Heap) (locs1 : List Loc), va_P D vwCl (ws.set q0 (a, .inr (9, fs.set 8 v))) H1 → va_D A (ws.set q0 (a, .inr (9, fs.set 8 v))) → va_S A H0 H1 locs1 → W p l e R s m args below meth c H1 locs1 cells slots Q (F0 m (pc + 3) ls rest)) : W p l e R s m args below meth c H locs cells slots Q (F0 m pc ls (v :: .ref a :: rest)) := va_put (C := RX8) (T := TX8) (N := 12) (ci := 9) hx hb hts inX8 tyX8 tkX8 nmX8 hown hK hP hD hS0 q0 he rfl 8 (by decide) (hts _ t110) (fun _ h => h) rfl (tkX8 8 (by decide)) hn hfit hl hdg kk
theorem dX8_readRun_9 : decode cX8_readRun 9 = .ok (.aload_n 0, 1) := by decide +kernel
theorem dX8_readRun_10 : decode cX8_readRun 10 = .ok (.iconst 0, 1) := by decide +kernel
theorem dX8_readRun_11 : decode cX8_readRun 11 = .ok (.putfield 77, 3) := by decide +kernel
theorem t112 : Cond.fieldLink RX8 77 "LikenessPound$Tape" "number" "I" ∈ GW := gw_mem 226 (by decide +kernel) (by decide +kernel)
theorem pf_X8_77 {p : Program} {l : Launch} {e : Env} {R : Room} {s : State} {m : MethodId} {args : Array Value} {below : List Frame} {meth : Method} {c : Code} {H : Heap} {locs : List Loc} {cells slots : Nat} {Q : State → Prop} {cc : ByteArray} {pc : Nat} {ls : Array Slot} {rest : List Value} {D : va_G} {A : Nat → Prop} {a : Nat} {tys : List (ClassId × FieldType)} {ws : va_W} {H0 : Heap} (hx : p.tables.exec = Jvm.exec) (hb : c.code = cc) (hts : ∀ w ∈ GW, w.before args s = true) (hown : s.vm.findClass RX8 = some m.cls) (hK : va_K D vwCl tys s) (hP : va_P D vwCl ws H) (hD : va_D A ws) (hS0 : va_S A H0 H locs) (q0 : Nat) {fs : List Value} (he : ws[q0]? = some (a, .inr (9, fs))) {v : Value} (hn : narrow (tyX8 9) v = v) (hfit : fits (tyX8 9) v = true) (hl : 9 < fs.length) (hdg : decode cc pc = .ok (.putfield 77, 3)) (kk : ∀ (H1 : Heap) (locs1 : List Loc), va_P D vwCl (ws.set q0 (a, .inr (9, fs.set 9 v))) H1 → va_D A (ws.set q0 (a, .inr (9, fs.set 9 v))) → va_S A H0 H1 locs1 → W p l e R s m args below meth c H1 locs1 cells slots Q (F0 m (pc + 3) ls rest)) : W p l e R s m args below meth c H locs cells slots Q (F0 m pc ls (v :: .ref a :: rest)) := va_put (C := RX8) (T := TX8) (N := 12) (ci := 9) hx hb hts inX8 tyX8 tkX8 nmX8 hown hK hP hD hS0 q0 he rfl 9 (by decide) (hts _ t112) (fun _ h => h) rfl (tkX8 9 (by decide)) hn hfit hl hdg kk
theorem dX8_readRun_117 : decode cX8_readRun 117 = .ok (.aload_n 0, 1) := by decide +kernel
theorem dX8_readRun_118 : decode cX8_readRun 118 = .ok (.iconst 0, 1) := by decide +kernel
theorem dX8_readRun_119 : decode cX8_readRun 119 = .ok (.putfield 57, 3) := by decide +kernel
theorem t103 : Cond.fieldLink RX8 57 "LikenessPound$Tape" "kind" "I" ∈ GW := gw_mem 217 (by decide +kernel) (by decide +kernel)
theorem pf_X8_57 {p : Program} {l : Launch} {e : Env} {R : Room} {s : State} {m : MethodId} {args : Array Value} {below : List Frame} {meth : Method} {c : Code} {H : Heap} {locs : List Loc} {cells slots : Nat} {Q : State → Prop} {cc : ByteArray} {pc : Nat} {ls : Array Slot} {rest : List Value} {D : va_G} {A : Nat → Prop} {a : Nat} {tys : List (ClassId × FieldType)} {ws : va_W} {H0 : Heap} (hx : p.tables.exec = Jvm.exec) (hb : c.code = cc) (hts : ∀ w ∈ GW, w.before args s = true) (hown : s.vm.findClass RX8 = some m.cls) (hK : va_K D vwCl tys s) (hP : va_P D vwCl ws H) (hD : va_D A ws) (hS0 : va_S A H0 H locs) (q0 : Nat) {fs : List Value} (he : ws[q0]? = some (a, .inr (9, fs))) {v : Value} (hn : narrow (tyX8 5) v = v) (hfit : fits (tyX8 5) v = true) (hl : 5 < fs.length) (hdg : decode cc pc = .ok (.putfield 57, 3)) (kk : ∀ (H1 : Heap) (locs1 : List Loc), va_P D vwCl (ws.set q0 (a, .inr (9, fs.set 5 v))) H1 → va_D A (ws.set q0 (a, .inr (9, fs.set 5 v))) → va_S A H0 H1 locs1 → W p l e R s m args below meth c H1 locs1 cells slots Q (F0 m (pc + 3) ls rest)) : W p l e R s m args below meth c H locs cells slots Q (F0 m pc ls (v :: .ref a :: rest)) := va_put (C := RX8) (T := TX8) (N := 12) (ci := 9) hx hb hts inX8 tyX8 tkX8 nmX8 hown hK hP hD hS0 q0 he rfl 5 (by decide) (hts _ t103) (fun _ h => h) rfl (tkX8 5 (by decide)) hn hfit hl hdg kk
theorem dX8_readRun_122 : decode cX8_readRun 122 = .ok (.iload_n 2, 1) := by decide +kernel
theorem dX8_readRun_123 : decode cX8_readRun 123 = .ok (.ifCond .ne 17, 3) := by decide +kernel
theorem dX8_readRun_140 : decode cX8_readRun 140 = .ok (.iload_n 1, 1) := by decide +kernel
theorem dX8_readRun_141 : decode cX8_readRun 141 = .ok (.ifCond .ne 13, 3) := by decide +kernel
theorem dX8_readRun_154 : decode cX8_readRun 154 = .ok (.return_, 1) := by decide +kernel
theorem dX8_readRun_144 : decode cX8_readRun 144 = .ok (.iload_n 2, 1) := by decide +kernel
theorem dX8_readRun_145 : decode cX8_readRun 145 = .ok (.iconst 3, 1) := by decide +kernel
theorem dX8_readRun_146 : decode cX8_readRun 146 = .ok (.if_icmp .gt 8, 3) := by decide +kernel
theorem dX8_readRun_149 : decode cX8_readRun 149 = .ok (.aload_n 0, 1) := by decide +kernel
theorem dX8_readRun_150 : decode cX8_readRun 150 = .ok (.iconst 2, 1) := by decide +kernel
theorem dX8_readRun_151 : decode cX8_readRun 151 = .ok (.putfield 57, 3) := by decide +kernel
theorem dX8_readRun_126 : decode cX8_readRun 126 = .ok (.iload_n 1, 1) := by decide +kernel
theorem dX8_readRun_127 : decode cX8_readRun 127 = .ok (.bipush 7, 2) := by decide +kernel
theorem dX8_readRun_129 : decode cX8_readRun 129 = .ok (.if_icmp .gt 11, 3) := by decide +kernel
theorem dX8_readRun_132 : decode cX8_readRun 132 = .ok (.aload_n 0, 1) := by decide +kernel
theorem dX8_readRun_133 : decode cX8_readRun 133 = .ok (.iconst 1, 1) := by decide +kernel
theorem dX8_readRun_134 : decode cX8_readRun 134 = .ok (.putfield 57, 3) := by decide +kernel
theorem dX8_readRun_137 : decode cX8_readRun 137 = .ok (.goto 17, 3) := by decide +kernel
theorem dX8_readRun_14 : decode cX8_readRun 14 = .ok (.aload_n 0, 1) := by decide +kernel
theorem dX8_readRun_15 : decode cX8_readRun 15 = .ok (.getfield 39, 3) := by decide +kernel
theorem t99 : Cond.fieldLink RX8 39 "LikenessPound$Tape" "at" "I" ∈ GW := gw_mem 213 (by decide +kernel) (by decide +kernel)
theorem gf_X8_39 {p : Program} {l : Launch} {e : Env} {R : Room} {s : State} {m : MethodId} {args : Array Value} {below : List Frame} {meth : Method} {c : Code} {H : Heap} {locs : List Loc} {cells slots : Nat} {Q : State → Prop} {cc : ByteArray} {pc : Nat} {ls : Array Slot} {rest : List Value} {D : va_G} {a : Nat} {tys : List (ClassId × FieldType)} {ws : va_W} (hx : p.tables.exec = Jvm.exec) (hb : c.code = cc) (hts : ∀ w ∈ GW, w.before args s = true) (hown : s.vm.findClass RX8 = some m.cls) (hK : va_K D vwCl tys s) (hP : va_P D vwCl ws H) (q0 : Nat) {fs : List Value} (he : ws[q0]? = some (a, .inr (9, fs))) {v : Value} (hv : fs[4]? = some v) (hdg : decode cc pc = .ok (.getfield 39, 3)) (kk : W p l e R s m args below meth c H locs cells slots Q (F0 m (pc + 3) ls (v :: rest))) : W p l e R s m args below meth c H locs cells slots Q (F0 m pc ls (.ref a :: rest)) := va_get (C := RX8) (T := TX8) (N := 12) (ci := 9) hx hb hts inX8 hown hK hP q0 he rfl 4 (by decide) (hts _ t99) (fun _ h => h) hv hdg kk
theorem dX8_readRun_18 : decode cX8_readRun 18 = .ok (.aload_n 0, 1) := by decide +kernel
theorem dX8_readRun_19 : decode cX8_readRun 19 = .ok (.getfield 33, 3) := by decide +kernel
theorem t97 : Cond.fieldLink RX8 33 "LikenessPound$Tape" "length" "I" ∈ GW := gw_mem 211 (by decide +kernel) (by decide +kernel)
theorem gf_X8_33 {p : Program} {l : Launch} {e : Env} {R : Room} {s : State} {m : MethodId} {args : Array Value} {below : List Frame} {meth : Method} {c : Code} {H : Heap} {locs : List Loc} {cells slots : Nat} {Q : State → Prop} {cc : ByteArray} {pc : Nat} {ls : Array Slot} {rest : List Value} {D : va_G} {a : Nat} {tys : List (ClassId × FieldType)} {ws : va_W} (hx : p.tables.exec = Jvm.exec) (hb : c.code = cc) (hts : ∀ w ∈ GW, w.before args s = true) (hown : s.vm.findClass RX8 = some m.cls) (hK : va_K D vwCl tys s) (hP : va_P D vwCl ws H) (q0 : Nat) {fs : List Value} (he : ws[q0]? = some (a, .inr (9, fs))) {v : Value} (hv : fs[2]? = some v) (hdg : decode cc pc = .ok (.getfield 33, 3)) (kk : W p l e R s m args below meth c H locs cells slots Q (F0 m (pc + 3) ls (v :: rest))) : W p l e R s m args below meth c H locs cells slots Q (F0 m pc ls (.ref a :: rest)) := va_get (C := RX8) (T := TX8) (N := 12) (ci := 9) hx hb hts inX8 hown hK hP q0 he rfl 2 (by decide) (hts _ t97) (fun _ h => h) hv hdg kk
theorem dX8_readRun_22 : decode cX8_readRun 22 = .ok (.if_icmp .ge 95, 3) := by decide +kernel
theorem dX8_readRun_25 : decode cX8_readRun 25 = .ok (.aload_n 0, 1) := by decide +kernel
theorem dX8_readRun_26 : decode cX8_readRun 26 = .ok (.getfield 9, 3) := by decide +kernel
theorem t93 : Cond.fieldLink RX8 9 "LikenessPound$Tape" "bytes" "[I" ∈ GW := gw_mem 207 (by decide +kernel) (by decide +kernel)
theorem gf_X8_9 {p : Program} {l : Launch} {e : Env} {R : Room} {s : State} {m : MethodId} {args : Array Value} {below : List Frame} {meth : Method} {c : Code} {H : Heap} {locs : List Loc} {cells slots : Nat} {Q : State → Prop} {cc : ByteArray} {pc : Nat} {ls : Array Slot} {rest : List Value} {D : va_G} {a : Nat} {tys : List (ClassId × FieldType)} {ws : va_W} (hx : p.tables.exec = Jvm.exec) (hb : c.code = cc) (hts : ∀ w ∈ GW, w.before args s = true) (hown : s.vm.findClass RX8 = some m.cls) (hK : va_K D vwCl tys s) (hP : va_P D vwCl ws H) (q0 : Nat) {fs : List Value} (he : ws[q0]? = some (a, .inr (9, fs))) {v : Value} (hv : fs[0]? = some v) (hdg : decode cc pc = .ok (.getfield 9, 3)) (kk : W p l e R s m args below meth c H locs cells slots Q (F0 m (pc + 3) ls (v :: rest))) : W p l e R s m args below meth c H locs cells slots Q (F0 m pc ls (.ref a :: rest)) := va_get (C := RX8) (T := TX8) (N := 12) (ci := 9) hx hb hts inX8 hown hK hP q0 he rfl 0 (by decide) (hts _ t93) (fun _ h => h) hv hdg kk
theorem dX8_readRun_29 : decode cX8_readRun 29 = .ok (.aload_n 0, 1) := by decide +kernel
theorem dX8_readRun_30 : decode cX8_readRun 30 = .ok (.getfield 39, 3) := by decide +kernel
theorem dX8_readRun_33 : decode cX8_readRun 33 = .ok (.iaload, 1) := by decide +kernel
theorem dX8_readRun_34 : decode cX8_readRun 34 = .ok (.istore_n 3, 1) := by decide +kernel
theorem dX8_readRun_35 : decode cX8_readRun 35 = .ok (.iload_n 3, 1) := by decide +kernel
theorem dX8_readRun_36 : decode cX8_readRun 36 = .ok (.bipush 97, 2) := by decide +kernel
theorem dX8_readRun_38 : decode cX8_readRun 38 = .ok (.if_icmp .lt 35, 3) := by decide +kernel
theorem dX8_readRun_73 : decode cX8_readRun 73 = .ok (.iload_n 3, 1) := by decide +kernel
theorem dX8_readRun_74 : decode cX8_readRun 74 = .ok (.bipush 48, 2) := by decide +kernel
theorem dX8_readRun_76 : decode cX8_readRun 76 = .ok (.if_icmp .lt 41, 3) := by decide +kernel
theorem dX8_readRun_79 : decode cX8_readRun 79 = .ok (.iload_n 3, 1) := by decide +kernel
theorem dX8_readRun_80 : decode cX8_readRun 80 = .ok (.bipush 57, 2) := by decide +kernel
theorem dX8_readRun_82 : decode cX8_readRun 82 = .ok (.if_icmp .gt 35, 3) := by decide +kernel
theorem dX8_readRun_85 : decode cX8_readRun 85 = .ok (.aload_n 0, 1) := by decide +kernel
theorem dX8_readRun_86 : decode cX8_readRun 86 = .ok (.aload_n 0, 1) := by decide +kernel
theorem dX8_readRun_87 : decode cX8_readRun 87 = .ok (.getfield 77, 3) := by decide +kernel
theorem gf_X8_77 {p : Program} {l : Launch} {e : Env} {R : Room} {s : State} {m : MethodId} {args : Array Value} {below : List Frame} {meth : Method} {c : Code} {H : Heap} {locs : List Loc} {cells slots : Nat} {Q : State → Prop} {cc : ByteArray} {pc : Nat} {ls : Array Slot} {rest : List Value} {D : va_G} {a : Nat} {tys : List (ClassId × FieldType)} {ws : va_W} (hx : p.tables.exec = Jvm.exec) (hb : c.code = cc) (hts : ∀ w ∈ GW, w.before args s = true) (hown : s.vm.findClass RX8 = some m.cls) (hK : va_K D vwCl tys s) (hP : va_P D vwCl ws H) (q0 : Nat) {fs : List Value} (he : ws[q0]? = some (a, .inr (9, fs))) {v : Value} (hv : fs[9]? = some v) (hdg : decode cc pc = .ok (.getfield 77, 3)) (kk : W p l e R s m args below meth c H locs cells slots Q (F0 m (pc + 3) ls (v :: rest))) : W p l e R s m args below meth c H locs cells slots Q (F0 m pc ls (.ref a :: rest)) := va_get (C := RX8) (T := TX8) (N := 12) (ci := 9) hx hb hts inX8 hown hK hP q0 he rfl 9 (by decide) (hts _ t112) (fun _ h => h) hv hdg kk
theorem dX8_readRun_90 : decode cX8_readRun 90 = .ok (.bipush 10, 2) := by decide +kernel
theorem dX8_readRun_92 : decode cX8_readRun 92 = .ok (.imul, 1) := by decide +kernel
theorem dX8_readRun_93 : decode cX8_readRun 93 = .ok (.iload_n 3, 1) := by decide +kernel
theorem dX8_readRun_94 : decode cX8_readRun 94 = .ok (.bipush 48, 2) := by decide +kernel
theorem dX8_readRun_96 : decode cX8_readRun 96 = .ok (.isub, 1) := by decide +kernel
theorem dX8_readRun_97 : decode cX8_readRun 97 = .ok (.iadd, 1) := by decide +kernel
theorem dX8_readRun_98 : decode cX8_readRun 98 = .ok (.putfield 77, 3) := by decide +kernel
theorem dX8_readRun_101 : decode cX8_readRun 101 = .ok (.iinc 2 1, 3) := by decide +kernel
theorem dX8_readRun_104 : decode cX8_readRun 104 = .ok (.aload_n 0, 1) := by decide +kernel
theorem dX8_readRun_105 : decode cX8_readRun 105 = .ok (.dup, 1) := by decide +kernel
theorem dX8_readRun_106 : decode cX8_readRun 106 = .ok (.getfield 39, 3) := by decide +kernel
theorem dX8_readRun_109 : decode cX8_readRun 109 = .ok (.iconst 1, 1) := by decide +kernel
theorem dX8_readRun_110 : decode cX8_readRun 110 = .ok (.iadd, 1) := by decide +kernel
theorem dX8_readRun_111 : decode cX8_readRun 111 = .ok (.putfield 39, 3) := by decide +kernel
theorem pf_X8_39 {p : Program} {l : Launch} {e : Env} {R : Room} {s : State} {m : MethodId} {args : Array Value} {below : List Frame} {meth : Method} {c : Code} {H : Heap} {locs : List Loc} {cells slots : Nat} {Q : State → Prop} {cc : ByteArray} {pc : Nat} {ls : Array Slot} {rest : List Value} {D : va_G} {A : Nat → Prop} {a : Nat} {tys : List (ClassId × FieldType)} {ws : va_W} {H0 : Heap} (hx : p.tables.exec = Jvm.exec) (hb : c.code = cc) (hts : ∀ w ∈ GW, w.before args s = true) (hown : s.vm.findClass RX8 = some m.cls) (hK : va_K D vwCl tys s) (hP : va_P D vwCl ws H) (hD : va_D A ws) (hS0 : va_S A H0 H locs) (q0 : Nat) {fs : List Value} (he : ws[q0]? = some (a, .inr (9, fs))) {v : Value} (hn : narrow (tyX8 4) v = v) (hfit : fits (tyX8 4) v = true) (hl : 4 < fs.length) (hdg : decode cc pc = .ok (.putfield 39, 3)) (kk : ∀ (H1 : Heap) (locs1 : List Loc), va_P D vwCl (ws.set q0 (a, .inr (9, fs.set 4 v))) H1 → va_D A (ws.set q0 (a, .inr (9, fs.set 4 v))) → va_S A H0 H1 locs1 → W p l e R s m args below meth c H1 locs1 cells slots Q (F0 m (pc + 3) ls rest)) : W p l e R s m args below meth c H locs cells slots Q (F0 m pc ls (v :: .ref a :: rest)) := va_put (C := RX8) (T := TX8) (N := 12) (ci := 9) hx hb hts inX8 tyX8 tkX8 nmX8 hown hK hP hD hS0 q0 he rfl 4 (by decide) (hts _ t99) (fun _ h => h) rfl (tkX8 4 (by decide)) hn hfit hl hdg kk
theorem dX8_readRun_114 : decode cX8_readRun 114 = .ok (.goto (-100), 3) := by decide +kernel
theorem dX8_readRun_41 : decode cX8_readRun 41 = .ok (.iload_n 3, 1) := by decide +kernel
theorem dX8_readRun_42 : decode cX8_readRun 42 = .ok (.bipush 122, 2) := by decide +kernel
theorem dX8_readRun_44 : decode cX8_readRun 44 = .ok (.if_icmp .gt 29, 3) := by decide +kernel
theorem dX8_readRun_47 : decode cX8_readRun 47 = .ok (.aload_n 0, 1) := by decide +kernel
theorem dX8_readRun_48 : decode cX8_readRun 48 = .ok (.aload_n 0, 1) := by decide +kernel
theorem dX8_readRun_49 : decode cX8_readRun 49 = .ok (.getfield 73, 3) := by decide +kernel
theorem dX8_readRun_52 : decode cX8_readRun 52 = .ok (.ldc2_w 31, 3) := by decide +kernel
theorem t92 : Cond.constantLong RX8 31 32 ∈ GW := gw_mem 206 (by decide +kernel) (by decide +kernel)
theorem dX8_readRun_55 : decode cX8_readRun 55 = .ok (.lmul, 1) := by decide +kernel
theorem dX8_readRun_56 : decode cX8_readRun 56 = .ok (.iload_n 3, 1) := by decide +kernel
theorem dX8_readRun_57 : decode cX8_readRun 57 = .ok (.bipush 97, 2) := by decide +kernel
theorem dX8_readRun_59 : decode cX8_readRun 59 = .ok (.isub, 1) := by decide +kernel
theorem dX8_readRun_60 : decode cX8_readRun 60 = .ok (.iconst 1, 1) := by decide +kernel
theorem dX8_readRun_61 : decode cX8_readRun 61 = .ok (.iadd, 1) := by decide +kernel
theorem dX8_readRun_62 : decode cX8_readRun 62 = .ok (.i2l, 1) := by decide +kernel
theorem dX8_readRun_63 : decode cX8_readRun 63 = .ok (.ladd, 1) := by decide +kernel
theorem dX8_readRun_64 : decode cX8_readRun 64 = .ok (.putfield 73, 3) := by decide +kernel
theorem dX8_readRun_67 : decode cX8_readRun 67 = .ok (.iinc 1 1, 3) := by decide +kernel
theorem dX8_readRun_70 : decode cX8_readRun 70 = .ok (.goto 34, 3) := by decide +kernel
set_option maxHeartbeats 4000000 in
set_option maxRecDepth 100000 in
theorem t_readRun (l : Launch) (dC : Nat → ClassId) (dI : Nat → Nat → Nat) (cy : Nat → ClassId) (sz : Nat) (vt : Nat) (vt1 : Nat) (vt2 : Nat) (vtL : Int32) (vtli : Int32) (vta : Int32) (vtk : Int32) (vtst : Int32) (vtw : Int32) (vtc : Int64) (vtn : Int32) (vtfk : Int32) (vtfp : Int32) (vtb : Nat → Int32) (r_vtL : 0 ≤ (vtL : Int32).toInt ∧ (vtL : Int32).toInt ≤ 940) (r_vta : 0 ≤ (vta : Int32).toInt ∧ (vta : Int32).toInt ≤ 940) (p_vtb : Rg vtb 940 0 255) (hle : (vta : Int32).toInt ≤ (vtL : Int32).toInt) : Met l yX8_readRun (wl yX8_readRun cX8_readRun 4 none) ({ frames := 0, cells := 0, slots := 0, locals := 0 }) (Pw (dC, dI) vwCl cy [(vt, .inr (9, [.ref vt1, .ref vt2, .int vtL, .int vtli, .int vta, .int vtk, .int vtst, .int vtw, .long vtc, .int vtn, .int vtfk, .int vtfp])), (vt1, .inl (cy 0, 940, .inl vtb))] sz [.ref vt] nE) (Qv (dC, dI) vwCl (fun (u : Int32 × Int32 × Int64 × Int32) => (0 ≤ (u.1 : Int32).toInt ∧ (u.1 : Int32).toInt ≤ 940) ∧ ((u.1 : Int32).toInt = tkrn vtb (vtL : Int32).toInt (vta : Int32).toInt) ∧ (u.2.2.1 = tkcd vtb (vta : Int32).toInt (u.1 : Int32).toInt) ∧ (u.2.2.2 = tknm vtb (vta : Int32).toInt (u.1 : Int32).toInt) ∧ ((tkcG vtb (vta : Int32).toInt (u.1 : Int32).toInt = 0 ∧ tkcL vtb (vta : Int32).toInt (u.1 : Int32).toInt ≤ 7 ∧ (u.2.1 : Int32).toInt = 1) ∨ (¬ (tkcG vtb (vta : Int32).toInt (u.1 : Int32).toInt = 0 ∧ tkcL vtb (vta : Int32).toInt (u.1 : Int32).toInt ≤ 7) ∧ tkcL vtb (vta : Int32).toInt (u.1 : Int32).toInt = 0 ∧ tkcG vtb (vta : Int32).toInt (u.1 : Int32).toInt ≤ 3 ∧ (u.2.1 : Int32).toInt = 2) ∨ (¬ (tkcG vtb (vta : Int32).toInt (u.1 : Int32).toInt = 0 ∧ tkcL vtb (vta : Int32).toInt (u.1 : Int32).toInt ≤ 7) ∧ ¬ (tkcL vtb (vta : Int32).toInt (u.1 : Int32).toInt = 0 ∧ tkcG vtb (vta : Int32).toInt (u.1 : Int32).toInt ≤ 3) ∧ (u.2.1 : Int32).toInt = 0)) ∧ ((u.1 : Int32).toInt ≤ (vtL : Int32).toInt)) (O_t_readRun cy vt vt1 vt2 vtL vtli vta vtk vtst vtw vtc vtn vtfk vtfp vtb) (va_A [(vt, .inr (9, [.ref vt1, .ref vt2, .int vtL, .int vtli, .int vta, .int vtk, .int vtst, .int vtw, .long vtc, .int vtn, .int vtfk, .int vtfp])), (vt1, .inl (cy 0, 940, .inl vtb))] sz)) 0 0 (va_A [(vt, .inr (9, [.ref vt1, .ref vt2, .int vtL, .int vtli, .int vta, .int vtk, .int vtst, .int vtw, .long vtc, .int vtn, .int vtfk, .int vtfp])), (vt1, .inl (cy 0, 940, .inl vtb))] sz) := by
  refine mw (Qc := Qv (dC, dI) vwCl (fun (u : Int32 × Int32 × Int64 × Int32) => (0 ≤ (u.1 : Int32).toInt ∧ (u.1 : Int32).toInt ≤ 940) ∧ ((u.1 : Int32).toInt = tkrn vtb (vtL : Int32).toInt (vta : Int32).toInt) ∧ (u.2.2.1 = tkcd vtb (vta : Int32).toInt (u.1 : Int32).toInt) ∧ (u.2.2.2 = tknm vtb (vta : Int32).toInt (u.1 : Int32).toInt) ∧ ((tkcG vtb (vta : Int32).toInt (u.1 : Int32).toInt = 0 ∧ tkcL vtb (vta : Int32).toInt (u.1 : Int32).toInt ≤ 7 ∧ (u.2.1 : Int32).toInt = 1) ∨ (¬ (tkcG vtb (vta : Int32).toInt (u.1 : Int32).toInt = 0 ∧ tkcL vtb (vta : Int32).toInt (u.1 : Int32).toInt ≤ 7) ∧ tkcL vtb (vta : Int32).toInt (u.1 : Int32).toInt = 0 ∧ tkcG vtb (vta : Int32).toInt (u.1 : Int32).toInt ≤ 3 ∧ (u.2.1 : Int32).toInt = 2) ∨ (¬ (tkcG vtb (vta : Int32).toInt (u.1 : Int32).toInt = 0 ∧ tkcL vtb (vta : Int32).toInt (u.1 : Int32).toInt ≤ 7) ∧ ¬ (tkcL vtb (vta : Int32).toInt (u.1 : Int32).toInt = 0 ∧ tkcG vtb (vta : Int32).toInt (u.1 : Int32).toInt ≤ 3) ∧ (u.2.1 : Int32).toInt = 0)) ∧ ((u.1 : Int32).toInt ≤ (vtL : Int32).toInt)) (O_t_readRun cy vt vt1 vt2 vtL vtli vta vtk vtst vtw vtc vtn vtfk vtfp vtb)) RX8 rfl (by decide +kernel) (Nat.le_of_ble_eq_true rfl) ?_
  intro p e s m below meth c A hx hb hr hlocks av9 hav hts hown hnm hml hK hP hD hA hS hE hAe Q9 hQ9 ls hl
  have hl : lv_has ls 4 [(0, .ref vt)] := hl
  refine lv_iconst (v := 0) hx hb dX8_readRun_0 (by decide) ?_
  refine lv_istore_n (lv' := [(1, .int 0), (0, .ref vt)]) hx hb dX8_readRun_1 rfl hl (by decide) rfl (fun ls hl => ?_)
  refine lv_iconst (v := 0) hx hb dX8_readRun_2 (by decide) ?_
  refine lv_istore_n (lv' := [(2, .int 0), (1, .int 0), (0, .ref vt)]) hx hb dX8_readRun_3 rfl hl (by decide) rfl (fun ls hl => ?_)
  refine lv_aload_n hx hb dX8_readRun_4 rfl (lv_at hl 2 rfl) ?_
  refine lv_lconst (v := 0) hx hb dX8_readRun_5 (by decide) ?_
  refine pf_X8_73 hx hb hts hown hK hP hD hS 0 rfl rfl rfl (Nat.le_of_ble_eq_true rfl) dX8_readRun_6 (fun H locs hP hD hS => ?_)
  have hP : va_P (dC, dI) vwCl [(vt, .inr (9, [.ref vt1, .ref vt2, .int vtL, .int vtli, .int vta, .int vtk, .int vtst, .int vtw, .long 0, .int vtn, .int vtfk, .int vtfp])), (vt1, .inl (cy 0, 940, .inl vtb))] H := hP
  have hD : va_D A [(vt, .inr (9, [.ref vt1, .ref vt2, .int vtL, .int vtli, .int vta, .int vtk, .int vtst, .int vtw, .long 0, .int vtn, .int vtfk, .int vtfp])), (vt1, .inl (cy 0, 940, .inl vtb))] := hD
  refine lv_aload_n hx hb dX8_readRun_9 rfl (lv_at hl 2 rfl) ?_
  refine lv_iconst (v := 0) hx hb dX8_readRun_10 (by decide) ?_
  refine pf_X8_77 hx hb hts hown hK hP hD hS 0 rfl rfl rfl (Nat.le_of_ble_eq_true rfl) dX8_readRun_11 (fun H locs hP hD hS => ?_)
  have hP : va_P (dC, dI) vwCl [(vt, .inr (9, [.ref vt1, .ref vt2, .int vtL, .int vtli, .int vta, .int vtk, .int vtst, .int vtw, .long 0, .int 0, .int vtfk, .int vtfp])), (vt1, .inl (cy 0, 940, .inl vtb))] H := hP
  have hD : va_D A [(vt, .inr (9, [.ref vt1, .ref vt2, .int vtL, .int vtli, .int vta, .int vtk, .int vtst, .int vtw, .long 0, .int 0, .int vtfk, .int vtfp])), (vt1, .inl (cy 0, 940, .inl vtb))] := hD
  have join1 : ∀ (x_2 : Int32) (x_3 : Int32) (x_4 : Int32) (x_5 : Int64) (x_6 : Int32), (0 ≤ x_2.toInt ∧ x_2.toInt ≤ 940) → (0 ≤ x_3.toInt ∧ x_3.toInt ≤ 940) → (0 ≤ x_4.toInt ∧ x_4.toInt ≤ 940) → (x_4.toInt = tkrn vtb vtL.toInt vta.toInt) → (x_2.toInt = tkcL vtb vta.toInt x_4.toInt) → (x_3.toInt = tkcG vtb vta.toInt x_4.toInt) → (x_5 = tkcd vtb vta.toInt x_4.toInt) → (x_6 = tknm vtb vta.toInt x_4.toInt) → (x_4.toInt ≤ vtL.toInt) → ∀ (H : Heap) (locs : List Loc), va_P (dC, dI) vwCl [(vt, .inr (9, [.ref vt1, .ref vt2, .int vtL, .int vtli, .int x_4, .int vtk, .int vtst, .int vtw, .long x_5, .int x_6, .int vtfk, .int vtfp])), (vt1, .inl (cy 0, 940, .inl vtb))] H → va_D A [(vt, .inr (9, [.ref vt1, .ref vt2, .int vtL, .int vtli, .int x_4, .int vtk, .int vtst, .int vtw, .long x_5, .int x_6, .int vtfk, .int vtfp])), (vt1, .inl (cy 0, 940, .inl vtb))] → va_S A s.heap H locs → ∀ ls : Array Slot, lv_has ls 4 [(1, .int x_2), (2, .int x_3), (0, .ref vt)] → W p l e ({ frames := 0, cells := 0, slots := 0, locals := 0 }) s m av9 below meth c H locs 0 0 Q9 (F0 m 117 ls []) := by
    intro x_2 x_3 x_4 x_5 x_6 bx_2 bx_3 bx_4 v1_0 v1_1 v1_2 v1_3 v1_4 v1_5 H locs hP hD hS ls hl
    refine lv_aload_n hx hb dX8_readRun_117 rfl (lv_at hl 2 rfl) ?_
    refine lv_iconst (v := 0) hx hb dX8_readRun_118 (by decide) ?_
    refine pf_X8_57 hx hb hts hown hK hP hD hS 0 rfl rfl rfl (Nat.le_of_ble_eq_true rfl) dX8_readRun_119 (fun H locs hP hD hS => ?_)
    have hP : va_P (dC, dI) vwCl [(vt, .inr (9, [.ref vt1, .ref vt2, .int vtL, .int vtli, .int x_4, .int 0, .int vtst, .int vtw, .long x_5, .int x_6, .int vtfk, .int vtfp])), (vt1, .inl (cy 0, 940, .inl vtb))] H := hP
    have hD : va_D A [(vt, .inr (9, [.ref vt1, .ref vt2, .int vtL, .int vtli, .int x_4, .int 0, .int vtst, .int vtw, .long x_5, .int x_6, .int vtfk, .int vtfp])), (vt1, .inl (cy 0, 940, .inl vtb))] := hD
    refine lv_iload_n hx hb dX8_readRun_122 rfl (lv_at hl 1 rfl) ?_
    have k_0 : (0 : Int32).toInt = 0 := by decide
    refine lv_if_ne (tgt := 140) hx hb dX8_readRun_123 (by decide) (fun c_7 => ?_) (fun c_7 => ?_)
    · skip
      have c_7 : ¬ (x_3.toInt = (0 : Int32).toInt) := fun h9 => c_7 (i_eq.mpr h9)
      refine lv_iload_n hx hb dX8_readRun_140 rfl (lv_at hl 0 rfl) ?_
      refine lv_if_ne (tgt := 154) hx hb dX8_readRun_141 (by decide) (fun c_8 => ?_) (fun c_8 => ?_)
      · skip
        have c_8 : ¬ (x_2.toInt = (0 : Int32).toInt) := fun h9 => c_8 (i_eq.mpr h9)
        rw [hQ9]
        exact re_v (x_4, (0 : Int32), x_5, x_6) hx hb hr hlocks ⟨(show 0 ≤ (x_4 : Int32).toInt ∧ (x_4 : Int32).toInt ≤ 940 from ⟨by omega, by omega⟩), (show (x_4 : Int32).toInt = tkrn vtb (vtL : Int32).toInt (vta : Int32).toInt from v1_0), (show x_5 = tkcd vtb (vta : Int32).toInt (x_4 : Int32).toInt from v1_3), (show x_6 = tknm vtb (vta : Int32).toInt (x_4 : Int32).toInt from v1_4), (show (tkcG vtb (vta : Int32).toInt (x_4 : Int32).toInt = 0 ∧ tkcL vtb (vta : Int32).toInt (x_4 : Int32).toInt ≤ 7 ∧ (0 : Int32).toInt = 1) ∨ (¬ (tkcG vtb (vta : Int32).toInt (x_4 : Int32).toInt = 0 ∧ tkcL vtb (vta : Int32).toInt (x_4 : Int32).toInt ≤ 7) ∧ tkcL vtb (vta : Int32).toInt (x_4 : Int32).toInt = 0 ∧ tkcG vtb (vta : Int32).toInt (x_4 : Int32).toInt ≤ 3 ∧ (0 : Int32).toInt = 2) ∨ (¬ (tkcG vtb (vta : Int32).toInt (x_4 : Int32).toInt = 0 ∧ tkcL vtb (vta : Int32).toInt (x_4 : Int32).toInt ≤ 7) ∧ ¬ (tkcL vtb (vta : Int32).toInt (x_4 : Int32).toInt = 0 ∧ tkcG vtb (vta : Int32).toInt (x_4 : Int32).toInt ≤ 3) ∧ (0 : Int32).toInt = 0) from (by have := v1_1; have := v1_2; omega)), (show (x_4 : Int32).toInt ≤ (vtL : Int32).toInt from (by omega))⟩ (hP.sub [0, 1] rfl) (hD.sub [0, 1] rfl rfl) hS dX8_readRun_154
      · skip
        have c_8 : x_2.toInt = (0 : Int32).toInt := i_eq.mp c_8
        refine lv_iload_n hx hb dX8_readRun_144 rfl (lv_at hl 1 rfl) ?_
        refine lv_iconst (v := 3) hx hb dX8_readRun_145 (by decide) ?_
        have k_3 : (3 : Int32).toInt = 3 := by decide
        refine lv_icmp_gt (tgt := 154) hx hb dX8_readRun_146 (by decide) (fun c_9 => ?_) (fun c_9 => ?_)
        · skip
          have c_9 : (3 : Int32).toInt < x_3.toInt := i_lt.mp c_9
          rw [hQ9]
          exact re_v (x_4, (0 : Int32), x_5, x_6) hx hb hr hlocks ⟨(show 0 ≤ (x_4 : Int32).toInt ∧ (x_4 : Int32).toInt ≤ 940 from ⟨by omega, by omega⟩), (show (x_4 : Int32).toInt = tkrn vtb (vtL : Int32).toInt (vta : Int32).toInt from v1_0), (show x_5 = tkcd vtb (vta : Int32).toInt (x_4 : Int32).toInt from v1_3), (show x_6 = tknm vtb (vta : Int32).toInt (x_4 : Int32).toInt from v1_4), (show (tkcG vtb (vta : Int32).toInt (x_4 : Int32).toInt = 0 ∧ tkcL vtb (vta : Int32).toInt (x_4 : Int32).toInt ≤ 7 ∧ (0 : Int32).toInt = 1) ∨ (¬ (tkcG vtb (vta : Int32).toInt (x_4 : Int32).toInt = 0 ∧ tkcL vtb (vta : Int32).toInt (x_4 : Int32).toInt ≤ 7) ∧ tkcL vtb (vta : Int32).toInt (x_4 : Int32).toInt = 0 ∧ tkcG vtb (vta : Int32).toInt (x_4 : Int32).toInt ≤ 3 ∧ (0 : Int32).toInt = 2) ∨ (¬ (tkcG vtb (vta : Int32).toInt (x_4 : Int32).toInt = 0 ∧ tkcL vtb (vta : Int32).toInt (x_4 : Int32).toInt ≤ 7) ∧ ¬ (tkcL vtb (vta : Int32).toInt (x_4 : Int32).toInt = 0 ∧ tkcG vtb (vta : Int32).toInt (x_4 : Int32).toInt ≤ 3) ∧ (0 : Int32).toInt = 0) from (by have := v1_1; have := v1_2; omega)), (show (x_4 : Int32).toInt ≤ (vtL : Int32).toInt from (by omega))⟩ (hP.sub [0, 1] rfl) (hD.sub [0, 1] rfl rfl) hS dX8_readRun_154
        · skip
          have c_9 : ¬ ((3 : Int32).toInt < x_3.toInt) := fun h9 => c_9 (i_lt.mpr h9)
          refine lv_aload_n hx hb dX8_readRun_149 rfl (lv_at hl 2 rfl) ?_
          refine lv_iconst (v := 2) hx hb dX8_readRun_150 (by decide) ?_
          refine pf_X8_57 hx hb hts hown hK hP hD hS 0 rfl rfl rfl (Nat.le_of_ble_eq_true rfl) dX8_readRun_151 (fun H locs hP hD hS => ?_)
          have hP : va_P (dC, dI) vwCl [(vt, .inr (9, [.ref vt1, .ref vt2, .int vtL, .int vtli, .int x_4, .int 2, .int vtst, .int vtw, .long x_5, .int x_6, .int vtfk, .int vtfp])), (vt1, .inl (cy 0, 940, .inl vtb))] H := hP
          have hD : va_D A [(vt, .inr (9, [.ref vt1, .ref vt2, .int vtL, .int vtli, .int x_4, .int 2, .int vtst, .int vtw, .long x_5, .int x_6, .int vtfk, .int vtfp])), (vt1, .inl (cy 0, 940, .inl vtb))] := hD
          have k_2 : (2 : Int32).toInt = 2 := by decide
          rw [hQ9]
          exact re_v (x_4, (2 : Int32), x_5, x_6) hx hb hr hlocks ⟨(show 0 ≤ (x_4 : Int32).toInt ∧ (x_4 : Int32).toInt ≤ 940 from ⟨by omega, by omega⟩), (show (x_4 : Int32).toInt = tkrn vtb (vtL : Int32).toInt (vta : Int32).toInt from v1_0), (show x_5 = tkcd vtb (vta : Int32).toInt (x_4 : Int32).toInt from v1_3), (show x_6 = tknm vtb (vta : Int32).toInt (x_4 : Int32).toInt from v1_4), (show (tkcG vtb (vta : Int32).toInt (x_4 : Int32).toInt = 0 ∧ tkcL vtb (vta : Int32).toInt (x_4 : Int32).toInt ≤ 7 ∧ (2 : Int32).toInt = 1) ∨ (¬ (tkcG vtb (vta : Int32).toInt (x_4 : Int32).toInt = 0 ∧ tkcL vtb (vta : Int32).toInt (x_4 : Int32).toInt ≤ 7) ∧ tkcL vtb (vta : Int32).toInt (x_4 : Int32).toInt = 0 ∧ tkcG vtb (vta : Int32).toInt (x_4 : Int32).toInt ≤ 3 ∧ (2 : Int32).toInt = 2) ∨ (¬ (tkcG vtb (vta : Int32).toInt (x_4 : Int32).toInt = 0 ∧ tkcL vtb (vta : Int32).toInt (x_4 : Int32).toInt ≤ 7) ∧ ¬ (tkcL vtb (vta : Int32).toInt (x_4 : Int32).toInt = 0 ∧ tkcG vtb (vta : Int32).toInt (x_4 : Int32).toInt ≤ 3) ∧ (2 : Int32).toInt = 0) from (by have := v1_1; have := v1_2; omega)), (show (x_4 : Int32).toInt ≤ (vtL : Int32).toInt from (by omega))⟩ (hP.sub [0, 1] rfl) (hD.sub [0, 1] rfl rfl) hS dX8_readRun_154
    · skip
      have c_7 : x_3.toInt = (0 : Int32).toInt := i_eq.mp c_7
      refine lv_iload_n hx hb dX8_readRun_126 rfl (lv_at hl 0 rfl) ?_
      refine lv_bipush (v := 7) hx hb dX8_readRun_127 (by decide) ?_
      have k_7 : (7 : Int32).toInt = 7 := by decide
      refine lv_icmp_gt (tgt := 140) hx hb dX8_readRun_129 (by decide) (fun c_10 => ?_) (fun c_10 => ?_)
      · skip
        have c_10 : (7 : Int32).toInt < x_2.toInt := i_lt.mp c_10
        refine lv_iload_n hx hb dX8_readRun_140 rfl (lv_at hl 0 rfl) ?_
        refine lv_if_ne (tgt := 154) hx hb dX8_readRun_141 (by decide) (fun _ => ?_) (fun c9 => absurd (i_eq.mp c9) (by omega))
        rw [hQ9]
        exact re_v (x_4, (0 : Int32), x_5, x_6) hx hb hr hlocks ⟨(show 0 ≤ (x_4 : Int32).toInt ∧ (x_4 : Int32).toInt ≤ 940 from ⟨by omega, by omega⟩), (show (x_4 : Int32).toInt = tkrn vtb (vtL : Int32).toInt (vta : Int32).toInt from v1_0), (show x_5 = tkcd vtb (vta : Int32).toInt (x_4 : Int32).toInt from v1_3), (show x_6 = tknm vtb (vta : Int32).toInt (x_4 : Int32).toInt from v1_4), (show (tkcG vtb (vta : Int32).toInt (x_4 : Int32).toInt = 0 ∧ tkcL vtb (vta : Int32).toInt (x_4 : Int32).toInt ≤ 7 ∧ (0 : Int32).toInt = 1) ∨ (¬ (tkcG vtb (vta : Int32).toInt (x_4 : Int32).toInt = 0 ∧ tkcL vtb (vta : Int32).toInt (x_4 : Int32).toInt ≤ 7) ∧ tkcL vtb (vta : Int32).toInt (x_4 : Int32).toInt = 0 ∧ tkcG vtb (vta : Int32).toInt (x_4 : Int32).toInt ≤ 3 ∧ (0 : Int32).toInt = 2) ∨ (¬ (tkcG vtb (vta : Int32).toInt (x_4 : Int32).toInt = 0 ∧ tkcL vtb (vta : Int32).toInt (x_4 : Int32).toInt ≤ 7) ∧ ¬ (tkcL vtb (vta : Int32).toInt (x_4 : Int32).toInt = 0 ∧ tkcG vtb (vta : Int32).toInt (x_4 : Int32).toInt ≤ 3) ∧ (0 : Int32).toInt = 0) from (by have := v1_1; have := v1_2; omega)), (show (x_4 : Int32).toInt ≤ (vtL : Int32).toInt from (by omega))⟩ (hP.sub [0, 1] rfl) (hD.sub [0, 1] rfl rfl) hS dX8_readRun_154
      · skip
        have c_10 : ¬ ((7 : Int32).toInt < x_2.toInt) := fun h9 => c_10 (i_lt.mpr h9)
        refine lv_aload_n hx hb dX8_readRun_132 rfl (lv_at hl 2 rfl) ?_
        refine lv_iconst (v := 1) hx hb dX8_readRun_133 (by decide) ?_
        refine pf_X8_57 hx hb hts hown hK hP hD hS 0 rfl rfl rfl (Nat.le_of_ble_eq_true rfl) dX8_readRun_134 (fun H locs hP hD hS => ?_)
        have hP : va_P (dC, dI) vwCl [(vt, .inr (9, [.ref vt1, .ref vt2, .int vtL, .int vtli, .int x_4, .int 1, .int vtst, .int vtw, .long x_5, .int x_6, .int vtfk, .int vtfp])), (vt1, .inl (cy 0, 940, .inl vtb))] H := hP
        have hD : va_D A [(vt, .inr (9, [.ref vt1, .ref vt2, .int vtL, .int vtli, .int x_4, .int 1, .int vtst, .int vtw, .long x_5, .int x_6, .int vtfk, .int vtfp])), (vt1, .inl (cy 0, 940, .inl vtb))] := hD
        refine lv_goto (tgt := 154) hx hb dX8_readRun_137 (by decide) ?_
        have k_1 : (1 : Int32).toInt = 1 := by decide
        rw [hQ9]
        exact re_v (x_4, (1 : Int32), x_5, x_6) hx hb hr hlocks ⟨(show 0 ≤ (x_4 : Int32).toInt ∧ (x_4 : Int32).toInt ≤ 940 from ⟨by omega, by omega⟩), (show (x_4 : Int32).toInt = tkrn vtb (vtL : Int32).toInt (vta : Int32).toInt from v1_0), (show x_5 = tkcd vtb (vta : Int32).toInt (x_4 : Int32).toInt from v1_3), (show x_6 = tknm vtb (vta : Int32).toInt (x_4 : Int32).toInt from v1_4), (show (tkcG vtb (vta : Int32).toInt (x_4 : Int32).toInt = 0 ∧ tkcL vtb (vta : Int32).toInt (x_4 : Int32).toInt ≤ 7 ∧ (1 : Int32).toInt = 1) ∨ (¬ (tkcG vtb (vta : Int32).toInt (x_4 : Int32).toInt = 0 ∧ tkcL vtb (vta : Int32).toInt (x_4 : Int32).toInt ≤ 7) ∧ tkcL vtb (vta : Int32).toInt (x_4 : Int32).toInt = 0 ∧ tkcG vtb (vta : Int32).toInt (x_4 : Int32).toInt ≤ 3 ∧ (1 : Int32).toInt = 2) ∨ (¬ (tkcG vtb (vta : Int32).toInt (x_4 : Int32).toInt = 0 ∧ tkcL vtb (vta : Int32).toInt (x_4 : Int32).toInt ≤ 7) ∧ ¬ (tkcL vtb (vta : Int32).toInt (x_4 : Int32).toInt = 0 ∧ tkcG vtb (vta : Int32).toInt (x_4 : Int32).toInt ≤ 3) ∧ (1 : Int32).toInt = 0) from (by have := v1_1; have := v1_2; omega)), (show (x_4 : Int32).toInt ≤ (vtL : Int32).toInt from (by omega))⟩ (hP.sub [0, 1] rfl) (hD.sub [0, 1] rfl rfl) hS dX8_readRun_154
  have loop11 : ∀ (n11 : Nat) (x_13 : Int32) (x_12 : Int32) (x_14 : Int32) (x_15 : Int64) (x_16 : Int32), (0 ≤ x_13.toInt ∧ x_13.toInt ≤ 940) → (0 ≤ x_12.toInt ∧ x_12.toInt ≤ 940) → (0 ≤ x_14.toInt ∧ x_14.toInt ≤ 940) → (tkrn vtb vtL.toInt x_14.toInt = tkrn vtb vtL.toInt vta.toInt) → (x_13.toInt = tkcL vtb vta.toInt x_14.toInt) → (x_12.toInt = tkcG vtb vta.toInt x_14.toInt) → (x_15 = tkcd vtb vta.toInt x_14.toInt) → (x_16 = tknm vtb vta.toInt x_14.toInt) → (vta.toInt ≤ x_14.toInt) → (x_13.toInt + x_12.toInt = x_14.toInt - vta.toInt ∧ x_14.toInt ≤ vtL.toInt) → 940 - x_14.toInt < (n11 : Int) → ∀ (H : Heap) (locs : List Loc), va_P (dC, dI) vwCl [(vt, .inr (9, [.ref vt1, .ref vt2, .int vtL, .int vtli, .int x_14, .int vtk, .int vtst, .int vtw, .long x_15, .int x_16, .int vtfk, .int vtfp])), (vt1, .inl (cy 0, 940, .inl vtb))] H → va_D A [(vt, .inr (9, [.ref vt1, .ref vt2, .int vtL, .int vtli, .int x_14, .int vtk, .int vtst, .int vtw, .long x_15, .int x_16, .int vtfk, .int vtfp])), (vt1, .inl (cy 0, 940, .inl vtb))] → va_S A s.heap H locs → ∀ ls : Array Slot, lv_has ls 4 [(2, .int x_12), (1, .int x_13), (0, .ref vt)] → W p l e ({ frames := 0, cells := 0, slots := 0, locals := 0 }) s m av9 below meth c H locs 0 0 Q9 (F0 m 14 ls []) := by
    intro n11
    induction n11 with
    | zero =>
      intro x_13 x_12 x_14 x_15 x_16 bx_13 bx_12 bx_14 v11_0 v11_1 v11_2 v11_3 v11_4 v11_5 v11_6 hn11 H locs hP hD hS ls hl
      exfalso; omega
    | succ n11 ih11 =>
      intro x_13 x_12 x_14 x_15 x_16 bx_13 bx_12 bx_14 v11_0 v11_1 v11_2 v11_3 v11_4 v11_5 v11_6 hn11 H locs hP hD hS ls hl
      refine lv_aload_n hx hb dX8_readRun_14 rfl (lv_at hl 2 rfl) ?_
      refine gf_X8_39 hx hb hts hown hK hP 0 rfl rfl dX8_readRun_15 ?_
      refine lv_aload_n hx hb dX8_readRun_18 rfl (lv_at hl 2 rfl) ?_
      refine gf_X8_33 hx hb hts hown hK hP 0 rfl rfl dX8_readRun_19 ?_
      refine lv_icmp_ge (tgt := 117) hx hb dX8_readRun_22 (by decide) (fun c_17 => ?_) (fun c_17 => ?_)
      · skip
        have c_17 : vtL.toInt ≤ x_14.toInt := i_le.mp c_17
        exact join1 x_13 x_12 x_14 x_15 x_16 ⟨by omega, by omega⟩ ⟨by omega, by omega⟩ ⟨by omega, by omega⟩ (Eq.trans (tkrn_at (b := vtb) (n := vtL.toInt) (a := x_14.toInt) (by omega)).symm v11_0) v11_1 v11_2 v11_3 v11_4 (by omega) _ _ (hP.sub [0, 1] rfl) (hD.sub [0, 1] rfl rfl) hS ls (lv_sub hl [1, 0, 2] rfl)
      · skip
        have c_17 : ¬ (vtL.toInt ≤ x_14.toInt) := fun h9 => c_17 (i_le.mpr h9)
        refine lv_aload_n hx hb dX8_readRun_25 rfl (lv_at hl 2 rfl) ?_
        refine gf_X8_9 hx hb hts hown hK hP 0 rfl rfl dX8_readRun_26 ?_
        refine lv_aload_n hx hb dX8_readRun_29 rfl (lv_at hl 2 rfl) ?_
        refine gf_X8_39 hx hb hts hown hK hP 0 rfl rfl dX8_readRun_30 ?_
        have hin_18 : vp_in x_14 940 := vp_in_iff.mpr ⟨by omega, by omega⟩
        refine va_iald hx hb hK hP 1 0 rfl rfl hin_18 dX8_readRun_33 ?_
        refine lv_topi (fun z_19 ez_19 => ?_)
        have bz_19 := p_vtb.at hin_18 ez_19
        refine lv_istore_n (lv' := [(3, .int z_19), (2, .int x_12), (1, .int x_13), (0, .ref vt)]) hx hb dX8_readRun_34 rfl hl (by decide) rfl (fun ls hl => ?_)
        refine lv_iload_n hx hb dX8_readRun_35 rfl (lv_at hl 0 rfl) ?_
        refine lv_bipush (v := 97) hx hb dX8_readRun_36 (by decide) ?_
        have k_97 : (97 : Int32).toInt = 97 := by decide
        refine lv_icmp_lt (tgt := 73) hx hb dX8_readRun_38 (by decide) (fun c_20 => ?_) (fun c_20 => ?_)
        · skip
          have c_20 : z_19.toInt < (97 : Int32).toInt := i_lt.mp c_20
          refine lv_iload_n hx hb dX8_readRun_73 rfl (lv_at hl 0 rfl) ?_
          refine lv_bipush (v := 48) hx hb dX8_readRun_74 (by decide) ?_
          have k_48 : (48 : Int32).toInt = 48 := by decide
          refine lv_icmp_lt (tgt := 117) hx hb dX8_readRun_76 (by decide) (fun c_21 => ?_) (fun c_21 => ?_)
          · skip
            have c_21 : z_19.toInt < (48 : Int32).toInt := i_lt.mp c_21
            exact join1 x_13 x_12 x_14 x_15 x_16 ⟨by omega, by omega⟩ ⟨by omega, by omega⟩ ⟨by omega, by omega⟩ (Eq.trans (tkrn_at (b := vtb) (n := vtL.toInt) (a := x_14.toInt) (by have := tkb_of ez_19; omega)).symm v11_0) v11_1 v11_2 v11_3 v11_4 (by omega) _ _ (hP.sub [0, 1] rfl) (hD.sub [0, 1] rfl rfl) hS ls (lv_sub hl [2, 1, 3] rfl)
          · skip
            have c_21 : ¬ (z_19.toInt < (48 : Int32).toInt) := fun h9 => c_21 (i_lt.mpr h9)
            refine lv_iload_n hx hb dX8_readRun_79 rfl (lv_at hl 0 rfl) ?_
            refine lv_bipush (v := 57) hx hb dX8_readRun_80 (by decide) ?_
            have k_57 : (57 : Int32).toInt = 57 := by decide
            refine lv_icmp_gt (tgt := 117) hx hb dX8_readRun_82 (by decide) (fun c_22 => ?_) (fun c_22 => ?_)
            · skip
              have c_22 : (57 : Int32).toInt < z_19.toInt := i_lt.mp c_22
              exact join1 x_13 x_12 x_14 x_15 x_16 ⟨by omega, by omega⟩ ⟨by omega, by omega⟩ ⟨by omega, by omega⟩ (Eq.trans (tkrn_at (b := vtb) (n := vtL.toInt) (a := x_14.toInt) (by have := tkb_of ez_19; omega)).symm v11_0) v11_1 v11_2 v11_3 v11_4 (by omega) _ _ (hP.sub [0, 1] rfl) (hD.sub [0, 1] rfl rfl) hS ls (lv_sub hl [2, 1, 3] rfl)
            · skip
              have c_22 : ¬ ((57 : Int32).toInt < z_19.toInt) := fun h9 => c_22 (i_lt.mpr h9)
              refine lv_aload_n hx hb dX8_readRun_85 rfl (lv_at hl 3 rfl) ?_
              refine lv_aload_n hx hb dX8_readRun_86 rfl (lv_at hl 3 rfl) ?_
              refine gf_X8_77 hx hb hts hown hK hP 0 rfl rfl dX8_readRun_87 ?_
              refine lv_bipush (v := 10) hx hb dX8_readRun_90 (by decide) ?_
              refine lv_imul hx hb dX8_readRun_92 ?_
              refine lv_topi (fun z_23 ez_23 => ?_)
              refine lv_iload_n hx hb dX8_readRun_93 rfl (lv_at hl 0 rfl) ?_
              refine lv_bipush (v := 48) hx hb dX8_readRun_94 (by decide) ?_
              refine lv_isub hx hb dX8_readRun_96 ?_
              refine lv_topi (fun z_24 ez_24 => ?_)
              have bz_24 : z_24.toInt = z_19.toInt - (48 : Int32).toInt := i_sub ez_24 (by omega) (by omega)
              refine lv_iadd hx hb dX8_readRun_97 ?_
              refine lv_topi (fun z_25 ez_25 => ?_)
              refine pf_X8_77 hx hb hts hown hK hP hD hS 0 rfl rfl rfl (Nat.le_of_ble_eq_true rfl) dX8_readRun_98 (fun H locs hP hD hS => ?_)
              have hP : va_P (dC, dI) vwCl [(vt, .inr (9, [.ref vt1, .ref vt2, .int vtL, .int vtli, .int x_14, .int vtk, .int vtst, .int vtw, .long x_15, .int z_25, .int vtfk, .int vtfp])), (vt1, .inl (cy 0, 940, .inl vtb))] H := hP
              have hD : va_D A [(vt, .inr (9, [.ref vt1, .ref vt2, .int vtL, .int vtli, .int x_14, .int vtk, .int vtst, .int vtw, .long x_15, .int z_25, .int vtfk, .int vtfp])), (vt1, .inl (cy 0, 940, .inl vtb))] := hD
              obtain ⟨z_26, ez_26⟩ : ∃ z : Int32, z = x_12 + 1 := ⟨_, rfl⟩
              have k_1 : (1 : Int32).toInt = 1 := by decide
              have bz_26 : z_26.toInt = x_12.toInt + (1 : Int32).toInt := i_add ez_26 (by omega) (by omega)
              refine lv_iinc (v := z_26) (lv' := [(2, .int z_26), (3, .int z_19), (1, .int x_13), (0, .ref vt)]) hx hb dX8_readRun_101 hl (k := 1) rfl ez_26.symm (by decide) rfl (fun ls hl => ?_)
              refine lv_aload_n hx hb dX8_readRun_104 rfl (lv_at hl 3 rfl) ?_
              refine lv_dup hx hb dX8_readRun_105 rfl ?_
              refine gf_X8_39 hx hb hts hown hK hP 0 rfl rfl dX8_readRun_106 ?_
              refine lv_iconst (v := 1) hx hb dX8_readRun_109 (by decide) ?_
              refine lv_iadd hx hb dX8_readRun_110 ?_
              refine lv_topi (fun z_27 ez_27 => ?_)
              have bz_27 : z_27.toInt = x_14.toInt + (1 : Int32).toInt := i_add ez_27 (by omega) (by omega)
              refine pf_X8_39 hx hb hts hown hK hP hD hS 0 rfl rfl rfl (Nat.le_of_ble_eq_true rfl) dX8_readRun_111 (fun H locs hP hD hS => ?_)
              have hP : va_P (dC, dI) vwCl [(vt, .inr (9, [.ref vt1, .ref vt2, .int vtL, .int vtli, .int z_27, .int vtk, .int vtst, .int vtw, .long x_15, .int z_25, .int vtfk, .int vtfp])), (vt1, .inl (cy 0, 940, .inl vtb))] H := hP
              have hD : va_D A [(vt, .inr (9, [.ref vt1, .ref vt2, .int vtL, .int vtli, .int z_27, .int vtk, .int vtst, .int vtw, .long x_15, .int z_25, .int vtfk, .int vtfp])), (vt1, .inl (cy 0, 940, .inl vtb))] := hD
              refine lv_goto (tgt := 14) hx hb dX8_readRun_114 (by decide) ?_
              exact ih11 x_13 z_26 z_27 x_15 z_25 ⟨by omega, by omega⟩ ⟨by omega, by omega⟩ ⟨by omega, by omega⟩ (Eq.trans (congrArg (fun q9 => tkrn vtb vtL.toInt q9) (show z_27.toInt = x_14.toInt + 1 by omega)) (Eq.trans (tkrn_go (b := vtb) (show x_14.toInt < vtL.toInt by omega) (by have := tkb_of ez_19; omega)) v11_0)) (by rw [show z_27.toInt = x_14.toInt + 1 by omega, (tk_dig (b := vtb) (s := vta.toInt) (a := x_14.toInt) v11_5 (by have := tkb_of ez_19; omega)).1]; omega) (by rw [show z_27.toInt = x_14.toInt + 1 by omega, (tk_dig (b := vtb) (s := vta.toInt) (a := x_14.toInt) v11_5 (by have := tkb_of ez_19; omega)).2.1]; omega) (by rw [show z_27.toInt = x_14.toInt + 1 by omega, (tk_dig (b := vtb) (s := vta.toInt) (a := x_14.toInt) v11_5 (by have := tkb_of ez_19; omega)).2.2.1]; exact v11_3) (tknm_up v11_4 v11_5 (show z_27.toInt = x_14.toInt + 1 by omega) ez_19 (by omega) ez_23 ez_24 ez_25) (by omega) (by omega) (by omega) _ _ (hP.sub [0, 1] rfl) (hD.sub [0, 1] rfl rfl) hS ls (lv_sub hl [0, 2, 3] rfl)
        · skip
          have c_20 : ¬ (z_19.toInt < (97 : Int32).toInt) := fun h9 => c_20 (i_lt.mpr h9)
          refine lv_iload_n hx hb dX8_readRun_41 rfl (lv_at hl 0 rfl) ?_
          refine lv_bipush (v := 122) hx hb dX8_readRun_42 (by decide) ?_
          have k_122 : (122 : Int32).toInt = 122 := by decide
          refine lv_icmp_gt (tgt := 73) hx hb dX8_readRun_44 (by decide) (fun c_28 => ?_) (fun c_28 => ?_)
          · skip
            have c_28 : (122 : Int32).toInt < z_19.toInt := i_lt.mp c_28
            refine lv_iload_n hx hb dX8_readRun_73 rfl (lv_at hl 0 rfl) ?_
            refine lv_bipush (v := 48) hx hb dX8_readRun_74 (by decide) ?_
            have k_48 : (48 : Int32).toInt = 48 := by decide
            refine lv_icmp_lt (tgt := 117) hx hb dX8_readRun_76 (by decide) (fun c9 => absurd (i_lt.mp c9) (by omega)) (fun _ => ?_)
            refine lv_iload_n hx hb dX8_readRun_79 rfl (lv_at hl 0 rfl) ?_
            refine lv_bipush (v := 57) hx hb dX8_readRun_80 (by decide) ?_
            have k_57 : (57 : Int32).toInt = 57 := by decide
            refine lv_icmp_gt (tgt := 117) hx hb dX8_readRun_82 (by decide) (fun _ => ?_) (fun c9 => (c9 (i_lt.mpr (by omega))).elim)
            exact join1 x_13 x_12 x_14 x_15 x_16 ⟨by omega, by omega⟩ ⟨by omega, by omega⟩ ⟨by omega, by omega⟩ (Eq.trans (tkrn_at (b := vtb) (n := vtL.toInt) (a := x_14.toInt) (by have := tkb_of ez_19; omega)).symm v11_0) v11_1 v11_2 v11_3 v11_4 (by omega) _ _ (hP.sub [0, 1] rfl) (hD.sub [0, 1] rfl rfl) hS ls (lv_sub hl [2, 1, 3] rfl)
          · skip
            have c_28 : ¬ ((122 : Int32).toInt < z_19.toInt) := fun h9 => c_28 (i_lt.mpr h9)
            refine lv_aload_n hx hb dX8_readRun_47 rfl (lv_at hl 3 rfl) ?_
            refine lv_aload_n hx hb dX8_readRun_48 rfl (lv_at hl 3 rfl) ?_
            refine gf_X8_73 hx hb hts hown hK hP 0 rfl rfl dX8_readRun_49 ?_
            refine lv_ldc2 hx hb hown (hts _ t92) dX8_readRun_52 ?_
            refine lv_lmul hx hb dX8_readRun_55 ?_
            refine lv_topl (fun y_29 ey_29 => ?_)
            refine lv_iload_n hx hb dX8_readRun_56 rfl (lv_at hl 0 rfl) ?_
            refine lv_bipush (v := 97) hx hb dX8_readRun_57 (by decide) ?_
            refine lv_isub hx hb dX8_readRun_59 ?_
            refine lv_topi (fun z_30 ez_30 => ?_)
            have bz_30 : z_30.toInt = z_19.toInt - (97 : Int32).toInt := i_sub ez_30 (by omega) (by omega)
            refine lv_iconst (v := 1) hx hb dX8_readRun_60 (by decide) ?_
            refine lv_iadd hx hb dX8_readRun_61 ?_
            refine lv_topi (fun z_31 ez_31 => ?_)
            have k_1 : (1 : Int32).toInt = 1 := by decide
            have bz_31 : z_31.toInt = z_30.toInt + (1 : Int32).toInt := i_add ez_31 (by omega) (by omega)
            refine lv_i2l hx hb dX8_readRun_62 rfl ?_
            refine lv_topl (fun y_32 ey_32 => ?_)
            refine lv_ladd hx hb dX8_readRun_63 ?_
            refine lv_topl (fun y_33 ey_33 => ?_)
            refine pf_X8_73 hx hb hts hown hK hP hD hS 0 rfl rfl rfl (Nat.le_of_ble_eq_true rfl) dX8_readRun_64 (fun H locs hP hD hS => ?_)
            have hP : va_P (dC, dI) vwCl [(vt, .inr (9, [.ref vt1, .ref vt2, .int vtL, .int vtli, .int x_14, .int vtk, .int vtst, .int vtw, .long y_33, .int x_16, .int vtfk, .int vtfp])), (vt1, .inl (cy 0, 940, .inl vtb))] H := hP
            have hD : va_D A [(vt, .inr (9, [.ref vt1, .ref vt2, .int vtL, .int vtli, .int x_14, .int vtk, .int vtst, .int vtw, .long y_33, .int x_16, .int vtfk, .int vtfp])), (vt1, .inl (cy 0, 940, .inl vtb))] := hD
            obtain ⟨z_34, ez_34⟩ : ∃ z : Int32, z = x_13 + 1 := ⟨_, rfl⟩
            have bz_34 : z_34.toInt = x_13.toInt + (1 : Int32).toInt := i_add ez_34 (by omega) (by omega)
            refine lv_iinc (v := z_34) (lv' := [(1, .int z_34), (3, .int z_19), (2, .int x_12), (0, .ref vt)]) hx hb dX8_readRun_67 hl (k := 2) rfl ez_34.symm (by decide) rfl (fun ls hl => ?_)
            refine lv_goto (tgt := 104) hx hb dX8_readRun_70 (by decide) ?_
            refine lv_aload_n hx hb dX8_readRun_104 rfl (lv_at hl 3 rfl) ?_
            refine lv_dup hx hb dX8_readRun_105 rfl ?_
            refine gf_X8_39 hx hb hts hown hK hP 0 rfl rfl dX8_readRun_106 ?_
            refine lv_iconst (v := 1) hx hb dX8_readRun_109 (by decide) ?_
            refine lv_iadd hx hb dX8_readRun_110 ?_
            refine lv_topi (fun z_35 ez_35 => ?_)
            have bz_35 : z_35.toInt = x_14.toInt + (1 : Int32).toInt := i_add ez_35 (by omega) (by omega)
            refine pf_X8_39 hx hb hts hown hK hP hD hS 0 rfl rfl rfl (Nat.le_of_ble_eq_true rfl) dX8_readRun_111 (fun H locs hP hD hS => ?_)
            have hP : va_P (dC, dI) vwCl [(vt, .inr (9, [.ref vt1, .ref vt2, .int vtL, .int vtli, .int z_35, .int vtk, .int vtst, .int vtw, .long y_33, .int x_16, .int vtfk, .int vtfp])), (vt1, .inl (cy 0, 940, .inl vtb))] H := hP
            have hD : va_D A [(vt, .inr (9, [.ref vt1, .ref vt2, .int vtL, .int vtli, .int z_35, .int vtk, .int vtst, .int vtw, .long y_33, .int x_16, .int vtfk, .int vtfp])), (vt1, .inl (cy 0, 940, .inl vtb))] := hD
            refine lv_goto (tgt := 14) hx hb dX8_readRun_114 (by decide) ?_
            exact ih11 z_34 x_12 z_35 y_33 x_16 ⟨by omega, by omega⟩ ⟨by omega, by omega⟩ ⟨by omega, by omega⟩ (Eq.trans (congrArg (fun q9 => tkrn vtb vtL.toInt q9) (show z_35.toInt = x_14.toInt + 1 by omega)) (Eq.trans (tkrn_go (b := vtb) (show x_14.toInt < vtL.toInt by omega) (by have := tkb_of ez_19; omega)) v11_0)) (by rw [show z_35.toInt = x_14.toInt + 1 by omega, (tk_let (b := vtb) (s := vta.toInt) (a := x_14.toInt) v11_5 (by have := tkb_of ez_19; omega)).1]; omega) (by rw [show z_35.toInt = x_14.toInt + 1 by omega, (tk_let (b := vtb) (s := vta.toInt) (a := x_14.toInt) v11_5 (by have := tkb_of ez_19; omega)).2.1]; omega) (tkcd_up v11_3 v11_5 (show z_35.toInt = x_14.toInt + 1 by omega) ez_19 (by omega) ez_30 ez_31 ey_29 ey_32 ey_33) (by rw [show z_35.toInt = x_14.toInt + 1 by omega, (tk_let (b := vtb) (s := vta.toInt) (a := x_14.toInt) v11_5 (by have := tkb_of ez_19; omega)).2.2.2]; exact v11_4) (by omega) (by omega) (by omega) _ _ (hP.sub [0, 1] rfl) (hD.sub [0, 1] rfl rfl) hS ls (lv_sub hl [2, 0, 3] rfl)
  have k_0 : (0 : Int32).toInt = 0 := by decide
  exact loop11 ((940 - vta.toInt).toNat + 1) 0 0 vta 0 0 ⟨by omega, by omega⟩ ⟨by omega, by omega⟩ ⟨by omega, by omega⟩ rfl (by rw [tkc0.1, k_0]) (by rw [tkc0.2.1, k_0]) tkc0.2.2.1.symm tkc0.2.2.2.1.symm (Int.le_refl _) (by omega) (by omega) _ _ hP hD hS ls (lv_sub hl [0, 1, 2] rfl)
abbrev cX8_advance : ByteArray := prog_10_method_4_code
def yX8_advance : MethodName := ⟨RX8, "advance", "()V"⟩
theorem t561 : Cond.code yX8_advance cX8_advance 1 none ∈ GW := gw_mem 675 (by decide +kernel) (by decide +kernel)
abbrev O_t_advance (cy : Nat → ClassId) (vt : Nat) (vt1 : Nat) (vt2 : Nat) (vtL : Int32) (vtli : Int32) (vta : Int32) (vtk : Int32) (vtst : Int32) (vtw : Int32) (vtc : Int64) (vtn : Int32) (vtfk : Int32) (vtfp : Int32) (vtb : Nat → Int32) (vtco : Nat → Int64) (u : Int32 × Int32 × Int32 × Int32 × Int64 × Int32) : va_W := [(vt, .inr (9, [.ref vt1, .ref vt2, .int vtL, .int vtli, .int u.1, .int u.2.2.2.1, .int u.2.1, .int u.2.2.1, .long u.2.2.2.2.1, .int u.2.2.2.2.2, .int vtfk, .int vtfp])), (vt1, .inl (cy 0, 940, .inl vtb)), (vt2, .inl (cy 1, 29, .inr (.inl vtco)))]
theorem dX8_advance_52 : decode cX8_advance 52 = .ok (.aload_n 0, 1) := by decide +kernel
theorem dX8_advance_53 : decode cX8_advance 53 = .ok (.aload_n 0, 1) := by decide +kernel
theorem dX8_advance_54 : decode cX8_advance 54 = .ok (.getfield 39, 3) := by decide +kernel
theorem dX8_advance_57 : decode cX8_advance 57 = .ok (.putfield 51, 3) := by decide +kernel
theorem t104 : Cond.fieldLink RX8 51 "LikenessPound$Tape" "start" "I" ∈ GW := gw_mem 218 (by decide +kernel) (by decide +kernel)
theorem pf_X8_51 {p : Program} {l : Launch} {e : Env} {R : Room} {s : State} {m : MethodId} {args : Array Value} {below : List Frame} {meth : Method} {c : Code} {H : Heap} {locs : List Loc} {cells slots : Nat} {Q : State → Prop} {cc : ByteArray} {pc : Nat} {ls : Array Slot} {rest : List Value} {D : va_G} {A : Nat → Prop} {a : Nat} {tys : List (ClassId × FieldType)} {ws : va_W} {H0 : Heap} (hx : p.tables.exec = Jvm.exec) (hb : c.code = cc) (hts : ∀ w ∈ GW, w.before args s = true) (hown : s.vm.findClass RX8 = some m.cls) (hK : va_K D vwCl tys s) (hP : va_P D vwCl ws H) (hD : va_D A ws) (hS0 : va_S A H0 H locs) (q0 : Nat) {fs : List Value} (he : ws[q0]? = some (a, .inr (9, fs))) {v : Value} (hn : narrow (tyX8 6) v = v) (hfit : fits (tyX8 6) v = true) (hl : 6 < fs.length) (hdg : decode cc pc = .ok (.putfield 51, 3)) (kk : ∀ (H1 : Heap) (locs1 : List Loc), va_P D vwCl (ws.set q0 (a, .inr (9, fs.set 6 v))) H1 → va_D A (ws.set q0 (a, .inr (9, fs.set 6 v))) → va_S A H0 H1 locs1 → W p l e R s m args below meth c H1 locs1 cells slots Q (F0 m (pc + 3) ls rest)) : W p l e R s m args below meth c H locs cells slots Q (F0 m pc ls (v :: .ref a :: rest)) := va_put (C := RX8) (T := TX8) (N := 12) (ci := 9) hx hb hts inX8 tyX8 tkX8 nmX8 hown hK hP hD hS0 q0 he rfl 6 (by decide) (hts _ t104) (fun _ h => h) rfl (tkX8 6 (by decide)) hn hfit hl hdg kk
theorem dX8_advance_60 : decode cX8_advance 60 = .ok (.aload_n 0, 1) := by decide +kernel
theorem dX8_advance_61 : decode cX8_advance 61 = .ok (.iconst (-1), 1) := by decide +kernel
theorem dX8_advance_62 : decode cX8_advance 62 = .ok (.putfield 54, 3) := by decide +kernel
theorem t107 : Cond.fieldLink RX8 54 "LikenessPound$Tape" "word" "I" ∈ GW := gw_mem 221 (by decide +kernel) (by decide +kernel)
theorem pf_X8_54 {p : Program} {l : Launch} {e : Env} {R : Room} {s : State} {m : MethodId} {args : Array Value} {below : List Frame} {meth : Method} {c : Code} {H : Heap} {locs : List Loc} {cells slots : Nat} {Q : State → Prop} {cc : ByteArray} {pc : Nat} {ls : Array Slot} {rest : List Value} {D : va_G} {A : Nat → Prop} {a : Nat} {tys : List (ClassId × FieldType)} {ws : va_W} {H0 : Heap} (hx : p.tables.exec = Jvm.exec) (hb : c.code = cc) (hts : ∀ w ∈ GW, w.before args s = true) (hown : s.vm.findClass RX8 = some m.cls) (hK : va_K D vwCl tys s) (hP : va_P D vwCl ws H) (hD : va_D A ws) (hS0 : va_S A H0 H locs) (q0 : Nat) {fs : List Value} (he : ws[q0]? = some (a, .inr (9, fs))) {v : Value} (hn : narrow (tyX8 7) v = v) (hfit : fits (tyX8 7) v = true) (hl : 7 < fs.length) (hdg : decode cc pc = .ok (.putfield 54, 3)) (kk : ∀ (H1 : Heap) (locs1 : List Loc), va_P D vwCl (ws.set q0 (a, .inr (9, fs.set 7 v))) H1 → va_D A (ws.set q0 (a, .inr (9, fs.set 7 v))) → va_S A H0 H1 locs1 → W p l e R s m args below meth c H1 locs1 cells slots Q (F0 m (pc + 3) ls rest)) : W p l e R s m args below meth c H locs cells slots Q (F0 m pc ls (v :: .ref a :: rest)) := va_put (C := RX8) (T := TX8) (N := 12) (ci := 9) hx hb hts inX8 tyX8 tkX8 nmX8 hown hK hP hD hS0 q0 he rfl 7 (by decide) (hts _ t107) (fun _ h => h) rfl (tkX8 7 (by decide)) hn hfit hl hdg kk
theorem dX8_advance_65 : decode cX8_advance 65 = .ok (.aload_n 0, 1) := by decide +kernel
theorem dX8_advance_66 : decode cX8_advance 66 = .ok (.getfield 33, 3) := by decide +kernel
theorem dX8_advance_69 : decode cX8_advance 69 = .ok (.aload_n 0, 1) := by decide +kernel
theorem dX8_advance_70 : decode cX8_advance 70 = .ok (.getfield 36, 3) := by decide +kernel
theorem t98 : Cond.fieldLink RX8 36 "LikenessPound$Tape" "limit" "I" ∈ GW := gw_mem 212 (by decide +kernel) (by decide +kernel)
theorem gf_X8_36 {p : Program} {l : Launch} {e : Env} {R : Room} {s : State} {m : MethodId} {args : Array Value} {below : List Frame} {meth : Method} {c : Code} {H : Heap} {locs : List Loc} {cells slots : Nat} {Q : State → Prop} {cc : ByteArray} {pc : Nat} {ls : Array Slot} {rest : List Value} {D : va_G} {a : Nat} {tys : List (ClassId × FieldType)} {ws : va_W} (hx : p.tables.exec = Jvm.exec) (hb : c.code = cc) (hts : ∀ w ∈ GW, w.before args s = true) (hown : s.vm.findClass RX8 = some m.cls) (hK : va_K D vwCl tys s) (hP : va_P D vwCl ws H) (q0 : Nat) {fs : List Value} (he : ws[q0]? = some (a, .inr (9, fs))) {v : Value} (hv : fs[3]? = some v) (hdg : decode cc pc = .ok (.getfield 36, 3)) (kk : W p l e R s m args below meth c H locs cells slots Q (F0 m (pc + 3) ls (v :: rest))) : W p l e R s m args below meth c H locs cells slots Q (F0 m pc ls (.ref a :: rest)) := va_get (C := RX8) (T := TX8) (N := 12) (ci := 9) hx hb hts inX8 hown hK hP q0 he rfl 3 (by decide) (hts _ t98) (fun _ h => h) hv hdg kk
theorem dX8_advance_73 : decode cX8_advance 73 = .ok (.if_icmp .le 30, 3) := by decide +kernel
theorem dX8_advance_103 : decode cX8_advance 103 = .ok (.aload_n 0, 1) := by decide +kernel
theorem dX8_advance_104 : decode cX8_advance 104 = .ok (.getfield 39, 3) := by decide +kernel
theorem dX8_advance_107 : decode cX8_advance 107 = .ok (.aload_n 0, 1) := by decide +kernel
theorem dX8_advance_108 : decode cX8_advance 108 = .ok (.getfield 33, 3) := by decide +kernel
theorem dX8_advance_111 : decode cX8_advance 111 = .ok (.if_icmp .lt 11, 3) := by decide +kernel
theorem dX8_advance_122 : decode cX8_advance 122 = .ok (.aload_n 0, 1) := by decide +kernel
theorem dX8_advance_123 : decode cX8_advance 123 = .ok (.getfield 9, 3) := by decide +kernel
theorem dX8_advance_126 : decode cX8_advance 126 = .ok (.aload_n 0, 1) := by decide +kernel
theorem dX8_advance_127 : decode cX8_advance 127 = .ok (.getfield 39, 3) := by decide +kernel
theorem dX8_advance_130 : decode cX8_advance 130 = .ok (.iaload, 1) := by decide +kernel
theorem dX8_advance_131 : decode cX8_advance 131 = .ok (.invokestatic 60, 3) := by decide +kernel
theorem t562 : Cond.methodLink RX8 60 yX8_isOfRun ∈ GW := gw_mem 676 (by decide +kernel) (by decide +kernel)
theorem t2 : Cond.initialized RX8 ∈ GW := gw_mem 116 (by decide +kernel) (by decide +kernel)
theorem t563 : Cond.static yX8_isOfRun ∈ GW := gw_mem 677 (by decide +kernel) (by decide +kernel)
theorem cw_X8_60 {R : Room} {s : State} {args : Array Value} {rm : Room} {mc ms : Nat} (hts : ∀ w ∈ GW, w.before args s = true) (hrc : rm.cells = mc) (hrs : rm.slots = ms) (hR : rm.frames + 1 ≤ R.frames ∧ 8 + (1 + 11) + rm.locals ≤ R.locals) : CallB R s args RX8 60 yX8_isOfRun cX8_isOfRun 1 (some .boolean) (wl yX8_isOfRun cX8_isOfRun 1 (some .boolean)) rm mc ms 1 ∧ (Cond.static yX8_isOfRun).before args s = true := va_cwS 1 hts (gi_S t562 t563 t2 t564) rfl hrc hrs (by decide +kernel) hR
theorem dX8_advance_134 : decode cX8_advance 134 = .ok (.ifCond .eq 30, 3) := by decide +kernel
theorem dX8_advance_164 : decode cX8_advance 164 = .ok (.aload_n 0, 1) := by decide +kernel
theorem dX8_advance_165 : decode cX8_advance 165 = .ok (.aload_n 0, 1) := by decide +kernel
theorem dX8_advance_166 : decode cX8_advance 166 = .ok (.getfield 9, 3) := by decide +kernel
theorem dX8_advance_169 : decode cX8_advance 169 = .ok (.aload_n 0, 1) := by decide +kernel
theorem dX8_advance_170 : decode cX8_advance 170 = .ok (.getfield 39, 3) := by decide +kernel
theorem dX8_advance_173 : decode cX8_advance 173 = .ok (.iaload, 1) := by decide +kernel
theorem dX8_advance_174 : decode cX8_advance 174 = .ok (.invokestatic 70, 3) := by decide +kernel
theorem t573 : Cond.methodLink RX8 70 yX8_isSign ∈ GW := gw_mem 687 (by decide +kernel) (by decide +kernel)
theorem t574 : Cond.static yX8_isSign ∈ GW := gw_mem 688 (by decide +kernel) (by decide +kernel)
theorem cw_X8_70 {R : Room} {s : State} {args : Array Value} {rm : Room} {mc ms : Nat} (hts : ∀ w ∈ GW, w.before args s = true) (hrc : rm.cells = mc) (hrs : rm.slots = ms) (hR : rm.frames + 1 ≤ R.frames ∧ 8 + (1 + 11) + rm.locals ≤ R.locals) : CallB R s args RX8 70 yX8_isSign cX8_isSign 1 (some .boolean) (wl yX8_isSign cX8_isSign 1 (some .boolean)) rm mc ms 1 ∧ (Cond.static yX8_isSign).before args s = true := va_cwS 1 hts (gi_S t573 t574 t2 t575) rfl hrc hrs (by decide +kernel) hR
theorem dX8_advance_177 : decode cX8_advance 177 = .ok (.ifCond .eq 15, 3) := by decide +kernel
theorem dX8_advance_192 : decode cX8_advance 192 = .ok (.iconst 0, 1) := by decide +kernel
theorem dX8_advance_193 : decode cX8_advance 193 = .ok (.putfield 57, 3) := by decide +kernel
theorem dX8_advance_196 : decode cX8_advance 196 = .ok (.aload_n 0, 1) := by decide +kernel
theorem dX8_advance_197 : decode cX8_advance 197 = .ok (.dup, 1) := by decide +kernel
theorem dX8_advance_198 : decode cX8_advance 198 = .ok (.getfield 39, 3) := by decide +kernel
theorem dX8_advance_201 : decode cX8_advance 201 = .ok (.iconst 1, 1) := by decide +kernel
theorem dX8_advance_202 : decode cX8_advance 202 = .ok (.iadd, 1) := by decide +kernel
theorem dX8_advance_203 : decode cX8_advance 203 = .ok (.putfield 39, 3) := by decide +kernel
theorem dX8_advance_206 : decode cX8_advance 206 = .ok (.return_, 1) := by decide +kernel
theorem dX8_advance_180 : decode cX8_advance 180 = .ok (.aload_n 0, 1) := by decide +kernel
theorem dX8_advance_181 : decode cX8_advance 181 = .ok (.getfield 9, 3) := by decide +kernel
theorem dX8_advance_184 : decode cX8_advance 184 = .ok (.aload_n 0, 1) := by decide +kernel
theorem dX8_advance_185 : decode cX8_advance 185 = .ok (.getfield 39, 3) := by decide +kernel
theorem dX8_advance_188 : decode cX8_advance 188 = .ok (.iaload, 1) := by decide +kernel
theorem dX8_advance_189 : decode cX8_advance 189 = .ok (.goto 4, 3) := by decide +kernel
theorem dX8_advance_137 : decode cX8_advance 137 = .ok (.aload_n 0, 1) := by decide +kernel
theorem dX8_advance_138 : decode cX8_advance 138 = .ok (.invokevirtual 64, 3) := by decide +kernel
theorem t565 : Cond.methodLink RX8 64 yX8_readRun ∈ GW := gw_mem 679 (by decide +kernel) (by decide +kernel)
theorem t567 : Cond.instanceMethod yX8_readRun ∈ GW := gw_mem 681 (by decide +kernel) (by decide +kernel)
theorem s0 : Cond.selects RX8 yX8_readRun yX8_readRun ∈ GW := gw_mem 0 (by decide +kernel) (by decide +kernel)
theorem cw_X8_64 {R : Room} {s : State} {args : Array Value} {rm : Room} {mc ms : Nat} (hts : ∀ w ∈ GW, w.before args s = true) (hrc : rm.cells = mc) (hrs : rm.slots = ms) (hR : rm.frames + 1 ≤ R.frames ∧ 8 + (4 + 11) + rm.locals ≤ R.locals) : CallW R s args RX8 RX8 64 yX8_readRun cX8_readRun 4 none (wl yX8_readRun cX8_readRun 4 none) rm mc ms 0 := cwV 0 hts (gi_V t565 t567 s0 t2 t568) rfl hrc hrs (by decide +kernel) hR
theorem dX8_advance_141 : decode cX8_advance 141 = .ok (.aload_n 0, 1) := by decide +kernel
theorem dX8_advance_142 : decode cX8_advance 142 = .ok (.aload_n 0, 1) := by decide +kernel
theorem dX8_advance_143 : decode cX8_advance 143 = .ok (.getfield 57, 3) := by decide +kernel
theorem gf_X8_57 {p : Program} {l : Launch} {e : Env} {R : Room} {s : State} {m : MethodId} {args : Array Value} {below : List Frame} {meth : Method} {c : Code} {H : Heap} {locs : List Loc} {cells slots : Nat} {Q : State → Prop} {cc : ByteArray} {pc : Nat} {ls : Array Slot} {rest : List Value} {D : va_G} {a : Nat} {tys : List (ClassId × FieldType)} {ws : va_W} (hx : p.tables.exec = Jvm.exec) (hb : c.code = cc) (hts : ∀ w ∈ GW, w.before args s = true) (hown : s.vm.findClass RX8 = some m.cls) (hK : va_K D vwCl tys s) (hP : va_P D vwCl ws H) (q0 : Nat) {fs : List Value} (he : ws[q0]? = some (a, .inr (9, fs))) {v : Value} (hv : fs[5]? = some v) (hdg : decode cc pc = .ok (.getfield 57, 3)) (kk : W p l e R s m args below meth c H locs cells slots Q (F0 m (pc + 3) ls (v :: rest))) : W p l e R s m args below meth c H locs cells slots Q (F0 m pc ls (.ref a :: rest)) := va_get (C := RX8) (T := TX8) (N := 12) (ci := 9) hx hb hts inX8 hown hK hP q0 he rfl 5 (by decide) (hts _ t103) (fun _ h => h) hv hdg kk
theorem dX8_advance_146 : decode cX8_advance 146 = .ok (.iconst 1, 1) := by decide +kernel
theorem dX8_advance_147 : decode cX8_advance 147 = .ok (.if_icmp .ne 10, 3) := by decide +kernel
theorem dX8_advance_157 : decode cX8_advance 157 = .ok (.iconst (-1), 1) := by decide +kernel
theorem dX8_advance_158 : decode cX8_advance 158 = .ok (.putfield 54, 3) := by decide +kernel
theorem dX8_advance_161 : decode cX8_advance 161 = .ok (.goto 45, 3) := by decide +kernel
theorem dX8_advance_150 : decode cX8_advance 150 = .ok (.aload_n 0, 1) := by decide +kernel
theorem dX8_advance_151 : decode cX8_advance 151 = .ok (.invokevirtual 67, 3) := by decide +kernel
theorem t569 : Cond.methodLink RX8 67 yX8_findWord ∈ GW := gw_mem 683 (by decide +kernel) (by decide +kernel)
theorem t571 : Cond.instanceMethod yX8_findWord ∈ GW := gw_mem 685 (by decide +kernel) (by decide +kernel)
theorem s1 : Cond.selects RX8 yX8_findWord yX8_findWord ∈ GW := gw_mem 1 (by decide +kernel) (by decide +kernel)
theorem cw_X8_67 {R : Room} {s : State} {args : Array Value} {rm : Room} {mc ms : Nat} (hts : ∀ w ∈ GW, w.before args s = true) (hrc : rm.cells = mc) (hrs : rm.slots = ms) (hR : rm.frames + 1 ≤ R.frames ∧ 8 + (2 + 11) + rm.locals ≤ R.locals) : CallW R s args RX8 RX8 67 yX8_findWord cX8_findWord 2 (some .int) (wl yX8_findWord cX8_findWord 2 (some .int)) rm mc ms 0 := cwV 0 hts (gi_V t569 t571 s1 t2 t572) rfl hrc hrs (by decide +kernel) hR
theorem dX8_advance_154 : decode cX8_advance 154 = .ok (.goto 4, 3) := by decide +kernel
theorem dX8_advance_114 : decode cX8_advance 114 = .ok (.aload_n 0, 1) := by decide +kernel
theorem dX8_advance_115 : decode cX8_advance 115 = .ok (.iconst 3, 1) := by decide +kernel
theorem dX8_advance_116 : decode cX8_advance 116 = .ok (.putfield 57, 3) := by decide +kernel
theorem dX8_advance_119 : decode cX8_advance 119 = .ok (.goto 87, 3) := by decide +kernel
theorem dX8_advance_76 : decode cX8_advance 76 = .ok (.aload_n 0, 1) := by decide +kernel
theorem dX8_advance_77 : decode cX8_advance 77 = .ok (.getfield 39, 3) := by decide +kernel
theorem dX8_advance_80 : decode cX8_advance 80 = .ok (.aload_n 0, 1) := by decide +kernel
theorem dX8_advance_81 : decode cX8_advance 81 = .ok (.getfield 36, 3) := by decide +kernel
theorem dX8_advance_84 : decode cX8_advance 84 = .ok (.if_icmp .lt 19, 3) := by decide +kernel
theorem dX8_advance_87 : decode cX8_advance 87 = .ok (.aload_n 0, 1) := by decide +kernel
theorem dX8_advance_88 : decode cX8_advance 88 = .ok (.iconst 0, 1) := by decide +kernel
theorem dX8_advance_89 : decode cX8_advance 89 = .ok (.putfield 57, 3) := by decide +kernel
theorem dX8_advance_92 : decode cX8_advance 92 = .ok (.aload_n 0, 1) := by decide +kernel
theorem dX8_advance_93 : decode cX8_advance 93 = .ok (.aload_n 0, 1) := by decide +kernel
theorem dX8_advance_94 : decode cX8_advance 94 = .ok (.getfield 36, 3) := by decide +kernel
theorem dX8_advance_97 : decode cX8_advance 97 = .ok (.putfield 51, 3) := by decide +kernel
theorem dX8_advance_100 : decode cX8_advance 100 = .ok (.goto 106, 3) := by decide +kernel
theorem dX8_advance_0 : decode cX8_advance 0 = .ok (.aload_n 0, 1) := by decide +kernel
theorem dX8_advance_1 : decode cX8_advance 1 = .ok (.getfield 39, 3) := by decide +kernel
theorem dX8_advance_4 : decode cX8_advance 4 = .ok (.aload_n 0, 1) := by decide +kernel
theorem dX8_advance_5 : decode cX8_advance 5 = .ok (.getfield 33, 3) := by decide +kernel
theorem dX8_advance_8 : decode cX8_advance 8 = .ok (.if_icmp .ge 44, 3) := by decide +kernel
theorem dX8_advance_11 : decode cX8_advance 11 = .ok (.aload_n 0, 1) := by decide +kernel
theorem dX8_advance_12 : decode cX8_advance 12 = .ok (.getfield 9, 3) := by decide +kernel
theorem dX8_advance_15 : decode cX8_advance 15 = .ok (.aload_n 0, 1) := by decide +kernel
theorem dX8_advance_16 : decode cX8_advance 16 = .ok (.getfield 39, 3) := by decide +kernel
theorem dX8_advance_19 : decode cX8_advance 19 = .ok (.iaload, 1) := by decide +kernel
theorem dX8_advance_20 : decode cX8_advance 20 = .ok (.bipush 32, 2) := by decide +kernel
theorem dX8_advance_22 : decode cX8_advance 22 = .ok (.if_icmp .eq 17, 3) := by decide +kernel
theorem dX8_advance_39 : decode cX8_advance 39 = .ok (.aload_n 0, 1) := by decide +kernel
theorem dX8_advance_40 : decode cX8_advance 40 = .ok (.dup, 1) := by decide +kernel
theorem dX8_advance_41 : decode cX8_advance 41 = .ok (.getfield 39, 3) := by decide +kernel
theorem dX8_advance_44 : decode cX8_advance 44 = .ok (.iconst 1, 1) := by decide +kernel
theorem dX8_advance_45 : decode cX8_advance 45 = .ok (.iadd, 1) := by decide +kernel
theorem dX8_advance_46 : decode cX8_advance 46 = .ok (.putfield 39, 3) := by decide +kernel
theorem dX8_advance_49 : decode cX8_advance 49 = .ok (.goto (-49), 3) := by decide +kernel
theorem dX8_advance_25 : decode cX8_advance 25 = .ok (.aload_n 0, 1) := by decide +kernel
theorem dX8_advance_26 : decode cX8_advance 26 = .ok (.getfield 9, 3) := by decide +kernel
theorem dX8_advance_29 : decode cX8_advance 29 = .ok (.aload_n 0, 1) := by decide +kernel
theorem dX8_advance_30 : decode cX8_advance 30 = .ok (.getfield 39, 3) := by decide +kernel
theorem dX8_advance_33 : decode cX8_advance 33 = .ok (.iaload, 1) := by decide +kernel
theorem dX8_advance_34 : decode cX8_advance 34 = .ok (.bipush 10, 2) := by decide +kernel
theorem dX8_advance_36 : decode cX8_advance 36 = .ok (.if_icmp .ne 16, 3) := by decide +kernel
set_option maxHeartbeats 4000000 in
set_option maxRecDepth 100000 in
theorem t_advance (l : Launch) (dC : Nat → ClassId) (dI : Nat → Nat → Nat) (cy : Nat → ClassId) (sz : Nat) (vt : Nat) (vt1 : Nat) (vt2 : Nat) (vtL : Int32) (vtli : Int32) (vta : Int32) (vtk : Int32) (vtst : Int32) (vtw : Int32) (vtc : Int64) (vtn : Int32) (vtfk : Int32) (vtfp : Int32) (vtb : Nat → Int32) (vtco : Nat → Int64) (r_vtL : 0 ≤ (vtL : Int32).toInt ∧ (vtL : Int32).toInt ≤ 940) (r_vta : 0 ≤ (vta : Int32).toInt ∧ (vta : Int32).toInt ≤ 940) (p_vtb : Rg vtb 940 0 255) (hco : tkWC vtco) (hle : (vta : Int32).toInt ≤ (vtL : Int32).toInt) : Met l yX8_advance (wl yX8_advance cX8_advance 1 none) ({ frames := 1, cells := 0, slots := 0, locals := 64 }) (Pw (dC, dI) vwCl cy [(vt, .inr (9, [.ref vt1, .ref vt2, .int vtL, .int vtli, .int vta, .int vtk, .int vtst, .int vtw, .long vtc, .int vtn, .int vtfk, .int vtfp])), (vt1, .inl (cy 0, 940, .inl vtb)), (vt2, .inl (cy 1, 29, .inr (.inl vtco)))] sz [.ref vt] nE) (Qv (dC, dI) vwCl (fun (u : Int32 × Int32 × Int32 × Int32 × Int64 × Int32) => (0 ≤ (u.1 : Int32).toInt ∧ (u.1 : Int32).toInt ≤ 940) ∧ ((u.1 : Int32).toInt = tkN vtb (vtL : Int32).toInt (vtli : Int32).toInt (vta : Int32).toInt) ∧ ((u.2.2.2.1 : Int32).toInt = tkK vtb (vtL : Int32).toInt (vtli : Int32).toInt (vta : Int32).toInt) ∧ ((u.2.1 : Int32).toInt = tkS vtb (vtL : Int32).toInt (vtli : Int32).toInt (vta : Int32).toInt) ∧ ((u.2.2.1 : Int32).toInt = tkW vtb (vtL : Int32).toInt (vtli : Int32).toInt (vta : Int32).toInt) ∧ (tkCd vtb (vtL : Int32).toInt (vtli : Int32).toInt (vta : Int32).toInt u.2.2.2.2.1) ∧ (tkK vtb (vtL : Int32).toInt (vtli : Int32).toInt (vta : Int32).toInt = 2 → u.2.2.2.2.2 = tkVi vtb (vtL : Int32).toInt (vta : Int32).toInt) ∧ (tkK vtb (vtL : Int32).toInt (vtli : Int32).toInt (vta : Int32).toInt = 2 → (u.2.2.2.2.2 : Int32).toInt = (tkVi vtb (vtL : Int32).toInt (vta : Int32).toInt).toInt) ∧ ((u.1 : Int32).toInt ≤ (vtL : Int32).toInt)) (O_t_advance cy vt vt1 vt2 vtL vtli vta vtk vtst vtw vtc vtn vtfk vtfp vtb vtco) (va_A [(vt, .inr (9, [.ref vt1, .ref vt2, .int vtL, .int vtli, .int vta, .int vtk, .int vtst, .int vtw, .long vtc, .int vtn, .int vtfk, .int vtfp])), (vt1, .inl (cy 0, 940, .inl vtb)), (vt2, .inl (cy 1, 29, .inr (.inl vtco)))] sz)) 0 0 (va_A [(vt, .inr (9, [.ref vt1, .ref vt2, .int vtL, .int vtli, .int vta, .int vtk, .int vtst, .int vtw, .long vtc, .int vtn, .int vtfk, .int vtfp])), (vt1, .inl (cy 0, 940, .inl vtb)), (vt2, .inl (cy 1, 29, .inr (.inl vtco)))] sz) := by
  refine mw (Qc := Qv (dC, dI) vwCl (fun (u : Int32 × Int32 × Int32 × Int32 × Int64 × Int32) => (0 ≤ (u.1 : Int32).toInt ∧ (u.1 : Int32).toInt ≤ 940) ∧ ((u.1 : Int32).toInt = tkN vtb (vtL : Int32).toInt (vtli : Int32).toInt (vta : Int32).toInt) ∧ ((u.2.2.2.1 : Int32).toInt = tkK vtb (vtL : Int32).toInt (vtli : Int32).toInt (vta : Int32).toInt) ∧ ((u.2.1 : Int32).toInt = tkS vtb (vtL : Int32).toInt (vtli : Int32).toInt (vta : Int32).toInt) ∧ ((u.2.2.1 : Int32).toInt = tkW vtb (vtL : Int32).toInt (vtli : Int32).toInt (vta : Int32).toInt) ∧ (tkCd vtb (vtL : Int32).toInt (vtli : Int32).toInt (vta : Int32).toInt u.2.2.2.2.1) ∧ (tkK vtb (vtL : Int32).toInt (vtli : Int32).toInt (vta : Int32).toInt = 2 → u.2.2.2.2.2 = tkVi vtb (vtL : Int32).toInt (vta : Int32).toInt) ∧ (tkK vtb (vtL : Int32).toInt (vtli : Int32).toInt (vta : Int32).toInt = 2 → (u.2.2.2.2.2 : Int32).toInt = (tkVi vtb (vtL : Int32).toInt (vta : Int32).toInt).toInt) ∧ ((u.1 : Int32).toInt ≤ (vtL : Int32).toInt)) (O_t_advance cy vt vt1 vt2 vtL vtli vta vtk vtst vtw vtc vtn vtfk vtfp vtb vtco)) RX8 rfl (by decide +kernel) (Nat.le_of_ble_eq_true rfl) ?_
  intro p e s m below meth c A hx hb hr hlocks av9 hav hts hown hnm hml hK hP hD hA hS hE hAe Q9 hQ9 ls hl
  have hl : lv_has ls 1 [(0, .ref vt)] := hl
  have join1 : ∀ (x_2 : Int32), (0 ≤ x_2.toInt ∧ x_2.toInt ≤ 940) → (tksk vtb vtL.toInt vta.toInt = x_2.toInt) → (x_2.toInt ≤ vtL.toInt) → ∀ (H : Heap) (locs : List Loc), va_P (dC, dI) vwCl [(vt, .inr (9, [.ref vt1, .ref vt2, .int vtL, .int vtli, .int x_2, .int vtk, .int vtst, .int vtw, .long vtc, .int vtn, .int vtfk, .int vtfp])), (vt1, .inl (cy 0, 940, .inl vtb)), (vt2, .inl (cy 1, 29, .inr (.inl vtco)))] H → va_D A [(vt, .inr (9, [.ref vt1, .ref vt2, .int vtL, .int vtli, .int x_2, .int vtk, .int vtst, .int vtw, .long vtc, .int vtn, .int vtfk, .int vtfp])), (vt1, .inl (cy 0, 940, .inl vtb)), (vt2, .inl (cy 1, 29, .inr (.inl vtco)))] → va_S A s.heap H locs → ∀ ls : Array Slot, lv_has ls 1 [(0, .ref vt)] → W p l e ({ frames := 1, cells := 0, slots := 0, locals := 64 }) s m av9 below meth c H locs 0 0 Q9 (F0 m 52 ls []) := by
    intro x_2 bx_2 v1_0 v1_1 H locs hP hD hS ls hl
    refine lv_aload_n hx hb dX8_advance_52 rfl (lv_at hl 0 rfl) ?_
    refine lv_aload_n hx hb dX8_advance_53 rfl (lv_at hl 0 rfl) ?_
    refine gf_X8_39 hx hb hts hown hK hP 0 rfl rfl dX8_advance_54 ?_
    refine pf_X8_51 hx hb hts hown hK hP hD hS 0 rfl rfl rfl (Nat.le_of_ble_eq_true rfl) dX8_advance_57 (fun H locs hP hD hS => ?_)
    have hP : va_P (dC, dI) vwCl [(vt, .inr (9, [.ref vt1, .ref vt2, .int vtL, .int vtli, .int x_2, .int vtk, .int x_2, .int vtw, .long vtc, .int vtn, .int vtfk, .int vtfp])), (vt1, .inl (cy 0, 940, .inl vtb)), (vt2, .inl (cy 1, 29, .inr (.inl vtco)))] H := hP
    have hD : va_D A [(vt, .inr (9, [.ref vt1, .ref vt2, .int vtL, .int vtli, .int x_2, .int vtk, .int x_2, .int vtw, .long vtc, .int vtn, .int vtfk, .int vtfp])), (vt1, .inl (cy 0, 940, .inl vtb)), (vt2, .inl (cy 1, 29, .inr (.inl vtco)))] := hD
    refine lv_aload_n hx hb dX8_advance_60 rfl (lv_at hl 0 rfl) ?_
    refine lv_iconst (v := (-1)) hx hb dX8_advance_61 (by decide) ?_
    refine pf_X8_54 hx hb hts hown hK hP hD hS 0 rfl rfl rfl (Nat.le_of_ble_eq_true rfl) dX8_advance_62 (fun H locs hP hD hS => ?_)
    have hP : va_P (dC, dI) vwCl [(vt, .inr (9, [.ref vt1, .ref vt2, .int vtL, .int vtli, .int x_2, .int vtk, .int x_2, .int (-1), .long vtc, .int vtn, .int vtfk, .int vtfp])), (vt1, .inl (cy 0, 940, .inl vtb)), (vt2, .inl (cy 1, 29, .inr (.inl vtco)))] H := hP
    have hD : va_D A [(vt, .inr (9, [.ref vt1, .ref vt2, .int vtL, .int vtli, .int x_2, .int vtk, .int x_2, .int (-1), .long vtc, .int vtn, .int vtfk, .int vtfp])), (vt1, .inl (cy 0, 940, .inl vtb)), (vt2, .inl (cy 1, 29, .inr (.inl vtco)))] := hD
    refine lv_aload_n hx hb dX8_advance_65 rfl (lv_at hl 0 rfl) ?_
    refine gf_X8_33 hx hb hts hown hK hP 0 rfl rfl dX8_advance_66 ?_
    refine lv_aload_n hx hb dX8_advance_69 rfl (lv_at hl 0 rfl) ?_
    refine gf_X8_36 hx hb hts hown hK hP 0 rfl rfl dX8_advance_70 ?_
    refine lv_icmp_le (tgt := 103) hx hb dX8_advance_73 (by decide) (fun c_3 => ?_) (fun c_3 => ?_)
    · skip
      have c_3 : vtL.toInt ≤ vtli.toInt := i_le.mp c_3
      refine lv_aload_n hx hb dX8_advance_103 rfl (lv_at hl 0 rfl) ?_
      refine gf_X8_39 hx hb hts hown hK hP 0 rfl rfl dX8_advance_104 ?_
      refine lv_aload_n hx hb dX8_advance_107 rfl (lv_at hl 0 rfl) ?_
      refine gf_X8_33 hx hb hts hown hK hP 0 rfl rfl dX8_advance_108 ?_
      refine lv_icmp_lt (tgt := 122) hx hb dX8_advance_111 (by decide) (fun c_4 => ?_) (fun c_4 => ?_)
      · skip
        have c_4 : x_2.toInt < vtL.toInt := i_lt.mp c_4
        refine lv_aload_n hx hb dX8_advance_122 rfl (lv_at hl 0 rfl) ?_
        refine gf_X8_9 hx hb hts hown hK hP 0 rfl rfl dX8_advance_123 ?_
        refine lv_aload_n hx hb dX8_advance_126 rfl (lv_at hl 0 rfl) ?_
        refine gf_X8_39 hx hb hts hown hK hP 0 rfl rfl dX8_advance_127 ?_
        have hin_5 : vp_in x_2 940 := vp_in_iff.mpr ⟨by omega, by omega⟩
        refine va_iald hx hb hK hP 1 0 rfl rfl hin_5 dX8_advance_130 ?_
        refine lv_topi (fun z_6 ez_6 => ?_)
        have bz_6 := p_vtb.at hin_5 ez_6
        refine jr_i (rSr (As := [.int z_6]) (rest := []) ⟨hx, hb, hml, hown, hts⟩ (t_isOfRun l dC dI cy z_6 ) (cw_X8_60 hts rfl rfl ⟨Nat.le_of_ble_eq_true rfl, Nat.le_of_ble_eq_true rfl⟩) hP hK [] rfl rfl hl.1 rfl (Nat.le_of_ble_eq_true rfl) dX8_advance_131 ⟨Nat.le_of_ble_eq_true rfl, Nat.le_of_ble_eq_true rfl⟩) hP hS (fun r_7 H locs hp_8 hP hS => ?_)
        have hp_8 : ((r_7 = 0 ∧ (¬ ((97 ≤ (z_6 : Int32).toInt ∧ (z_6 : Int32).toInt ≤ 122) ∨ (48 ≤ (z_6 : Int32).toInt ∧ (z_6 : Int32).toInt ≤ 57)))) ∨ (r_7 = 1 ∧ ((97 ≤ (z_6 : Int32).toInt ∧ (z_6 : Int32).toInt ≤ 122) ∨ (48 ≤ (z_6 : Int32).toInt ∧ (z_6 : Int32).toInt ≤ 57)))) := hp_8
        have q_9 := hp_8
        rcases q_9 with ⟨aq_9, f0q_9⟩ | ⟨aq_9, f0q_9⟩
        · skip
          refine as_i 0 aq_9 ?_
          refine lv_if_eq (tgt := 164) hx hb dX8_advance_134 (by decide) (fun _ => ?_) (fun c9 => absurd (by decide) c9)
          refine lv_aload_n hx hb dX8_advance_164 rfl (lv_at hl 0 rfl) ?_
          refine lv_aload_n hx hb dX8_advance_165 rfl (lv_at hl 0 rfl) ?_
          refine gf_X8_9 hx hb hts hown hK hP 0 rfl rfl dX8_advance_166 ?_
          refine lv_aload_n hx hb dX8_advance_169 rfl (lv_at hl 0 rfl) ?_
          refine gf_X8_39 hx hb hts hown hK hP 0 rfl rfl dX8_advance_170 ?_
          have hin_10 : vp_in x_2 940 := vp_in_iff.mpr ⟨by omega, by omega⟩
          refine va_iald hx hb hK hP 1 0 rfl rfl hin_10 dX8_advance_173 ?_
          refine lv_topi (fun z_11 ez_11 => ?_)
          have bz_11 := p_vtb.at hin_10 ez_11
          refine jr_i (rSr (As := [.int z_11]) (rest := [.ref vt]) ⟨hx, hb, hml, hown, hts⟩ (t_isSign l dC dI cy z_11 ) (cw_X8_70 hts rfl rfl ⟨Nat.le_of_ble_eq_true rfl, Nat.le_of_ble_eq_true rfl⟩) hP hK [] rfl rfl hl.1 rfl (Nat.le_of_ble_eq_true rfl) dX8_advance_174 ⟨Nat.le_of_ble_eq_true rfl, Nat.le_of_ble_eq_true rfl⟩) hP hS (fun r_12 H locs hp_13 hP hS => ?_)
          have hp_13 : ((r_12 = 0 ∧ (¬ ((z_11 : Int32).toInt = 59 ∨ (z_11 : Int32).toInt = 60 ∨ (z_11 : Int32).toInt = 61 ∨ (z_11 : Int32).toInt = 62 ∨ (z_11 : Int32).toInt = 40 ∨ (z_11 : Int32).toInt = 41))) ∨ (r_12 = 1 ∧ ((z_11 : Int32).toInt = 59 ∨ (z_11 : Int32).toInt = 60 ∨ (z_11 : Int32).toInt = 61 ∨ (z_11 : Int32).toInt = 62 ∨ (z_11 : Int32).toInt = 40 ∨ (z_11 : Int32).toInt = 41))) := hp_13
          have q_14 := hp_13
          rcases q_14 with ⟨aq_14, f0q_14⟩ | ⟨aq_14, f0q_14⟩
          · skip
            refine as_i 0 aq_14 ?_
            refine lv_if_eq (tgt := 192) hx hb dX8_advance_177 (by decide) (fun _ => ?_) (fun c9 => absurd (by decide) c9)
            obtain ⟨T0, T1, T2, T3⟩ := tok_bad (b := vtb) (n := vtL.toInt) (lim := vtli.toInt) (a := vta.toInt) v1_0 (by omega) (by omega) (by have t9 := tkb_of ez_6; omega) (by have t9 := tkb_of ez_11; omega)
            refine lv_iconst (v := 0) hx hb dX8_advance_192 (by decide) ?_
            refine pf_X8_57 hx hb hts hown hK hP hD hS 0 rfl rfl rfl (Nat.le_of_ble_eq_true rfl) dX8_advance_193 (fun H locs hP hD hS => ?_)
            have hP : va_P (dC, dI) vwCl [(vt, .inr (9, [.ref vt1, .ref vt2, .int vtL, .int vtli, .int x_2, .int 0, .int x_2, .int (-1), .long vtc, .int vtn, .int vtfk, .int vtfp])), (vt1, .inl (cy 0, 940, .inl vtb)), (vt2, .inl (cy 1, 29, .inr (.inl vtco)))] H := hP
            have hD : va_D A [(vt, .inr (9, [.ref vt1, .ref vt2, .int vtL, .int vtli, .int x_2, .int 0, .int x_2, .int (-1), .long vtc, .int vtn, .int vtfk, .int vtfp])), (vt1, .inl (cy 0, 940, .inl vtb)), (vt2, .inl (cy 1, 29, .inr (.inl vtco)))] := hD
            refine lv_aload_n hx hb dX8_advance_196 rfl (lv_at hl 0 rfl) ?_
            refine lv_dup hx hb dX8_advance_197 rfl ?_
            refine gf_X8_39 hx hb hts hown hK hP 0 rfl rfl dX8_advance_198 ?_
            refine lv_iconst (v := 1) hx hb dX8_advance_201 (by decide) ?_
            refine lv_iadd hx hb dX8_advance_202 ?_
            refine lv_topi (fun z_15 ez_15 => ?_)
            have k_1 : (1 : Int32).toInt = 1 := by decide
            have bz_15 : z_15.toInt = x_2.toInt + (1 : Int32).toInt := i_add ez_15 (by omega) (by omega)
            refine pf_X8_39 hx hb hts hown hK hP hD hS 0 rfl rfl rfl (Nat.le_of_ble_eq_true rfl) dX8_advance_203 (fun H locs hP hD hS => ?_)
            have hP : va_P (dC, dI) vwCl [(vt, .inr (9, [.ref vt1, .ref vt2, .int vtL, .int vtli, .int z_15, .int 0, .int x_2, .int (-1), .long vtc, .int vtn, .int vtfk, .int vtfp])), (vt1, .inl (cy 0, 940, .inl vtb)), (vt2, .inl (cy 1, 29, .inr (.inl vtco)))] H := hP
            have hD : va_D A [(vt, .inr (9, [.ref vt1, .ref vt2, .int vtL, .int vtli, .int z_15, .int 0, .int x_2, .int (-1), .long vtc, .int vtn, .int vtfk, .int vtfp])), (vt1, .inl (cy 0, 940, .inl vtb)), (vt2, .inl (cy 1, 29, .inr (.inl vtco)))] := hD
            have k_m1 : ((-1) : Int32).toInt = (-1) := by decide
            have k_0 : (0 : Int32).toInt = 0 := by decide
            rw [hQ9]
            exact re_v (z_15, x_2, ((-1) : Int32), (0 : Int32), vtc, vtn) hx hb hr hlocks ⟨(show 0 ≤ (z_15 : Int32).toInt ∧ (z_15 : Int32).toInt ≤ 940 from ⟨by omega, by omega⟩), (show (z_15 : Int32).toInt = tkN vtb (vtL : Int32).toInt (vtli : Int32).toInt (vta : Int32).toInt from (by omega)), (show (0 : Int32).toInt = tkK vtb (vtL : Int32).toInt (vtli : Int32).toInt (vta : Int32).toInt from (by omega)), (show (x_2 : Int32).toInt = tkS vtb (vtL : Int32).toInt (vtli : Int32).toInt (vta : Int32).toInt from (by omega)), (show ((-1) : Int32).toInt = tkW vtb (vtL : Int32).toInt (vtli : Int32).toInt (vta : Int32).toInt from (by omega)), (show tkCd vtb (vtL : Int32).toInt (vtli : Int32).toInt (vta : Int32).toInt vtc from (fun h9 => absurd (T0.symm.trans h9) (by decide))), (show tkK vtb (vtL : Int32).toInt (vtli : Int32).toInt (vta : Int32).toInt = 2 → vtn = tkVi vtb (vtL : Int32).toInt (vta : Int32).toInt from (fun h9 => absurd (T0.symm.trans h9) (by decide))), (show tkK vtb (vtL : Int32).toInt (vtli : Int32).toInt (vta : Int32).toInt = 2 → (vtn : Int32).toInt = (tkVi vtb (vtL : Int32).toInt (vta : Int32).toInt).toInt from (fun h9 => absurd (T0.symm.trans h9) (by decide))), (show (z_15 : Int32).toInt ≤ (vtL : Int32).toInt from (by omega))⟩ (hP.sub [0, 1, 2] rfl) (hD.sub [0, 1, 2] rfl rfl) hS dX8_advance_206
          · skip
            refine as_i 1 aq_14 ?_
            refine lv_if_eq (tgt := 192) hx hb dX8_advance_177 (by decide) (fun c9 => absurd c9 (by decide)) (fun _ => ?_)
            obtain ⟨T0, T1, T2, T3⟩ := tok_sign (b := vtb) (n := vtL.toInt) (lim := vtli.toInt) (a := vta.toInt) v1_0 (by omega) (by omega) (by have t9 := tkb_of ez_11; omega)
            refine lv_aload_n hx hb dX8_advance_180 rfl (lv_at hl 0 rfl) ?_
            refine gf_X8_9 hx hb hts hown hK hP 0 rfl rfl dX8_advance_181 ?_
            refine lv_aload_n hx hb dX8_advance_184 rfl (lv_at hl 0 rfl) ?_
            refine gf_X8_39 hx hb hts hown hK hP 0 rfl rfl dX8_advance_185 ?_
            have hin_16 : vp_in x_2 940 := vp_in_iff.mpr ⟨by omega, by omega⟩
            refine va_iald hx hb hK hP 1 0 rfl rfl hin_16 dX8_advance_188 ?_
            refine lv_topi (fun z_17 ez_17 => ?_)
            have bz_17 := p_vtb.at hin_16 ez_17
            refine lv_goto (tgt := 193) hx hb dX8_advance_189 (by decide) ?_
            refine pf_X8_57 hx hb hts hown hK hP hD hS 0 rfl rfl rfl (Nat.le_of_ble_eq_true rfl) dX8_advance_193 (fun H locs hP hD hS => ?_)
            have hP : va_P (dC, dI) vwCl [(vt, .inr (9, [.ref vt1, .ref vt2, .int vtL, .int vtli, .int x_2, .int z_17, .int x_2, .int (-1), .long vtc, .int vtn, .int vtfk, .int vtfp])), (vt1, .inl (cy 0, 940, .inl vtb)), (vt2, .inl (cy 1, 29, .inr (.inl vtco)))] H := hP
            have hD : va_D A [(vt, .inr (9, [.ref vt1, .ref vt2, .int vtL, .int vtli, .int x_2, .int z_17, .int x_2, .int (-1), .long vtc, .int vtn, .int vtfk, .int vtfp])), (vt1, .inl (cy 0, 940, .inl vtb)), (vt2, .inl (cy 1, 29, .inr (.inl vtco)))] := hD
            refine lv_aload_n hx hb dX8_advance_196 rfl (lv_at hl 0 rfl) ?_
            refine lv_dup hx hb dX8_advance_197 rfl ?_
            refine gf_X8_39 hx hb hts hown hK hP 0 rfl rfl dX8_advance_198 ?_
            refine lv_iconst (v := 1) hx hb dX8_advance_201 (by decide) ?_
            refine lv_iadd hx hb dX8_advance_202 ?_
            refine lv_topi (fun z_18 ez_18 => ?_)
            have k_1 : (1 : Int32).toInt = 1 := by decide
            have bz_18 : z_18.toInt = x_2.toInt + (1 : Int32).toInt := i_add ez_18 (by omega) (by omega)
            refine pf_X8_39 hx hb hts hown hK hP hD hS 0 rfl rfl rfl (Nat.le_of_ble_eq_true rfl) dX8_advance_203 (fun H locs hP hD hS => ?_)
            have hP : va_P (dC, dI) vwCl [(vt, .inr (9, [.ref vt1, .ref vt2, .int vtL, .int vtli, .int z_18, .int z_17, .int x_2, .int (-1), .long vtc, .int vtn, .int vtfk, .int vtfp])), (vt1, .inl (cy 0, 940, .inl vtb)), (vt2, .inl (cy 1, 29, .inr (.inl vtco)))] H := hP
            have hD : va_D A [(vt, .inr (9, [.ref vt1, .ref vt2, .int vtL, .int vtli, .int z_18, .int z_17, .int x_2, .int (-1), .long vtc, .int vtn, .int vtfk, .int vtfp])), (vt1, .inl (cy 0, 940, .inl vtb)), (vt2, .inl (cy 1, 29, .inr (.inl vtco)))] := hD
            have k_m1 : ((-1) : Int32).toInt = (-1) := by decide
            rw [hQ9]
            exact re_v (z_18, x_2, ((-1) : Int32), z_17, vtc, vtn) hx hb hr hlocks ⟨(show 0 ≤ (z_18 : Int32).toInt ∧ (z_18 : Int32).toInt ≤ 940 from ⟨by omega, by omega⟩), (show (z_18 : Int32).toInt = tkN vtb (vtL : Int32).toInt (vtli : Int32).toInt (vta : Int32).toInt from (by omega)), (show (z_17 : Int32).toInt = tkK vtb (vtL : Int32).toInt (vtli : Int32).toInt (vta : Int32).toInt from ((tkb_of ez_17).trans T0.symm)), (show (x_2 : Int32).toInt = tkS vtb (vtL : Int32).toInt (vtli : Int32).toInt (vta : Int32).toInt from (by omega)), (show ((-1) : Int32).toInt = tkW vtb (vtL : Int32).toInt (vtli : Int32).toInt (vta : Int32).toInt from (by omega)), (show tkCd vtb (vtL : Int32).toInt (vtli : Int32).toInt (vta : Int32).toInt vtc from (fun h9 => absurd (T0.symm.trans h9) (by have t8 := tkb_of ez_11; have t9 := tkb_of ez_17; omega))), (show tkK vtb (vtL : Int32).toInt (vtli : Int32).toInt (vta : Int32).toInt = 2 → vtn = tkVi vtb (vtL : Int32).toInt (vta : Int32).toInt from (fun h9 => absurd (T0.symm.trans h9) (by have t8 := tkb_of ez_11; have t9 := tkb_of ez_17; omega))), (show tkK vtb (vtL : Int32).toInt (vtli : Int32).toInt (vta : Int32).toInt = 2 → (vtn : Int32).toInt = (tkVi vtb (vtL : Int32).toInt (vta : Int32).toInt).toInt from (fun h9 => absurd (T0.symm.trans h9) (by have t8 := tkb_of ez_11; have t9 := tkb_of ez_17; omega))), (show (z_18 : Int32).toInt ≤ (vtL : Int32).toInt from (by omega))⟩ (hP.sub [0, 1, 2] rfl) (hD.sub [0, 1, 2] rfl rfl) hS dX8_advance_206
        · skip
          refine as_i 1 aq_9 ?_
          refine lv_if_eq (tgt := 164) hx hb dX8_advance_134 (by decide) (fun c9 => absurd c9 (by decide)) (fun _ => ?_)
          refine lv_aload_n hx hb dX8_advance_137 rfl (lv_at hl 0 rfl) ?_
          have k_m1 : ((-1) : Int32).toInt = (-1) := by decide
          refine jn_v (wr := [(vt2, .inl (cy 1, 29, .inr (.inl vtco)))]) (rV (As := []) (rest := []) (ci := 9) ⟨hx, hb, hml, hown, hts⟩ (t_readRun l dC dI cy _ vt vt1 vt2 vtL vtli x_2 vtk x_2 (-1) vtc vtn vtfk vtfp vtb r_vtL ⟨by omega, by omega⟩ p_vtb (by omega)) (cw_X8_64 hts rfl rfl ⟨Nat.le_of_ble_eq_true rfl, Nat.le_of_ble_eq_true rfl⟩) hP hD hK [0, 1] rfl rfl rfl rfl bl0 e0 rfl hl.1 rfl (Nat.le_of_ble_eq_true rfl) dX8_advance_138 ⟨Nat.le_of_ble_eq_true rfl, Nat.le_of_ble_eq_true rfl⟩) hP hD hS hA [0, 1] [2] rfl rfl rfl (by decide) (fun u_21 H locs hp_20 hP hD hS => ?_)
          obtain ⟨vta_22, vtk_23, vtc_24, vtn_25⟩ := u_21
          have hp_20 : (0 ≤ (vta_22 : Int32).toInt ∧ (vta_22 : Int32).toInt ≤ 940) ∧ ((vta_22 : Int32).toInt = tkrn vtb (vtL : Int32).toInt (x_2 : Int32).toInt) ∧ (vtc_24 = tkcd vtb (x_2 : Int32).toInt (vta_22 : Int32).toInt) ∧ (vtn_25 = tknm vtb (x_2 : Int32).toInt (vta_22 : Int32).toInt) ∧ ((tkcG vtb (x_2 : Int32).toInt (vta_22 : Int32).toInt = 0 ∧ tkcL vtb (x_2 : Int32).toInt (vta_22 : Int32).toInt ≤ 7 ∧ (vtk_23 : Int32).toInt = 1) ∨ (¬ (tkcG vtb (x_2 : Int32).toInt (vta_22 : Int32).toInt = 0 ∧ tkcL vtb (x_2 : Int32).toInt (vta_22 : Int32).toInt ≤ 7) ∧ tkcL vtb (x_2 : Int32).toInt (vta_22 : Int32).toInt = 0 ∧ tkcG vtb (x_2 : Int32).toInt (vta_22 : Int32).toInt ≤ 3 ∧ (vtk_23 : Int32).toInt = 2) ∨ (¬ (tkcG vtb (x_2 : Int32).toInt (vta_22 : Int32).toInt = 0 ∧ tkcL vtb (x_2 : Int32).toInt (vta_22 : Int32).toInt ≤ 7) ∧ ¬ (tkcL vtb (x_2 : Int32).toInt (vta_22 : Int32).toInt = 0 ∧ tkcG vtb (x_2 : Int32).toInt (vta_22 : Int32).toInt ≤ 3) ∧ (vtk_23 : Int32).toInt = 0)) ∧ ((vta_22 : Int32).toInt ≤ (vtL : Int32).toInt) := hp_20
          obtain ⟨q_26, q_27, q_28, q_29, q_30, q_31⟩ := hp_20
          have hP : va_P (dC, dI) vwCl [(vt2, .inl (cy 1, 29, .inr (.inl vtco))), (vt, .inr (9, [.ref vt1, .ref vt2, .int vtL, .int vtli, .int vta_22, .int vtk_23, .int x_2, .int (-1), .long vtc_24, .int vtn_25, .int vtfk, .int vtfp])), (vt1, .inl (cy 0, 940, .inl vtb))] H := hP
          have hD : va_D A [(vt2, .inl (cy 1, 29, .inr (.inl vtco))), (vt, .inr (9, [.ref vt1, .ref vt2, .int vtL, .int vtli, .int vta_22, .int vtk_23, .int x_2, .int (-1), .long vtc_24, .int vtn_25, .int vtfk, .int vtfp])), (vt1, .inl (cy 0, 940, .inl vtb))] := hD
          obtain ⟨T0, T1, T2, T3, T4, _⟩ := tok_run (b := vtb) (n := vtL.toInt) (lim := vtli.toInt) (a := vta.toInt) v1_0 (by omega) (by omega) (by have t9 := tkb_of ez_6; omega) q_27.symm
          refine lv_aload_n hx hb dX8_advance_141 rfl (lv_at hl 0 rfl) ?_
          refine lv_aload_n hx hb dX8_advance_142 rfl (lv_at hl 0 rfl) ?_
          refine gf_X8_57 hx hb hts hown hK hP 1 rfl rfl dX8_advance_143 ?_
          refine lv_iconst (v := 1) hx hb dX8_advance_146 (by decide) ?_
          have k_1 : (1 : Int32).toInt = 1 := by decide
          refine lv_icmp_ne (tgt := 157) hx hb dX8_advance_147 (by decide) (fun c_32 => ?_) (fun c_32 => ?_)
          · skip
            have c_32 : ¬ (vtk_23.toInt = (1 : Int32).toInt) := fun h9 => c_32 (i_eq.mpr h9)
            refine lv_iconst (v := (-1)) hx hb dX8_advance_157 (by decide) ?_
            refine pf_X8_54 hx hb hts hown hK hP hD hS 1 rfl rfl rfl (Nat.le_of_ble_eq_true rfl) dX8_advance_158 (fun H locs hP hD hS => ?_)
            have hP : va_P (dC, dI) vwCl [(vt2, .inl (cy 1, 29, .inr (.inl vtco))), (vt, .inr (9, [.ref vt1, .ref vt2, .int vtL, .int vtli, .int vta_22, .int vtk_23, .int x_2, .int (-1), .long vtc_24, .int vtn_25, .int vtfk, .int vtfp])), (vt1, .inl (cy 0, 940, .inl vtb))] H := hP
            have hD : va_D A [(vt2, .inl (cy 1, 29, .inr (.inl vtco))), (vt, .inr (9, [.ref vt1, .ref vt2, .int vtL, .int vtli, .int vta_22, .int vtk_23, .int x_2, .int (-1), .long vtc_24, .int vtn_25, .int vtfk, .int vtfp])), (vt1, .inl (cy 0, 940, .inl vtb))] := hD
            refine lv_goto (tgt := 206) hx hb dX8_advance_161 (by decide) ?_
            rw [hQ9]
            exact re_v (vta_22, x_2, ((-1) : Int32), vtk_23, vtc_24, vtn_25) hx hb hr hlocks ⟨(show 0 ≤ (vta_22 : Int32).toInt ∧ (vta_22 : Int32).toInt ≤ 940 from ⟨by omega, by omega⟩), (show (vta_22 : Int32).toInt = tkN vtb (vtL : Int32).toInt (vtli : Int32).toInt (vta : Int32).toInt from (by omega)), (show (vtk_23 : Int32).toInt = tkK vtb (vtL : Int32).toInt (vtli : Int32).toInt (vta : Int32).toInt from (by have := q_30; omega)), (show (x_2 : Int32).toInt = tkS vtb (vtL : Int32).toInt (vtli : Int32).toInt (vta : Int32).toInt from (by omega)), (show ((-1) : Int32).toInt = tkW vtb (vtL : Int32).toInt (vtli : Int32).toInt (vta : Int32).toInt from (by rw [tkW_no (b := vtb) (n := vtL.toInt) (lim := vtli.toInt) (a := vta.toInt) (by have := q_30; omega)]; exact k_m1)), (show tkCd vtb (vtL : Int32).toInt (vtli : Int32).toInt (vta : Int32).toInt vtc_24 from (fun _ => q_28.trans T3.symm)), (show tkK vtb (vtL : Int32).toInt (vtli : Int32).toInt (vta : Int32).toInt = 2 → vtn_25 = tkVi vtb (vtL : Int32).toInt (vta : Int32).toInt from (fun _ => q_29.trans T4.symm)), (show tkK vtb (vtL : Int32).toInt (vtli : Int32).toInt (vta : Int32).toInt = 2 → (vtn_25 : Int32).toInt = (tkVi vtb (vtL : Int32).toInt (vta : Int32).toInt).toInt from (fun _ => congrArg Int32.toInt (q_29.trans T4.symm))), (show (vta_22 : Int32).toInt ≤ (vtL : Int32).toInt from (by omega))⟩ (hP.sub [1, 2, 0] rfl) (hD.sub [1, 2, 0] rfl rfl) hS dX8_advance_206
          · skip
            have c_32 : vtk_23.toInt = (1 : Int32).toInt := i_eq.mp c_32
            refine lv_aload_n hx hb dX8_advance_150 rfl (lv_at hl 0 rfl) ?_
            refine jr_i (rVr (As := []) (rest := [.ref vt]) (ci := 9) ⟨hx, hb, hml, hown, hts⟩ (t_findWord l dC dI cy vt vt1 vt2 vtL vtli vta_22 vtk_23 x_2 (-1) vtc_24 vtn_25 vtfk vtfp vtco ) (cw_X8_67 hts rfl rfl ⟨Nat.le_of_ble_eq_true rfl, Nat.le_of_ble_eq_true rfl⟩) hP hK [1, 0] rfl rfl rfl rfl hl.1 rfl (Nat.le_of_ble_eq_true rfl) dX8_advance_151 ⟨Nat.le_of_ble_eq_true rfl, Nat.le_of_ble_eq_true rfl⟩) hP hS (fun r_33 H locs hp_34 hP hS => ?_)
            have hp_34 : (-1 ≤ (r_33 : Int32).toInt ∧ (r_33 : Int32).toInt ≤ 28) ∧ ((r_33 : Int32).toInt = tksr vtco 0 vtc_24 29 0) := hp_34
            obtain ⟨q_35, q_36⟩ := hp_34
            refine lv_goto (tgt := 158) hx hb dX8_advance_154 (by decide) ?_
            refine pf_X8_54 hx hb hts hown hK hP hD hS 1 rfl rfl rfl (Nat.le_of_ble_eq_true rfl) dX8_advance_158 (fun H locs hP hD hS => ?_)
            have hP : va_P (dC, dI) vwCl [(vt2, .inl (cy 1, 29, .inr (.inl vtco))), (vt, .inr (9, [.ref vt1, .ref vt2, .int vtL, .int vtli, .int vta_22, .int vtk_23, .int x_2, .int r_33, .long vtc_24, .int vtn_25, .int vtfk, .int vtfp])), (vt1, .inl (cy 0, 940, .inl vtb))] H := hP
            have hD : va_D A [(vt2, .inl (cy 1, 29, .inr (.inl vtco))), (vt, .inr (9, [.ref vt1, .ref vt2, .int vtL, .int vtli, .int vta_22, .int vtk_23, .int x_2, .int r_33, .long vtc_24, .int vtn_25, .int vtfk, .int vtfp])), (vt1, .inl (cy 0, 940, .inl vtb))] := hD
            refine lv_goto (tgt := 206) hx hb dX8_advance_161 (by decide) ?_
            rw [hQ9]
            exact re_v (vta_22, x_2, r_33, vtk_23, vtc_24, vtn_25) hx hb hr hlocks ⟨(show 0 ≤ (vta_22 : Int32).toInt ∧ (vta_22 : Int32).toInt ≤ 940 from ⟨by omega, by omega⟩), (show (vta_22 : Int32).toInt = tkN vtb (vtL : Int32).toInt (vtli : Int32).toInt (vta : Int32).toInt from (by omega)), (show (vtk_23 : Int32).toInt = tkK vtb (vtL : Int32).toInt (vtli : Int32).toInt (vta : Int32).toInt from (by have := q_30; omega)), (show (x_2 : Int32).toInt = tkS vtb (vtL : Int32).toInt (vtli : Int32).toInt (vta : Int32).toInt from (by omega)), (show (r_33 : Int32).toInt = tkW vtb (vtL : Int32).toInt (vtli : Int32).toInt (vta : Int32).toInt from (Eq.trans q_36 (Eq.trans (tkWC.like hco _) (Eq.trans (congrArg tkWm (q_28.trans T3.symm)) (tkW_word (by have := q_30; omega)).symm)))), (show tkCd vtb (vtL : Int32).toInt (vtli : Int32).toInt (vta : Int32).toInt vtc_24 from (fun _ => q_28.trans T3.symm)), (show tkK vtb (vtL : Int32).toInt (vtli : Int32).toInt (vta : Int32).toInt = 2 → vtn_25 = tkVi vtb (vtL : Int32).toInt (vta : Int32).toInt from (fun _ => q_29.trans T4.symm)), (show tkK vtb (vtL : Int32).toInt (vtli : Int32).toInt (vta : Int32).toInt = 2 → (vtn_25 : Int32).toInt = (tkVi vtb (vtL : Int32).toInt (vta : Int32).toInt).toInt from (fun _ => congrArg Int32.toInt (q_29.trans T4.symm))), (show (vta_22 : Int32).toInt ≤ (vtL : Int32).toInt from (by omega))⟩ (hP.sub [1, 2, 0] rfl) (hD.sub [1, 2, 0] rfl rfl) hS dX8_advance_206
      · skip
        have c_4 : ¬ (x_2.toInt < vtL.toInt) := fun h9 => c_4 (i_lt.mpr h9)
        obtain ⟨T0, T1, T2, T3⟩ := tok_fin (b := vtb) (n := vtL.toInt) (lim := vtli.toInt) (a := vta.toInt) v1_0 (by omega) (by omega)
        refine lv_aload_n hx hb dX8_advance_114 rfl (lv_at hl 0 rfl) ?_
        refine lv_iconst (v := 3) hx hb dX8_advance_115 (by decide) ?_
        refine pf_X8_57 hx hb hts hown hK hP hD hS 0 rfl rfl rfl (Nat.le_of_ble_eq_true rfl) dX8_advance_116 (fun H locs hP hD hS => ?_)
        have hP : va_P (dC, dI) vwCl [(vt, .inr (9, [.ref vt1, .ref vt2, .int vtL, .int vtli, .int x_2, .int 3, .int x_2, .int (-1), .long vtc, .int vtn, .int vtfk, .int vtfp])), (vt1, .inl (cy 0, 940, .inl vtb)), (vt2, .inl (cy 1, 29, .inr (.inl vtco)))] H := hP
        have hD : va_D A [(vt, .inr (9, [.ref vt1, .ref vt2, .int vtL, .int vtli, .int x_2, .int 3, .int x_2, .int (-1), .long vtc, .int vtn, .int vtfk, .int vtfp])), (vt1, .inl (cy 0, 940, .inl vtb)), (vt2, .inl (cy 1, 29, .inr (.inl vtco)))] := hD
        refine lv_goto (tgt := 206) hx hb dX8_advance_119 (by decide) ?_
        have k_m1 : ((-1) : Int32).toInt = (-1) := by decide
        have k_3 : (3 : Int32).toInt = 3 := by decide
        rw [hQ9]
        exact re_v (x_2, x_2, ((-1) : Int32), (3 : Int32), vtc, vtn) hx hb hr hlocks ⟨(show 0 ≤ (x_2 : Int32).toInt ∧ (x_2 : Int32).toInt ≤ 940 from ⟨by omega, by omega⟩), (show (x_2 : Int32).toInt = tkN vtb (vtL : Int32).toInt (vtli : Int32).toInt (vta : Int32).toInt from (by omega)), (show (3 : Int32).toInt = tkK vtb (vtL : Int32).toInt (vtli : Int32).toInt (vta : Int32).toInt from (by omega)), (show (x_2 : Int32).toInt = tkS vtb (vtL : Int32).toInt (vtli : Int32).toInt (vta : Int32).toInt from (by omega)), (show ((-1) : Int32).toInt = tkW vtb (vtL : Int32).toInt (vtli : Int32).toInt (vta : Int32).toInt from (by omega)), (show tkCd vtb (vtL : Int32).toInt (vtli : Int32).toInt (vta : Int32).toInt vtc from (fun h9 => absurd (T0.symm.trans h9) (by decide))), (show tkK vtb (vtL : Int32).toInt (vtli : Int32).toInt (vta : Int32).toInt = 2 → vtn = tkVi vtb (vtL : Int32).toInt (vta : Int32).toInt from (fun h9 => absurd (T0.symm.trans h9) (by decide))), (show tkK vtb (vtL : Int32).toInt (vtli : Int32).toInt (vta : Int32).toInt = 2 → (vtn : Int32).toInt = (tkVi vtb (vtL : Int32).toInt (vta : Int32).toInt).toInt from (fun h9 => absurd (T0.symm.trans h9) (by decide))), (show (x_2 : Int32).toInt ≤ (vtL : Int32).toInt from (by omega))⟩ (hP.sub [0, 1, 2] rfl) (hD.sub [0, 1, 2] rfl rfl) hS dX8_advance_206
    · skip
      have c_3 : ¬ (vtL.toInt ≤ vtli.toInt) := fun h9 => c_3 (i_le.mpr h9)
      refine lv_aload_n hx hb dX8_advance_76 rfl (lv_at hl 0 rfl) ?_
      refine gf_X8_39 hx hb hts hown hK hP 0 rfl rfl dX8_advance_77 ?_
      refine lv_aload_n hx hb dX8_advance_80 rfl (lv_at hl 0 rfl) ?_
      refine gf_X8_36 hx hb hts hown hK hP 0 rfl rfl dX8_advance_81 ?_
      refine lv_icmp_lt (tgt := 103) hx hb dX8_advance_84 (by decide) (fun c_37 => ?_) (fun c_37 => ?_)
      · skip
        have c_37 : x_2.toInt < vtli.toInt := i_lt.mp c_37
        refine lv_aload_n hx hb dX8_advance_103 rfl (lv_at hl 0 rfl) ?_
        refine gf_X8_39 hx hb hts hown hK hP 0 rfl rfl dX8_advance_104 ?_
        refine lv_aload_n hx hb dX8_advance_107 rfl (lv_at hl 0 rfl) ?_
        refine gf_X8_33 hx hb hts hown hK hP 0 rfl rfl dX8_advance_108 ?_
        refine lv_icmp_lt (tgt := 122) hx hb dX8_advance_111 (by decide) (fun c_38 => ?_) (fun c_38 => ?_)
        · skip
          have c_38 : x_2.toInt < vtL.toInt := i_lt.mp c_38
          refine lv_aload_n hx hb dX8_advance_122 rfl (lv_at hl 0 rfl) ?_
          refine gf_X8_9 hx hb hts hown hK hP 0 rfl rfl dX8_advance_123 ?_
          refine lv_aload_n hx hb dX8_advance_126 rfl (lv_at hl 0 rfl) ?_
          refine gf_X8_39 hx hb hts hown hK hP 0 rfl rfl dX8_advance_127 ?_
          have hin_39 : vp_in x_2 940 := vp_in_iff.mpr ⟨by omega, by omega⟩
          refine va_iald hx hb hK hP 1 0 rfl rfl hin_39 dX8_advance_130 ?_
          refine lv_topi (fun z_40 ez_40 => ?_)
          have bz_40 := p_vtb.at hin_39 ez_40
          refine jr_i (rSr (As := [.int z_40]) (rest := []) ⟨hx, hb, hml, hown, hts⟩ (t_isOfRun l dC dI cy z_40 ) (cw_X8_60 hts rfl rfl ⟨Nat.le_of_ble_eq_true rfl, Nat.le_of_ble_eq_true rfl⟩) hP hK [] rfl rfl hl.1 rfl (Nat.le_of_ble_eq_true rfl) dX8_advance_131 ⟨Nat.le_of_ble_eq_true rfl, Nat.le_of_ble_eq_true rfl⟩) hP hS (fun r_41 H locs hp_42 hP hS => ?_)
          have hp_42 : ((r_41 = 0 ∧ (¬ ((97 ≤ (z_40 : Int32).toInt ∧ (z_40 : Int32).toInt ≤ 122) ∨ (48 ≤ (z_40 : Int32).toInt ∧ (z_40 : Int32).toInt ≤ 57)))) ∨ (r_41 = 1 ∧ ((97 ≤ (z_40 : Int32).toInt ∧ (z_40 : Int32).toInt ≤ 122) ∨ (48 ≤ (z_40 : Int32).toInt ∧ (z_40 : Int32).toInt ≤ 57)))) := hp_42
          have q_43 := hp_42
          rcases q_43 with ⟨aq_43, f0q_43⟩ | ⟨aq_43, f0q_43⟩
          · skip
            refine as_i 0 aq_43 ?_
            refine lv_if_eq (tgt := 164) hx hb dX8_advance_134 (by decide) (fun _ => ?_) (fun c9 => absurd (by decide) c9)
            refine lv_aload_n hx hb dX8_advance_164 rfl (lv_at hl 0 rfl) ?_
            refine lv_aload_n hx hb dX8_advance_165 rfl (lv_at hl 0 rfl) ?_
            refine gf_X8_9 hx hb hts hown hK hP 0 rfl rfl dX8_advance_166 ?_
            refine lv_aload_n hx hb dX8_advance_169 rfl (lv_at hl 0 rfl) ?_
            refine gf_X8_39 hx hb hts hown hK hP 0 rfl rfl dX8_advance_170 ?_
            have hin_44 : vp_in x_2 940 := vp_in_iff.mpr ⟨by omega, by omega⟩
            refine va_iald hx hb hK hP 1 0 rfl rfl hin_44 dX8_advance_173 ?_
            refine lv_topi (fun z_45 ez_45 => ?_)
            have bz_45 := p_vtb.at hin_44 ez_45
            refine jr_i (rSr (As := [.int z_45]) (rest := [.ref vt]) ⟨hx, hb, hml, hown, hts⟩ (t_isSign l dC dI cy z_45 ) (cw_X8_70 hts rfl rfl ⟨Nat.le_of_ble_eq_true rfl, Nat.le_of_ble_eq_true rfl⟩) hP hK [] rfl rfl hl.1 rfl (Nat.le_of_ble_eq_true rfl) dX8_advance_174 ⟨Nat.le_of_ble_eq_true rfl, Nat.le_of_ble_eq_true rfl⟩) hP hS (fun r_46 H locs hp_47 hP hS => ?_)
            have hp_47 : ((r_46 = 0 ∧ (¬ ((z_45 : Int32).toInt = 59 ∨ (z_45 : Int32).toInt = 60 ∨ (z_45 : Int32).toInt = 61 ∨ (z_45 : Int32).toInt = 62 ∨ (z_45 : Int32).toInt = 40 ∨ (z_45 : Int32).toInt = 41))) ∨ (r_46 = 1 ∧ ((z_45 : Int32).toInt = 59 ∨ (z_45 : Int32).toInt = 60 ∨ (z_45 : Int32).toInt = 61 ∨ (z_45 : Int32).toInt = 62 ∨ (z_45 : Int32).toInt = 40 ∨ (z_45 : Int32).toInt = 41))) := hp_47
            have q_48 := hp_47
            rcases q_48 with ⟨aq_48, f0q_48⟩ | ⟨aq_48, f0q_48⟩
            · skip
              refine as_i 0 aq_48 ?_
              refine lv_if_eq (tgt := 192) hx hb dX8_advance_177 (by decide) (fun _ => ?_) (fun c9 => absurd (by decide) c9)
              obtain ⟨T0, T1, T2, T3⟩ := tok_bad (b := vtb) (n := vtL.toInt) (lim := vtli.toInt) (a := vta.toInt) v1_0 (by omega) (by omega) (by have t9 := tkb_of ez_40; omega) (by have t9 := tkb_of ez_45; omega)
              refine lv_iconst (v := 0) hx hb dX8_advance_192 (by decide) ?_
              refine pf_X8_57 hx hb hts hown hK hP hD hS 0 rfl rfl rfl (Nat.le_of_ble_eq_true rfl) dX8_advance_193 (fun H locs hP hD hS => ?_)
              have hP : va_P (dC, dI) vwCl [(vt, .inr (9, [.ref vt1, .ref vt2, .int vtL, .int vtli, .int x_2, .int 0, .int x_2, .int (-1), .long vtc, .int vtn, .int vtfk, .int vtfp])), (vt1, .inl (cy 0, 940, .inl vtb)), (vt2, .inl (cy 1, 29, .inr (.inl vtco)))] H := hP
              have hD : va_D A [(vt, .inr (9, [.ref vt1, .ref vt2, .int vtL, .int vtli, .int x_2, .int 0, .int x_2, .int (-1), .long vtc, .int vtn, .int vtfk, .int vtfp])), (vt1, .inl (cy 0, 940, .inl vtb)), (vt2, .inl (cy 1, 29, .inr (.inl vtco)))] := hD
              refine lv_aload_n hx hb dX8_advance_196 rfl (lv_at hl 0 rfl) ?_
              refine lv_dup hx hb dX8_advance_197 rfl ?_
              refine gf_X8_39 hx hb hts hown hK hP 0 rfl rfl dX8_advance_198 ?_
              refine lv_iconst (v := 1) hx hb dX8_advance_201 (by decide) ?_
              refine lv_iadd hx hb dX8_advance_202 ?_
              refine lv_topi (fun z_49 ez_49 => ?_)
              have k_1 : (1 : Int32).toInt = 1 := by decide
              have bz_49 : z_49.toInt = x_2.toInt + (1 : Int32).toInt := i_add ez_49 (by omega) (by omega)
              refine pf_X8_39 hx hb hts hown hK hP hD hS 0 rfl rfl rfl (Nat.le_of_ble_eq_true rfl) dX8_advance_203 (fun H locs hP hD hS => ?_)
              have hP : va_P (dC, dI) vwCl [(vt, .inr (9, [.ref vt1, .ref vt2, .int vtL, .int vtli, .int z_49, .int 0, .int x_2, .int (-1), .long vtc, .int vtn, .int vtfk, .int vtfp])), (vt1, .inl (cy 0, 940, .inl vtb)), (vt2, .inl (cy 1, 29, .inr (.inl vtco)))] H := hP
              have hD : va_D A [(vt, .inr (9, [.ref vt1, .ref vt2, .int vtL, .int vtli, .int z_49, .int 0, .int x_2, .int (-1), .long vtc, .int vtn, .int vtfk, .int vtfp])), (vt1, .inl (cy 0, 940, .inl vtb)), (vt2, .inl (cy 1, 29, .inr (.inl vtco)))] := hD
              have k_m1 : ((-1) : Int32).toInt = (-1) := by decide
              have k_0 : (0 : Int32).toInt = 0 := by decide
              rw [hQ9]
              exact re_v (z_49, x_2, ((-1) : Int32), (0 : Int32), vtc, vtn) hx hb hr hlocks ⟨(show 0 ≤ (z_49 : Int32).toInt ∧ (z_49 : Int32).toInt ≤ 940 from ⟨by omega, by omega⟩), (show (z_49 : Int32).toInt = tkN vtb (vtL : Int32).toInt (vtli : Int32).toInt (vta : Int32).toInt from (by omega)), (show (0 : Int32).toInt = tkK vtb (vtL : Int32).toInt (vtli : Int32).toInt (vta : Int32).toInt from (by omega)), (show (x_2 : Int32).toInt = tkS vtb (vtL : Int32).toInt (vtli : Int32).toInt (vta : Int32).toInt from (by omega)), (show ((-1) : Int32).toInt = tkW vtb (vtL : Int32).toInt (vtli : Int32).toInt (vta : Int32).toInt from (by omega)), (show tkCd vtb (vtL : Int32).toInt (vtli : Int32).toInt (vta : Int32).toInt vtc from (fun h9 => absurd (T0.symm.trans h9) (by decide))), (show tkK vtb (vtL : Int32).toInt (vtli : Int32).toInt (vta : Int32).toInt = 2 → vtn = tkVi vtb (vtL : Int32).toInt (vta : Int32).toInt from (fun h9 => absurd (T0.symm.trans h9) (by decide))), (show tkK vtb (vtL : Int32).toInt (vtli : Int32).toInt (vta : Int32).toInt = 2 → (vtn : Int32).toInt = (tkVi vtb (vtL : Int32).toInt (vta : Int32).toInt).toInt from (fun h9 => absurd (T0.symm.trans h9) (by decide))), (show (z_49 : Int32).toInt ≤ (vtL : Int32).toInt from (by omega))⟩ (hP.sub [0, 1, 2] rfl) (hD.sub [0, 1, 2] rfl rfl) hS dX8_advance_206
            · skip
              refine as_i 1 aq_48 ?_
              refine lv_if_eq (tgt := 192) hx hb dX8_advance_177 (by decide) (fun c9 => absurd c9 (by decide)) (fun _ => ?_)
              obtain ⟨T0, T1, T2, T3⟩ := tok_sign (b := vtb) (n := vtL.toInt) (lim := vtli.toInt) (a := vta.toInt) v1_0 (by omega) (by omega) (by have t9 := tkb_of ez_45; omega)
              refine lv_aload_n hx hb dX8_advance_180 rfl (lv_at hl 0 rfl) ?_
              refine gf_X8_9 hx hb hts hown hK hP 0 rfl rfl dX8_advance_181 ?_
              refine lv_aload_n hx hb dX8_advance_184 rfl (lv_at hl 0 rfl) ?_
              refine gf_X8_39 hx hb hts hown hK hP 0 rfl rfl dX8_advance_185 ?_
              have hin_50 : vp_in x_2 940 := vp_in_iff.mpr ⟨by omega, by omega⟩
              refine va_iald hx hb hK hP 1 0 rfl rfl hin_50 dX8_advance_188 ?_
              refine lv_topi (fun z_51 ez_51 => ?_)
              have bz_51 := p_vtb.at hin_50 ez_51
              refine lv_goto (tgt := 193) hx hb dX8_advance_189 (by decide) ?_
              refine pf_X8_57 hx hb hts hown hK hP hD hS 0 rfl rfl rfl (Nat.le_of_ble_eq_true rfl) dX8_advance_193 (fun H locs hP hD hS => ?_)
              have hP : va_P (dC, dI) vwCl [(vt, .inr (9, [.ref vt1, .ref vt2, .int vtL, .int vtli, .int x_2, .int z_51, .int x_2, .int (-1), .long vtc, .int vtn, .int vtfk, .int vtfp])), (vt1, .inl (cy 0, 940, .inl vtb)), (vt2, .inl (cy 1, 29, .inr (.inl vtco)))] H := hP
              have hD : va_D A [(vt, .inr (9, [.ref vt1, .ref vt2, .int vtL, .int vtli, .int x_2, .int z_51, .int x_2, .int (-1), .long vtc, .int vtn, .int vtfk, .int vtfp])), (vt1, .inl (cy 0, 940, .inl vtb)), (vt2, .inl (cy 1, 29, .inr (.inl vtco)))] := hD
              refine lv_aload_n hx hb dX8_advance_196 rfl (lv_at hl 0 rfl) ?_
              refine lv_dup hx hb dX8_advance_197 rfl ?_
              refine gf_X8_39 hx hb hts hown hK hP 0 rfl rfl dX8_advance_198 ?_
              refine lv_iconst (v := 1) hx hb dX8_advance_201 (by decide) ?_
              refine lv_iadd hx hb dX8_advance_202 ?_
              refine lv_topi (fun z_52 ez_52 => ?_)
              have k_1 : (1 : Int32).toInt = 1 := by decide
              have bz_52 : z_52.toInt = x_2.toInt + (1 : Int32).toInt := i_add ez_52 (by omega) (by omega)
              refine pf_X8_39 hx hb hts hown hK hP hD hS 0 rfl rfl rfl (Nat.le_of_ble_eq_true rfl) dX8_advance_203 (fun H locs hP hD hS => ?_)
              have hP : va_P (dC, dI) vwCl [(vt, .inr (9, [.ref vt1, .ref vt2, .int vtL, .int vtli, .int z_52, .int z_51, .int x_2, .int (-1), .long vtc, .int vtn, .int vtfk, .int vtfp])), (vt1, .inl (cy 0, 940, .inl vtb)), (vt2, .inl (cy 1, 29, .inr (.inl vtco)))] H := hP
              have hD : va_D A [(vt, .inr (9, [.ref vt1, .ref vt2, .int vtL, .int vtli, .int z_52, .int z_51, .int x_2, .int (-1), .long vtc, .int vtn, .int vtfk, .int vtfp])), (vt1, .inl (cy 0, 940, .inl vtb)), (vt2, .inl (cy 1, 29, .inr (.inl vtco)))] := hD
              have k_m1 : ((-1) : Int32).toInt = (-1) := by decide
              rw [hQ9]
              exact re_v (z_52, x_2, ((-1) : Int32), z_51, vtc, vtn) hx hb hr hlocks ⟨(show 0 ≤ (z_52 : Int32).toInt ∧ (z_52 : Int32).toInt ≤ 940 from ⟨by omega, by omega⟩), (show (z_52 : Int32).toInt = tkN vtb (vtL : Int32).toInt (vtli : Int32).toInt (vta : Int32).toInt from (by omega)), (show (z_51 : Int32).toInt = tkK vtb (vtL : Int32).toInt (vtli : Int32).toInt (vta : Int32).toInt from ((tkb_of ez_51).trans T0.symm)), (show (x_2 : Int32).toInt = tkS vtb (vtL : Int32).toInt (vtli : Int32).toInt (vta : Int32).toInt from (by omega)), (show ((-1) : Int32).toInt = tkW vtb (vtL : Int32).toInt (vtli : Int32).toInt (vta : Int32).toInt from (by omega)), (show tkCd vtb (vtL : Int32).toInt (vtli : Int32).toInt (vta : Int32).toInt vtc from (fun h9 => absurd (T0.symm.trans h9) (by have t8 := tkb_of ez_45; have t9 := tkb_of ez_51; omega))), (show tkK vtb (vtL : Int32).toInt (vtli : Int32).toInt (vta : Int32).toInt = 2 → vtn = tkVi vtb (vtL : Int32).toInt (vta : Int32).toInt from (fun h9 => absurd (T0.symm.trans h9) (by have t8 := tkb_of ez_45; have t9 := tkb_of ez_51; omega))), (show tkK vtb (vtL : Int32).toInt (vtli : Int32).toInt (vta : Int32).toInt = 2 → (vtn : Int32).toInt = (tkVi vtb (vtL : Int32).toInt (vta : Int32).toInt).toInt from (fun h9 => absurd (T0.symm.trans h9) (by have t8 := tkb_of ez_45; have t9 := tkb_of ez_51; omega))), (show (z_52 : Int32).toInt ≤ (vtL : Int32).toInt from (by omega))⟩ (hP.sub [0, 1, 2] rfl) (hD.sub [0, 1, 2] rfl rfl) hS dX8_advance_206
          · skip
            refine as_i 1 aq_43 ?_
            refine lv_if_eq (tgt := 164) hx hb dX8_advance_134 (by decide) (fun c9 => absurd c9 (by decide)) (fun _ => ?_)
            refine lv_aload_n hx hb dX8_advance_137 rfl (lv_at hl 0 rfl) ?_
            have k_m1 : ((-1) : Int32).toInt = (-1) := by decide
            refine jn_v (wr := [(vt2, .inl (cy 1, 29, .inr (.inl vtco)))]) (rV (As := []) (rest := []) (ci := 9) ⟨hx, hb, hml, hown, hts⟩ (t_readRun l dC dI cy _ vt vt1 vt2 vtL vtli x_2 vtk x_2 (-1) vtc vtn vtfk vtfp vtb r_vtL ⟨by omega, by omega⟩ p_vtb (by omega)) (cw_X8_64 hts rfl rfl ⟨Nat.le_of_ble_eq_true rfl, Nat.le_of_ble_eq_true rfl⟩) hP hD hK [0, 1] rfl rfl rfl rfl bl0 e0 rfl hl.1 rfl (Nat.le_of_ble_eq_true rfl) dX8_advance_138 ⟨Nat.le_of_ble_eq_true rfl, Nat.le_of_ble_eq_true rfl⟩) hP hD hS hA [0, 1] [2] rfl rfl rfl (by decide) (fun u_55 H locs hp_54 hP hD hS => ?_)
            obtain ⟨vta_56, vtk_57, vtc_58, vtn_59⟩ := u_55
            have hp_54 : (0 ≤ (vta_56 : Int32).toInt ∧ (vta_56 : Int32).toInt ≤ 940) ∧ ((vta_56 : Int32).toInt = tkrn vtb (vtL : Int32).toInt (x_2 : Int32).toInt) ∧ (vtc_58 = tkcd vtb (x_2 : Int32).toInt (vta_56 : Int32).toInt) ∧ (vtn_59 = tknm vtb (x_2 : Int32).toInt (vta_56 : Int32).toInt) ∧ ((tkcG vtb (x_2 : Int32).toInt (vta_56 : Int32).toInt = 0 ∧ tkcL vtb (x_2 : Int32).toInt (vta_56 : Int32).toInt ≤ 7 ∧ (vtk_57 : Int32).toInt = 1) ∨ (¬ (tkcG vtb (x_2 : Int32).toInt (vta_56 : Int32).toInt = 0 ∧ tkcL vtb (x_2 : Int32).toInt (vta_56 : Int32).toInt ≤ 7) ∧ tkcL vtb (x_2 : Int32).toInt (vta_56 : Int32).toInt = 0 ∧ tkcG vtb (x_2 : Int32).toInt (vta_56 : Int32).toInt ≤ 3 ∧ (vtk_57 : Int32).toInt = 2) ∨ (¬ (tkcG vtb (x_2 : Int32).toInt (vta_56 : Int32).toInt = 0 ∧ tkcL vtb (x_2 : Int32).toInt (vta_56 : Int32).toInt ≤ 7) ∧ ¬ (tkcL vtb (x_2 : Int32).toInt (vta_56 : Int32).toInt = 0 ∧ tkcG vtb (x_2 : Int32).toInt (vta_56 : Int32).toInt ≤ 3) ∧ (vtk_57 : Int32).toInt = 0)) ∧ ((vta_56 : Int32).toInt ≤ (vtL : Int32).toInt) := hp_54
            obtain ⟨q_60, q_61, q_62, q_63, q_64, q_65⟩ := hp_54
            have hP : va_P (dC, dI) vwCl [(vt2, .inl (cy 1, 29, .inr (.inl vtco))), (vt, .inr (9, [.ref vt1, .ref vt2, .int vtL, .int vtli, .int vta_56, .int vtk_57, .int x_2, .int (-1), .long vtc_58, .int vtn_59, .int vtfk, .int vtfp])), (vt1, .inl (cy 0, 940, .inl vtb))] H := hP
            have hD : va_D A [(vt2, .inl (cy 1, 29, .inr (.inl vtco))), (vt, .inr (9, [.ref vt1, .ref vt2, .int vtL, .int vtli, .int vta_56, .int vtk_57, .int x_2, .int (-1), .long vtc_58, .int vtn_59, .int vtfk, .int vtfp])), (vt1, .inl (cy 0, 940, .inl vtb))] := hD
            obtain ⟨T0, T1, T2, T3, T4, _⟩ := tok_run (b := vtb) (n := vtL.toInt) (lim := vtli.toInt) (a := vta.toInt) v1_0 (by omega) (by omega) (by have t9 := tkb_of ez_40; omega) q_61.symm
            refine lv_aload_n hx hb dX8_advance_141 rfl (lv_at hl 0 rfl) ?_
            refine lv_aload_n hx hb dX8_advance_142 rfl (lv_at hl 0 rfl) ?_
            refine gf_X8_57 hx hb hts hown hK hP 1 rfl rfl dX8_advance_143 ?_
            refine lv_iconst (v := 1) hx hb dX8_advance_146 (by decide) ?_
            have k_1 : (1 : Int32).toInt = 1 := by decide
            refine lv_icmp_ne (tgt := 157) hx hb dX8_advance_147 (by decide) (fun c_66 => ?_) (fun c_66 => ?_)
            · skip
              have c_66 : ¬ (vtk_57.toInt = (1 : Int32).toInt) := fun h9 => c_66 (i_eq.mpr h9)
              refine lv_iconst (v := (-1)) hx hb dX8_advance_157 (by decide) ?_
              refine pf_X8_54 hx hb hts hown hK hP hD hS 1 rfl rfl rfl (Nat.le_of_ble_eq_true rfl) dX8_advance_158 (fun H locs hP hD hS => ?_)
              have hP : va_P (dC, dI) vwCl [(vt2, .inl (cy 1, 29, .inr (.inl vtco))), (vt, .inr (9, [.ref vt1, .ref vt2, .int vtL, .int vtli, .int vta_56, .int vtk_57, .int x_2, .int (-1), .long vtc_58, .int vtn_59, .int vtfk, .int vtfp])), (vt1, .inl (cy 0, 940, .inl vtb))] H := hP
              have hD : va_D A [(vt2, .inl (cy 1, 29, .inr (.inl vtco))), (vt, .inr (9, [.ref vt1, .ref vt2, .int vtL, .int vtli, .int vta_56, .int vtk_57, .int x_2, .int (-1), .long vtc_58, .int vtn_59, .int vtfk, .int vtfp])), (vt1, .inl (cy 0, 940, .inl vtb))] := hD
              refine lv_goto (tgt := 206) hx hb dX8_advance_161 (by decide) ?_
              rw [hQ9]
              exact re_v (vta_56, x_2, ((-1) : Int32), vtk_57, vtc_58, vtn_59) hx hb hr hlocks ⟨(show 0 ≤ (vta_56 : Int32).toInt ∧ (vta_56 : Int32).toInt ≤ 940 from ⟨by omega, by omega⟩), (show (vta_56 : Int32).toInt = tkN vtb (vtL : Int32).toInt (vtli : Int32).toInt (vta : Int32).toInt from (by omega)), (show (vtk_57 : Int32).toInt = tkK vtb (vtL : Int32).toInt (vtli : Int32).toInt (vta : Int32).toInt from (by have := q_64; omega)), (show (x_2 : Int32).toInt = tkS vtb (vtL : Int32).toInt (vtli : Int32).toInt (vta : Int32).toInt from (by omega)), (show ((-1) : Int32).toInt = tkW vtb (vtL : Int32).toInt (vtli : Int32).toInt (vta : Int32).toInt from (by rw [tkW_no (b := vtb) (n := vtL.toInt) (lim := vtli.toInt) (a := vta.toInt) (by have := q_64; omega)]; exact k_m1)), (show tkCd vtb (vtL : Int32).toInt (vtli : Int32).toInt (vta : Int32).toInt vtc_58 from (fun _ => q_62.trans T3.symm)), (show tkK vtb (vtL : Int32).toInt (vtli : Int32).toInt (vta : Int32).toInt = 2 → vtn_59 = tkVi vtb (vtL : Int32).toInt (vta : Int32).toInt from (fun _ => q_63.trans T4.symm)), (show tkK vtb (vtL : Int32).toInt (vtli : Int32).toInt (vta : Int32).toInt = 2 → (vtn_59 : Int32).toInt = (tkVi vtb (vtL : Int32).toInt (vta : Int32).toInt).toInt from (fun _ => congrArg Int32.toInt (q_63.trans T4.symm))), (show (vta_56 : Int32).toInt ≤ (vtL : Int32).toInt from (by omega))⟩ (hP.sub [1, 2, 0] rfl) (hD.sub [1, 2, 0] rfl rfl) hS dX8_advance_206
            · skip
              have c_66 : vtk_57.toInt = (1 : Int32).toInt := i_eq.mp c_66
              refine lv_aload_n hx hb dX8_advance_150 rfl (lv_at hl 0 rfl) ?_
              refine jr_i (rVr (As := []) (rest := [.ref vt]) (ci := 9) ⟨hx, hb, hml, hown, hts⟩ (t_findWord l dC dI cy vt vt1 vt2 vtL vtli vta_56 vtk_57 x_2 (-1) vtc_58 vtn_59 vtfk vtfp vtco ) (cw_X8_67 hts rfl rfl ⟨Nat.le_of_ble_eq_true rfl, Nat.le_of_ble_eq_true rfl⟩) hP hK [1, 0] rfl rfl rfl rfl hl.1 rfl (Nat.le_of_ble_eq_true rfl) dX8_advance_151 ⟨Nat.le_of_ble_eq_true rfl, Nat.le_of_ble_eq_true rfl⟩) hP hS (fun r_67 H locs hp_68 hP hS => ?_)
              have hp_68 : (-1 ≤ (r_67 : Int32).toInt ∧ (r_67 : Int32).toInt ≤ 28) ∧ ((r_67 : Int32).toInt = tksr vtco 0 vtc_58 29 0) := hp_68
              obtain ⟨q_69, q_70⟩ := hp_68
              refine lv_goto (tgt := 158) hx hb dX8_advance_154 (by decide) ?_
              refine pf_X8_54 hx hb hts hown hK hP hD hS 1 rfl rfl rfl (Nat.le_of_ble_eq_true rfl) dX8_advance_158 (fun H locs hP hD hS => ?_)
              have hP : va_P (dC, dI) vwCl [(vt2, .inl (cy 1, 29, .inr (.inl vtco))), (vt, .inr (9, [.ref vt1, .ref vt2, .int vtL, .int vtli, .int vta_56, .int vtk_57, .int x_2, .int r_67, .long vtc_58, .int vtn_59, .int vtfk, .int vtfp])), (vt1, .inl (cy 0, 940, .inl vtb))] H := hP
              have hD : va_D A [(vt2, .inl (cy 1, 29, .inr (.inl vtco))), (vt, .inr (9, [.ref vt1, .ref vt2, .int vtL, .int vtli, .int vta_56, .int vtk_57, .int x_2, .int r_67, .long vtc_58, .int vtn_59, .int vtfk, .int vtfp])), (vt1, .inl (cy 0, 940, .inl vtb))] := hD
              refine lv_goto (tgt := 206) hx hb dX8_advance_161 (by decide) ?_
              rw [hQ9]
              exact re_v (vta_56, x_2, r_67, vtk_57, vtc_58, vtn_59) hx hb hr hlocks ⟨(show 0 ≤ (vta_56 : Int32).toInt ∧ (vta_56 : Int32).toInt ≤ 940 from ⟨by omega, by omega⟩), (show (vta_56 : Int32).toInt = tkN vtb (vtL : Int32).toInt (vtli : Int32).toInt (vta : Int32).toInt from (by omega)), (show (vtk_57 : Int32).toInt = tkK vtb (vtL : Int32).toInt (vtli : Int32).toInt (vta : Int32).toInt from (by have := q_64; omega)), (show (x_2 : Int32).toInt = tkS vtb (vtL : Int32).toInt (vtli : Int32).toInt (vta : Int32).toInt from (by omega)), (show (r_67 : Int32).toInt = tkW vtb (vtL : Int32).toInt (vtli : Int32).toInt (vta : Int32).toInt from (Eq.trans q_70 (Eq.trans (tkWC.like hco _) (Eq.trans (congrArg tkWm (q_62.trans T3.symm)) (tkW_word (by have := q_64; omega)).symm)))), (show tkCd vtb (vtL : Int32).toInt (vtli : Int32).toInt (vta : Int32).toInt vtc_58 from (fun _ => q_62.trans T3.symm)), (show tkK vtb (vtL : Int32).toInt (vtli : Int32).toInt (vta : Int32).toInt = 2 → vtn_59 = tkVi vtb (vtL : Int32).toInt (vta : Int32).toInt from (fun _ => q_63.trans T4.symm)), (show tkK vtb (vtL : Int32).toInt (vtli : Int32).toInt (vta : Int32).toInt = 2 → (vtn_59 : Int32).toInt = (tkVi vtb (vtL : Int32).toInt (vta : Int32).toInt).toInt from (fun _ => congrArg Int32.toInt (q_63.trans T4.symm))), (show (vta_56 : Int32).toInt ≤ (vtL : Int32).toInt from (by omega))⟩ (hP.sub [1, 2, 0] rfl) (hD.sub [1, 2, 0] rfl rfl) hS dX8_advance_206
        · skip
          have c_38 : ¬ (x_2.toInt < vtL.toInt) := fun h9 => c_38 (i_lt.mpr h9)
          obtain ⟨T0, T1, T2, T3⟩ := tok_fin (b := vtb) (n := vtL.toInt) (lim := vtli.toInt) (a := vta.toInt) v1_0 (by omega) (by omega)
          refine lv_aload_n hx hb dX8_advance_114 rfl (lv_at hl 0 rfl) ?_
          refine lv_iconst (v := 3) hx hb dX8_advance_115 (by decide) ?_
          refine pf_X8_57 hx hb hts hown hK hP hD hS 0 rfl rfl rfl (Nat.le_of_ble_eq_true rfl) dX8_advance_116 (fun H locs hP hD hS => ?_)
          have hP : va_P (dC, dI) vwCl [(vt, .inr (9, [.ref vt1, .ref vt2, .int vtL, .int vtli, .int x_2, .int 3, .int x_2, .int (-1), .long vtc, .int vtn, .int vtfk, .int vtfp])), (vt1, .inl (cy 0, 940, .inl vtb)), (vt2, .inl (cy 1, 29, .inr (.inl vtco)))] H := hP
          have hD : va_D A [(vt, .inr (9, [.ref vt1, .ref vt2, .int vtL, .int vtli, .int x_2, .int 3, .int x_2, .int (-1), .long vtc, .int vtn, .int vtfk, .int vtfp])), (vt1, .inl (cy 0, 940, .inl vtb)), (vt2, .inl (cy 1, 29, .inr (.inl vtco)))] := hD
          refine lv_goto (tgt := 206) hx hb dX8_advance_119 (by decide) ?_
          have k_m1 : ((-1) : Int32).toInt = (-1) := by decide
          have k_3 : (3 : Int32).toInt = 3 := by decide
          rw [hQ9]
          exact re_v (x_2, x_2, ((-1) : Int32), (3 : Int32), vtc, vtn) hx hb hr hlocks ⟨(show 0 ≤ (x_2 : Int32).toInt ∧ (x_2 : Int32).toInt ≤ 940 from ⟨by omega, by omega⟩), (show (x_2 : Int32).toInt = tkN vtb (vtL : Int32).toInt (vtli : Int32).toInt (vta : Int32).toInt from (by omega)), (show (3 : Int32).toInt = tkK vtb (vtL : Int32).toInt (vtli : Int32).toInt (vta : Int32).toInt from (by omega)), (show (x_2 : Int32).toInt = tkS vtb (vtL : Int32).toInt (vtli : Int32).toInt (vta : Int32).toInt from (by omega)), (show ((-1) : Int32).toInt = tkW vtb (vtL : Int32).toInt (vtli : Int32).toInt (vta : Int32).toInt from (by omega)), (show tkCd vtb (vtL : Int32).toInt (vtli : Int32).toInt (vta : Int32).toInt vtc from (fun h9 => absurd (T0.symm.trans h9) (by decide))), (show tkK vtb (vtL : Int32).toInt (vtli : Int32).toInt (vta : Int32).toInt = 2 → vtn = tkVi vtb (vtL : Int32).toInt (vta : Int32).toInt from (fun h9 => absurd (T0.symm.trans h9) (by decide))), (show tkK vtb (vtL : Int32).toInt (vtli : Int32).toInt (vta : Int32).toInt = 2 → (vtn : Int32).toInt = (tkVi vtb (vtL : Int32).toInt (vta : Int32).toInt).toInt from (fun h9 => absurd (T0.symm.trans h9) (by decide))), (show (x_2 : Int32).toInt ≤ (vtL : Int32).toInt from (by omega))⟩ (hP.sub [0, 1, 2] rfl) (hD.sub [0, 1, 2] rfl rfl) hS dX8_advance_206
      · skip
        have c_37 : ¬ (x_2.toInt < vtli.toInt) := fun h9 => c_37 (i_lt.mpr h9)
        obtain ⟨T0, T1, T2, T3⟩ := tok_over (b := vtb) (n := vtL.toInt) (lim := vtli.toInt) (a := vta.toInt) v1_0 (by omega)
        refine lv_aload_n hx hb dX8_advance_87 rfl (lv_at hl 0 rfl) ?_
        refine lv_iconst (v := 0) hx hb dX8_advance_88 (by decide) ?_
        refine pf_X8_57 hx hb hts hown hK hP hD hS 0 rfl rfl rfl (Nat.le_of_ble_eq_true rfl) dX8_advance_89 (fun H locs hP hD hS => ?_)
        have hP : va_P (dC, dI) vwCl [(vt, .inr (9, [.ref vt1, .ref vt2, .int vtL, .int vtli, .int x_2, .int 0, .int x_2, .int (-1), .long vtc, .int vtn, .int vtfk, .int vtfp])), (vt1, .inl (cy 0, 940, .inl vtb)), (vt2, .inl (cy 1, 29, .inr (.inl vtco)))] H := hP
        have hD : va_D A [(vt, .inr (9, [.ref vt1, .ref vt2, .int vtL, .int vtli, .int x_2, .int 0, .int x_2, .int (-1), .long vtc, .int vtn, .int vtfk, .int vtfp])), (vt1, .inl (cy 0, 940, .inl vtb)), (vt2, .inl (cy 1, 29, .inr (.inl vtco)))] := hD
        refine lv_aload_n hx hb dX8_advance_92 rfl (lv_at hl 0 rfl) ?_
        refine lv_aload_n hx hb dX8_advance_93 rfl (lv_at hl 0 rfl) ?_
        refine gf_X8_36 hx hb hts hown hK hP 0 rfl rfl dX8_advance_94 ?_
        refine pf_X8_51 hx hb hts hown hK hP hD hS 0 rfl rfl rfl (Nat.le_of_ble_eq_true rfl) dX8_advance_97 (fun H locs hP hD hS => ?_)
        have hP : va_P (dC, dI) vwCl [(vt, .inr (9, [.ref vt1, .ref vt2, .int vtL, .int vtli, .int x_2, .int 0, .int vtli, .int (-1), .long vtc, .int vtn, .int vtfk, .int vtfp])), (vt1, .inl (cy 0, 940, .inl vtb)), (vt2, .inl (cy 1, 29, .inr (.inl vtco)))] H := hP
        have hD : va_D A [(vt, .inr (9, [.ref vt1, .ref vt2, .int vtL, .int vtli, .int x_2, .int 0, .int vtli, .int (-1), .long vtc, .int vtn, .int vtfk, .int vtfp])), (vt1, .inl (cy 0, 940, .inl vtb)), (vt2, .inl (cy 1, 29, .inr (.inl vtco)))] := hD
        refine lv_goto (tgt := 206) hx hb dX8_advance_100 (by decide) ?_
        have k_m1 : ((-1) : Int32).toInt = (-1) := by decide
        have k_0 : (0 : Int32).toInt = 0 := by decide
        rw [hQ9]
        exact re_v (x_2, vtli, ((-1) : Int32), (0 : Int32), vtc, vtn) hx hb hr hlocks ⟨(show 0 ≤ (x_2 : Int32).toInt ∧ (x_2 : Int32).toInt ≤ 940 from ⟨by omega, by omega⟩), (show (x_2 : Int32).toInt = tkN vtb (vtL : Int32).toInt (vtli : Int32).toInt (vta : Int32).toInt from (by omega)), (show (0 : Int32).toInt = tkK vtb (vtL : Int32).toInt (vtli : Int32).toInt (vta : Int32).toInt from (by omega)), (show (vtli : Int32).toInt = tkS vtb (vtL : Int32).toInt (vtli : Int32).toInt (vta : Int32).toInt from (by omega)), (show ((-1) : Int32).toInt = tkW vtb (vtL : Int32).toInt (vtli : Int32).toInt (vta : Int32).toInt from (by omega)), (show tkCd vtb (vtL : Int32).toInt (vtli : Int32).toInt (vta : Int32).toInt vtc from (fun h9 => absurd (T0.symm.trans h9) (by decide))), (show tkK vtb (vtL : Int32).toInt (vtli : Int32).toInt (vta : Int32).toInt = 2 → vtn = tkVi vtb (vtL : Int32).toInt (vta : Int32).toInt from (fun h9 => absurd (T0.symm.trans h9) (by decide))), (show tkK vtb (vtL : Int32).toInt (vtli : Int32).toInt (vta : Int32).toInt = 2 → (vtn : Int32).toInt = (tkVi vtb (vtL : Int32).toInt (vta : Int32).toInt).toInt from (fun h9 => absurd (T0.symm.trans h9) (by decide))), (show (x_2 : Int32).toInt ≤ (vtL : Int32).toInt from (by omega))⟩ (hP.sub [0, 1, 2] rfl) (hD.sub [0, 1, 2] rfl rfl) hS dX8_advance_206
  have loop71 : ∀ (n71 : Nat) (x_72 : Int32), (0 ≤ x_72.toInt ∧ x_72.toInt ≤ 940) → (tksk vtb vtL.toInt x_72.toInt = tksk vtb vtL.toInt vta.toInt) → (x_72.toInt ≤ vtL.toInt) → 940 - x_72.toInt < (n71 : Int) → ∀ (H : Heap) (locs : List Loc), va_P (dC, dI) vwCl [(vt, .inr (9, [.ref vt1, .ref vt2, .int vtL, .int vtli, .int x_72, .int vtk, .int vtst, .int vtw, .long vtc, .int vtn, .int vtfk, .int vtfp])), (vt1, .inl (cy 0, 940, .inl vtb)), (vt2, .inl (cy 1, 29, .inr (.inl vtco)))] H → va_D A [(vt, .inr (9, [.ref vt1, .ref vt2, .int vtL, .int vtli, .int x_72, .int vtk, .int vtst, .int vtw, .long vtc, .int vtn, .int vtfk, .int vtfp])), (vt1, .inl (cy 0, 940, .inl vtb)), (vt2, .inl (cy 1, 29, .inr (.inl vtco)))] → va_S A s.heap H locs → ∀ ls : Array Slot, lv_has ls 1 [(0, .ref vt)] → W p l e ({ frames := 1, cells := 0, slots := 0, locals := 64 }) s m av9 below meth c H locs 0 0 Q9 (F0 m 0 ls []) := by
    intro n71
    induction n71 with
    | zero =>
      intro x_72 bx_72 v71_0 v71_1 hn71 H locs hP hD hS ls hl
      exfalso; omega
    | succ n71 ih71 =>
      intro x_72 bx_72 v71_0 v71_1 hn71 H locs hP hD hS ls hl
      refine lv_aload_n hx hb dX8_advance_0 rfl (lv_at hl 0 rfl) ?_
      refine gf_X8_39 hx hb hts hown hK hP 0 rfl rfl dX8_advance_1 ?_
      refine lv_aload_n hx hb dX8_advance_4 rfl (lv_at hl 0 rfl) ?_
      refine gf_X8_33 hx hb hts hown hK hP 0 rfl rfl dX8_advance_5 ?_
      refine lv_icmp_ge (tgt := 52) hx hb dX8_advance_8 (by decide) (fun c_73 => ?_) (fun c_73 => ?_)
      · skip
        have c_73 : vtL.toInt ≤ x_72.toInt := i_le.mp c_73
        exact join1 x_72 ⟨by omega, by omega⟩ (Eq.trans v71_0.symm (tksk_at (b := vtb) (n := vtL.toInt) (a := x_72.toInt) (by omega))) (by omega) _ _ (hP.sub [0, 1, 2] rfl) (hD.sub [0, 1, 2] rfl rfl) hS ls (lv_sub hl [0] rfl)
      · skip
        have c_73 : ¬ (vtL.toInt ≤ x_72.toInt) := fun h9 => c_73 (i_le.mpr h9)
        refine lv_aload_n hx hb dX8_advance_11 rfl (lv_at hl 0 rfl) ?_
        refine gf_X8_9 hx hb hts hown hK hP 0 rfl rfl dX8_advance_12 ?_
        refine lv_aload_n hx hb dX8_advance_15 rfl (lv_at hl 0 rfl) ?_
        refine gf_X8_39 hx hb hts hown hK hP 0 rfl rfl dX8_advance_16 ?_
        have hin_74 : vp_in x_72 940 := vp_in_iff.mpr ⟨by omega, by omega⟩
        refine va_iald hx hb hK hP 1 0 rfl rfl hin_74 dX8_advance_19 ?_
        refine lv_topi (fun z_75 ez_75 => ?_)
        have bz_75 := p_vtb.at hin_74 ez_75
        refine lv_bipush (v := 32) hx hb dX8_advance_20 (by decide) ?_
        have k_32 : (32 : Int32).toInt = 32 := by decide
        refine lv_icmp_eq (tgt := 39) hx hb dX8_advance_22 (by decide) (fun c_76 => ?_) (fun c_76 => ?_)
        · skip
          have c_76 : z_75.toInt = (32 : Int32).toInt := i_eq.mp c_76
          refine lv_aload_n hx hb dX8_advance_39 rfl (lv_at hl 0 rfl) ?_
          refine lv_dup hx hb dX8_advance_40 rfl ?_
          refine gf_X8_39 hx hb hts hown hK hP 0 rfl rfl dX8_advance_41 ?_
          refine lv_iconst (v := 1) hx hb dX8_advance_44 (by decide) ?_
          refine lv_iadd hx hb dX8_advance_45 ?_
          refine lv_topi (fun z_77 ez_77 => ?_)
          have k_1 : (1 : Int32).toInt = 1 := by decide
          have bz_77 : z_77.toInt = x_72.toInt + (1 : Int32).toInt := i_add ez_77 (by omega) (by omega)
          refine pf_X8_39 hx hb hts hown hK hP hD hS 0 rfl rfl rfl (Nat.le_of_ble_eq_true rfl) dX8_advance_46 (fun H locs hP hD hS => ?_)
          have hP : va_P (dC, dI) vwCl [(vt, .inr (9, [.ref vt1, .ref vt2, .int vtL, .int vtli, .int z_77, .int vtk, .int vtst, .int vtw, .long vtc, .int vtn, .int vtfk, .int vtfp])), (vt1, .inl (cy 0, 940, .inl vtb)), (vt2, .inl (cy 1, 29, .inr (.inl vtco)))] H := hP
          have hD : va_D A [(vt, .inr (9, [.ref vt1, .ref vt2, .int vtL, .int vtli, .int z_77, .int vtk, .int vtst, .int vtw, .long vtc, .int vtn, .int vtfk, .int vtfp])), (vt1, .inl (cy 0, 940, .inl vtb)), (vt2, .inl (cy 1, 29, .inr (.inl vtco)))] := hD
          refine lv_goto (tgt := 0) hx hb dX8_advance_49 (by decide) ?_
          exact ih71 z_77 ⟨by omega, by omega⟩ (Eq.trans (congrArg (fun q9 => tksk vtb vtL.toInt q9) (show z_77.toInt = x_72.toInt + 1 by omega)) (Eq.trans (tksk_go (b := vtb) (show x_72.toInt < vtL.toInt by omega) (by have := tkb_of ez_75; omega)) v71_0)) (by omega) (by omega) _ _ (hP.sub [0, 1, 2] rfl) (hD.sub [0, 1, 2] rfl rfl) hS ls (lv_sub hl [0] rfl)
        · skip
          have c_76 : ¬ (z_75.toInt = (32 : Int32).toInt) := fun h9 => c_76 (i_eq.mpr h9)
          refine lv_aload_n hx hb dX8_advance_25 rfl (lv_at hl 0 rfl) ?_
          refine gf_X8_9 hx hb hts hown hK hP 0 rfl rfl dX8_advance_26 ?_
          refine lv_aload_n hx hb dX8_advance_29 rfl (lv_at hl 0 rfl) ?_
          refine gf_X8_39 hx hb hts hown hK hP 0 rfl rfl dX8_advance_30 ?_
          have hin_78 : vp_in x_72 940 := vp_in_iff.mpr ⟨by omega, by omega⟩
          refine va_iald hx hb hK hP 1 0 rfl rfl hin_78 dX8_advance_33 ?_
          refine lv_topi (fun z_79 ez_79 => ?_)
          have bz_79 := p_vtb.at hin_78 ez_79
          refine lv_bipush (v := 10) hx hb dX8_advance_34 (by decide) ?_
          have k_10 : (10 : Int32).toInt = 10 := by decide
          refine lv_icmp_ne (tgt := 52) hx hb dX8_advance_36 (by decide) (fun c_80 => ?_) (fun c_80 => ?_)
          · skip
            have c_80 : ¬ (z_79.toInt = (10 : Int32).toInt) := fun h9 => c_80 (i_eq.mpr h9)
            exact join1 x_72 ⟨by omega, by omega⟩ (Eq.trans v71_0.symm (tksk_at (b := vtb) (n := vtL.toInt) (a := x_72.toInt) (by have := tkb_of ez_75; have := tkb_of ez_79; omega))) (by omega) _ _ (hP.sub [0, 1, 2] rfl) (hD.sub [0, 1, 2] rfl rfl) hS ls (lv_sub hl [0] rfl)
          · skip
            have c_80 : z_79.toInt = (10 : Int32).toInt := i_eq.mp c_80
            refine lv_aload_n hx hb dX8_advance_39 rfl (lv_at hl 0 rfl) ?_
            refine lv_dup hx hb dX8_advance_40 rfl ?_
            refine gf_X8_39 hx hb hts hown hK hP 0 rfl rfl dX8_advance_41 ?_
            refine lv_iconst (v := 1) hx hb dX8_advance_44 (by decide) ?_
            refine lv_iadd hx hb dX8_advance_45 ?_
            refine lv_topi (fun z_81 ez_81 => ?_)
            have k_1 : (1 : Int32).toInt = 1 := by decide
            have bz_81 : z_81.toInt = x_72.toInt + (1 : Int32).toInt := i_add ez_81 (by omega) (by omega)
            refine pf_X8_39 hx hb hts hown hK hP hD hS 0 rfl rfl rfl (Nat.le_of_ble_eq_true rfl) dX8_advance_46 (fun H locs hP hD hS => ?_)
            have hP : va_P (dC, dI) vwCl [(vt, .inr (9, [.ref vt1, .ref vt2, .int vtL, .int vtli, .int z_81, .int vtk, .int vtst, .int vtw, .long vtc, .int vtn, .int vtfk, .int vtfp])), (vt1, .inl (cy 0, 940, .inl vtb)), (vt2, .inl (cy 1, 29, .inr (.inl vtco)))] H := hP
            have hD : va_D A [(vt, .inr (9, [.ref vt1, .ref vt2, .int vtL, .int vtli, .int z_81, .int vtk, .int vtst, .int vtw, .long vtc, .int vtn, .int vtfk, .int vtfp])), (vt1, .inl (cy 0, 940, .inl vtb)), (vt2, .inl (cy 1, 29, .inr (.inl vtco)))] := hD
            refine lv_goto (tgt := 0) hx hb dX8_advance_49 (by decide) ?_
            exact ih71 z_81 ⟨by omega, by omega⟩ (Eq.trans (congrArg (fun q9 => tksk vtb vtL.toInt q9) (show z_81.toInt = x_72.toInt + 1 by omega)) (Eq.trans (tksk_go (b := vtb) (show x_72.toInt < vtL.toInt by omega) (by have := tkb_of ez_75; have := tkb_of ez_79; omega)) v71_0)) (by omega) (by omega) _ _ (hP.sub [0, 1, 2] rfl) (hD.sub [0, 1, 2] rfl rfl) hS ls (lv_sub hl [0] rfl)
  exact loop71 ((940 - vta.toInt).toNat + 1) vta ⟨by omega, by omega⟩ rfl (by omega) (by omega) _ _ hP hD hS ls (lv_sub hl [0] rfl)
