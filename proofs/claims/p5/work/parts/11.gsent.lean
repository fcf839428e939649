abbrev cX6_readOne : ByteArray := prog_8_method_7_code
def yX6_readOne : MethodName := ⟨RX6, "readOne", "(LLikenessPound$Tape;LLikenessPound$Colony;I)Z"⟩
theorem t1277 : Cond.code yX6_readOne cX6_readOne 6 (some .boolean) ∈ GW := gw_mem 1391 (by decide +kernel) (by decide +kernel)
theorem dX6_readOne_0 : decode cX6_readOne 0 = .ok (.aload_n 1, 1) := by decide +kernel
theorem dX6_readOne_1 : decode cX6_readOne 1 = .ok (.getfield 60, 3) := by decide +kernel
theorem t108 : Cond.fieldLink RX6 60 "LikenessPound$Tape" "word" "I" ∈ GW := gw_mem 222 (by decide +kernel) (by decide +kernel)
theorem gf_X6_60 {p : Program} {l : Launch} {e : Env} {R : Room} {s : State} {m : MethodId} {args : Array Value} {below : List Frame} {meth : Method} {c : Code} {H : Heap} {locs : List Loc} {cells slots : Nat} {Q : State → Prop} {cc : ByteArray} {pc : Nat} {ls : Array Slot} {rest : List Value} {D : va_G} {a : Nat} {tys : List (ClassId × FieldType)} {ws : va_W} (hx : p.tables.exec = Jvm.exec) (hb : c.code = cc) (hts : ∀ w ∈ GW, w.before args s = true) (hown : s.vm.findClass RX6 = some m.cls) (hK : va_K D vwCl tys s) (hP : va_P D vwCl ws H) (q0 : Nat) {fs : List Value} (he : ws[q0]? = some (a, .inr (9, fs))) {v : Value} (hv : fs[7]? = some v) (hdg : decode cc pc = .ok (.getfield 60, 3)) (kk : W p l e R s m args below meth c H locs cells slots Q (F0 m (pc + 3) ls (v :: rest))) : W p l e R s m args below meth c H locs cells slots Q (F0 m pc ls (.ref a :: rest)) := va_get (C := RX8) (T := TX8) (N := 12) (ci := 9) hx hb hts inX8 hown hK hP q0 he rfl 7 (by decide) (hts _ t108) (fun _ h => h) hv hdg kk
theorem dX6_readOne_4 : decode cX6_readOne 4 = .ok (.istore 4, 2) := by decide +kernel
theorem dX6_readOne_6 : decode cX6_readOne 6 = .ok (.aload_n 1, 1) := by decide +kernel
theorem dX6_readOne_7 : decode cX6_readOne 7 = .ok (.getfield 50, 3) := by decide +kernel
theorem dX6_readOne_10 : decode cX6_readOne 10 = .ok (.bipush 40, 2) := by decide +kernel
theorem dX6_readOne_12 : decode cX6_readOne 12 = .ok (.if_icmp .ne 7, 3) := by decide +kernel
theorem dX6_readOne_19 : decode cX6_readOne 19 = .ok (.iconst 0, 1) := by decide +kernel
theorem dX6_readOne_20 : decode cX6_readOne 20 = .ok (.istore 5, 2) := by decide +kernel
theorem dX6_readOne_22 : decode cX6_readOne 22 = .ok (.iload 5, 2) := by decide +kernel
theorem dX6_readOne_24 : decode cX6_readOne 24 = .ok (.ifCond .ne 17, 3) := by decide +kernel
theorem dX6_readOne_27 : decode cX6_readOne 27 = .ok (.iload 4, 2) := by decide +kernel
theorem dX6_readOne_29 : decode cX6_readOne 29 = .ok (.invokestatic 73, 3) := by decide +kernel
theorem t1278 : Cond.methodLink RX6 73 yX6_beginsOne ∈ GW := gw_mem 1392 (by decide +kernel) (by decide +kernel)
theorem t1279 : Cond.static yX6_beginsOne ∈ GW := gw_mem 1393 (by decide +kernel) (by decide +kernel)
theorem cw_X6_73 {R : Room} {s : State} {args : Array Value} {rm : Room} {mc ms : Nat} (hts : ∀ w ∈ GW, w.before args s = true) (hrc : rm.cells = mc) (hrs : rm.slots = ms) (hR : rm.frames + 1 ≤ R.frames ∧ 8 + (1 + 11) + rm.locals ≤ R.locals) : CallB R s args RX6 73 yX6_beginsOne cX6_beginsOne 1 (some .boolean) (wl yX6_beginsOne cX6_beginsOne 1 (some .boolean)) rm mc ms 1 ∧ (Cond.static yX6_beginsOne).before args s = true := va_cwS 1 hts (gi_S t1278 t1279 t17 t1280) rfl hrc hrs (by decide +kernel) hR
theorem dX6_readOne_32 : decode cX6_readOne 32 = .ok (.ifCond .ne 9, 3) := by decide +kernel
theorem dX6_readOne_35 : decode cX6_readOne 35 = .ok (.aload_n 1, 1) := by decide +kernel
theorem dX6_readOne_36 : decode cX6_readOne 36 = .ok (.iconst 1, 1) := by decide +kernel
theorem dX6_readOne_37 : decode cX6_readOne 37 = .ok (.invokevirtual 53, 3) := by decide +kernel
theorem dX6_readOne_40 : decode cX6_readOne 40 = .ok (.ireturn, 1) := by decide +kernel
theorem dX6_readOne_41 : decode cX6_readOne 41 = .ok (.aload_n 0, 1) := by decide +kernel
theorem dX6_readOne_42 : decode cX6_readOne 42 = .ok (.getfield 28, 3) := by decide +kernel
theorem dX6_readOne_45 : decode cX6_readOne 45 = .ok (.bipush 20, 2) := by decide +kernel
theorem dX6_readOne_47 : decode cX6_readOne 47 = .ok (.if_icmp .ge 9, 3) := by decide +kernel
theorem dX6_readOne_56 : decode cX6_readOne 56 = .ok (.aload_n 1, 1) := by decide +kernel
theorem dX6_readOne_57 : decode cX6_readOne 57 = .ok (.iconst 4, 1) := by decide +kernel
theorem dX6_readOne_58 : decode cX6_readOne 58 = .ok (.invokevirtual 53, 3) := by decide +kernel
theorem dX6_readOne_61 : decode cX6_readOne 61 = .ok (.ireturn, 1) := by decide +kernel
theorem dX6_readOne_50 : decode cX6_readOne 50 = .ok (.iload_n 3, 1) := by decide +kernel
theorem dX6_readOne_51 : decode cX6_readOne 51 = .ok (.bipush 8, 2) := by decide +kernel
theorem dX6_readOne_53 : decode cX6_readOne 53 = .ok (.if_icmp .le 9, 3) := by decide +kernel
theorem dX6_readOne_15 : decode cX6_readOne 15 = .ok (.iconst 1, 1) := by decide +kernel
theorem dX6_readOne_16 : decode cX6_readOne 16 = .ok (.goto 4, 3) := by decide +kernel
abbrev cX6_readAll : ByteArray := prog_8_method_6_code
def yX6_readAll : MethodName := ⟨RX6, "readAll", "(LLikenessPound$Tape;LLikenessPound$Colony;I)Z"⟩
theorem t1273 : Cond.code yX6_readAll cX6_readAll 6 (some .boolean) ∈ GW := gw_mem 1387 (by decide +kernel) (by decide +kernel)
theorem dX6_readAll_0 : decode cX6_readAll 0 = .ok (.aload_n 0, 1) := by decide +kernel
theorem dX6_readAll_1 : decode cX6_readAll 1 = .ok (.aload_n 1, 1) := by decide +kernel
theorem dX6_readAll_2 : decode cX6_readAll 2 = .ok (.aload_n 2, 1) := by decide +kernel
theorem dX6_readAll_3 : decode cX6_readAll 3 = .ok (.iload_n 3, 1) := by decide +kernel
theorem dX6_readAll_4 : decode cX6_readAll 4 = .ok (.invokevirtual 70, 3) := by decide +kernel
theorem t1274 : Cond.methodLink RX6 70 yX6_readOne ∈ GW := gw_mem 1388 (by decide +kernel) (by decide +kernel)
theorem t1276 : Cond.instanceMethod yX6_readOne ∈ GW := gw_mem 1390 (by decide +kernel) (by decide +kernel)
theorem s30 : Cond.selects RX6 yX6_readOne yX6_readOne ∈ GW := gw_mem 30 (by decide +kernel) (by decide +kernel)
theorem cw_X6_70 {R : Room} {s : State} {args : Array Value} {rm : Room} {mc ms : Nat} (hts : ∀ w ∈ GW, w.before args s = true) (hrc : rm.cells = mc) (hrs : rm.slots = ms) (hR : rm.frames + 1 ≤ R.frames ∧ 8 + (6 + 11) + rm.locals ≤ R.locals) : CallW R s args RX6 RX6 70 yX6_readOne cX6_readOne 6 (some .boolean) (wl yX6_readOne cX6_readOne 6 (some .boolean)) rm mc ms 3 := cwV 3 hts (gi_V t1274 t1276 s30 t17 t1277) rfl hrc hrs (by decide +kernel) hR
theorem dX6_readAll_7 : decode cX6_readAll 7 = .ok (.istore 4, 2) := by decide +kernel
theorem dX6_readAll_9 : decode cX6_readAll 9 = .ok (.iconst 0, 1) := by decide +kernel
theorem dX6_readAll_10 : decode cX6_readAll 10 = .ok (.istore 5, 2) := by decide +kernel
theorem dX6_readAll_12 : decode cX6_readAll 12 = .ok (.iload 5, 2) := by decide +kernel
theorem dX6_readAll_14 : decode cX6_readAll 14 = .ok (.bipush 20, 2) := by decide +kernel
theorem dX6_readAll_16 : decode cX6_readAll 16 = .ok (.if_icmp .ge 55, 3) := by decide +kernel
theorem dX6_readAll_71 : decode cX6_readAll 71 = .ok (.iload 4, 2) := by decide +kernel
theorem dX6_readAll_73 : decode cX6_readAll 73 = .ok (.ireturn, 1) := by decide +kernel
theorem dX6_readAll_19 : decode cX6_readAll 19 = .ok (.iload 4, 2) := by decide +kernel
theorem dX6_readAll_21 : decode cX6_readAll 21 = .ok (.ifCond .eq 50, 3) := by decide +kernel
theorem dX6_readAll_24 : decode cX6_readAll 24 = .ok (.aload_n 1, 1) := by decide +kernel
theorem dX6_readAll_25 : decode cX6_readAll 25 = .ok (.getfield 60, 3) := by decide +kernel
theorem dX6_readAll_28 : decode cX6_readAll 28 = .ok (.bipush 17, 2) := by decide +kernel
theorem dX6_readAll_30 : decode cX6_readAll 30 = .ok (.if_icmp .ne 41, 3) := by decide +kernel
theorem dX6_readAll_33 : decode cX6_readAll 33 = .ok (.aload_n 1, 1) := by decide +kernel
theorem dX6_readAll_34 : decode cX6_readAll 34 = .ok (.invokevirtual 63, 3) := by decide +kernel
theorem dX6_readAll_37 : decode cX6_readAll 37 = .ok (.aload_n 0, 1) := by decide +kernel
theorem dX6_readAll_38 : decode cX6_readAll 38 = .ok (.aload_n 1, 1) := by decide +kernel
theorem dX6_readAll_39 : decode cX6_readAll 39 = .ok (.aload_n 2, 1) := by decide +kernel
theorem dX6_readAll_40 : decode cX6_readAll 40 = .ok (.iload_n 3, 1) := by decide +kernel
theorem dX6_readAll_41 : decode cX6_readAll 41 = .ok (.invokevirtual 70, 3) := by decide +kernel
theorem dX6_readAll_44 : decode cX6_readAll 44 = .ok (.ifCond .eq 18, 3) := by decide +kernel
theorem dX6_readAll_62 : decode cX6_readAll 62 = .ok (.iconst 0, 1) := by decide +kernel
theorem dX6_readAll_63 : decode cX6_readAll 63 = .ok (.istore 4, 2) := by decide +kernel
theorem dX6_readAll_65 : decode cX6_readAll 65 = .ok (.iinc 5 1, 3) := by decide +kernel
theorem dX6_readAll_68 : decode cX6_readAll 68 = .ok (.goto (-56), 3) := by decide +kernel
theorem dX6_readAll_47 : decode cX6_readAll 47 = .ok (.aload_n 0, 1) := by decide +kernel
theorem dX6_readAll_48 : decode cX6_readAll 48 = .ok (.bipush 17, 2) := by decide +kernel
theorem dX6_readAll_50 : decode cX6_readAll 50 = .ok (.iconst 0, 1) := by decide +kernel
theorem dX6_readAll_51 : decode cX6_readAll 51 = .ok (.iconst 0, 1) := by decide +kernel
theorem dX6_readAll_52 : decode cX6_readAll 52 = .ok (.invokevirtual 66, 3) := by decide +kernel
theorem dX6_readAll_55 : decode cX6_readAll 55 = .ok (.ifCond .eq 7, 3) := by decide +kernel
theorem dX6_readAll_58 : decode cX6_readAll 58 = .ok (.iconst 1, 1) := by decide +kernel
theorem dX6_readAll_59 : decode cX6_readAll 59 = .ok (.goto 4, 3) := by decide +kernel
abbrev cX6_readAny : ByteArray := prog_8_method_5_code
def yX6_readAny : MethodName := ⟨RX6, "readAny", "(LLikenessPound$Tape;LLikenessPound$Colony;I)Z"⟩
theorem t1269 : Cond.code yX6_readAny cX6_readAny 6 (some .boolean) ∈ GW := gw_mem 1383 (by decide +kernel) (by decide +kernel)
theorem dX6_readAny_0 : decode cX6_readAny 0 = .ok (.aload_n 0, 1) := by decide +kernel
theorem dX6_readAny_1 : decode cX6_readAny 1 = .ok (.aload_n 1, 1) := by decide +kernel
theorem dX6_readAny_2 : decode cX6_readAny 2 = .ok (.aload_n 2, 1) := by decide +kernel
theorem dX6_readAny_3 : decode cX6_readAny 3 = .ok (.iload_n 3, 1) := by decide +kernel
theorem dX6_readAny_4 : decode cX6_readAny 4 = .ok (.invokevirtual 57, 3) := by decide +kernel
theorem t1270 : Cond.methodLink RX6 57 yX6_readAll ∈ GW := gw_mem 1384 (by decide +kernel) (by decide +kernel)
theorem t1272 : Cond.instanceMethod yX6_readAll ∈ GW := gw_mem 1386 (by decide +kernel) (by decide +kernel)
theorem s29 : Cond.selects RX6 yX6_readAll yX6_readAll ∈ GW := gw_mem 29 (by decide +kernel) (by decide +kernel)
theorem cw_X6_57 {R : Room} {s : State} {args : Array Value} {rm : Room} {mc ms : Nat} (hts : ∀ w ∈ GW, w.before args s = true) (hrc : rm.cells = mc) (hrs : rm.slots = ms) (hR : rm.frames + 1 ≤ R.frames ∧ 8 + (6 + 11) + rm.locals ≤ R.locals) : CallW R s args RX6 RX6 57 yX6_readAll cX6_readAll 6 (some .boolean) (wl yX6_readAll cX6_readAll 6 (some .boolean)) rm mc ms 3 := cwV 3 hts (gi_V t1270 t1272 s29 t17 t1273) rfl hrc hrs (by decide +kernel) hR
theorem dX6_readAny_7 : decode cX6_readAny 7 = .ok (.istore 4, 2) := by decide +kernel
theorem dX6_readAny_9 : decode cX6_readAny 9 = .ok (.iconst 0, 1) := by decide +kernel
theorem dX6_readAny_10 : decode cX6_readAny 10 = .ok (.istore 5, 2) := by decide +kernel
theorem dX6_readAny_12 : decode cX6_readAny 12 = .ok (.iload 5, 2) := by decide +kernel
theorem dX6_readAny_14 : decode cX6_readAny 14 = .ok (.bipush 20, 2) := by decide +kernel
theorem dX6_readAny_16 : decode cX6_readAny 16 = .ok (.if_icmp .ge 55, 3) := by decide +kernel
theorem dX6_readAny_71 : decode cX6_readAny 71 = .ok (.iload 4, 2) := by decide +kernel
theorem dX6_readAny_73 : decode cX6_readAny 73 = .ok (.ireturn, 1) := by decide +kernel
theorem dX6_readAny_19 : decode cX6_readAny 19 = .ok (.iload 4, 2) := by decide +kernel
theorem dX6_readAny_21 : decode cX6_readAny 21 = .ok (.ifCond .eq 50, 3) := by decide +kernel
theorem dX6_readAny_24 : decode cX6_readAny 24 = .ok (.aload_n 1, 1) := by decide +kernel
theorem dX6_readAny_25 : decode cX6_readAny 25 = .ok (.getfield 60, 3) := by decide +kernel
theorem dX6_readAny_28 : decode cX6_readAny 28 = .ok (.bipush 16, 2) := by decide +kernel
theorem dX6_readAny_30 : decode cX6_readAny 30 = .ok (.if_icmp .ne 41, 3) := by decide +kernel
theorem dX6_readAny_33 : decode cX6_readAny 33 = .ok (.aload_n 1, 1) := by decide +kernel
theorem dX6_readAny_34 : decode cX6_readAny 34 = .ok (.invokevirtual 63, 3) := by decide +kernel
theorem dX6_readAny_37 : decode cX6_readAny 37 = .ok (.aload_n 0, 1) := by decide +kernel
theorem dX6_readAny_38 : decode cX6_readAny 38 = .ok (.aload_n 1, 1) := by decide +kernel
theorem dX6_readAny_39 : decode cX6_readAny 39 = .ok (.aload_n 2, 1) := by decide +kernel
theorem dX6_readAny_40 : decode cX6_readAny 40 = .ok (.iload_n 3, 1) := by decide +kernel
theorem dX6_readAny_41 : decode cX6_readAny 41 = .ok (.invokevirtual 57, 3) := by decide +kernel
theorem dX6_readAny_44 : decode cX6_readAny 44 = .ok (.ifCond .eq 18, 3) := by decide +kernel
theorem dX6_readAny_62 : decode cX6_readAny 62 = .ok (.iconst 0, 1) := by decide +kernel
theorem dX6_readAny_63 : decode cX6_readAny 63 = .ok (.istore 4, 2) := by decide +kernel
theorem dX6_readAny_65 : decode cX6_readAny 65 = .ok (.iinc 5 1, 3) := by decide +kernel
theorem dX6_readAny_68 : decode cX6_readAny 68 = .ok (.goto (-56), 3) := by decide +kernel
theorem dX6_readAny_47 : decode cX6_readAny 47 = .ok (.aload_n 0, 1) := by decide +kernel
theorem dX6_readAny_48 : decode cX6_readAny 48 = .ok (.bipush 16, 2) := by decide +kernel
theorem dX6_readAny_50 : decode cX6_readAny 50 = .ok (.iconst 0, 1) := by decide +kernel
theorem dX6_readAny_51 : decode cX6_readAny 51 = .ok (.iconst 0, 1) := by decide +kernel
theorem dX6_readAny_52 : decode cX6_readAny 52 = .ok (.invokevirtual 66, 3) := by decide +kernel
theorem dX6_readAny_55 : decode cX6_readAny 55 = .ok (.ifCond .eq 7, 3) := by decide +kernel
theorem dX6_readAny_58 : decode cX6_readAny 58 = .ok (.iconst 1, 1) := by decide +kernel
theorem dX6_readAny_59 : decode cX6_readAny 59 = .ok (.goto 4, 3) := by decide +kernel
theorem dX6_readOne_62 : decode cX6_readOne 62 = .ok (.aload_n 0, 1) := by decide +kernel
theorem dX6_readOne_63 : decode cX6_readOne 63 = .ok (.dup, 1) := by decide +kernel
theorem dX6_readOne_64 : decode cX6_readOne 64 = .ok (.getfield 28, 3) := by decide +kernel
theorem dX6_readOne_67 : decode cX6_readOne 67 = .ok (.iconst 1, 1) := by decide +kernel
theorem dX6_readOne_68 : decode cX6_readOne 68 = .ok (.iadd, 1) := by decide +kernel
theorem dX6_readOne_69 : decode cX6_readOne 69 = .ok (.putfield 28, 3) := by decide +kernel
theorem dX6_readOne_72 : decode cX6_readOne 72 = .ok (.aload_n 1, 1) := by decide +kernel
theorem dX6_readOne_73 : decode cX6_readOne 73 = .ok (.invokevirtual 63, 3) := by decide +kernel
theorem dX6_readOne_76 : decode cX6_readOne 76 = .ok (.iload 5, 2) := by decide +kernel
theorem dX6_readOne_78 : decode cX6_readOne 78 = .ok (.ifCond .eq 30, 3) := by decide +kernel
theorem dX6_readOne_108 : decode cX6_readOne 108 = .ok (.iload 4, 2) := by decide +kernel
theorem dX6_readOne_110 : decode cX6_readOne 110 = .ok (.bipush 18, 2) := by decide +kernel
theorem dX6_readOne_112 : decode cX6_readOne 112 = .ok (.if_icmp .ne 32, 3) := by decide +kernel
theorem dX6_readOne_144 : decode cX6_readOne 144 = .ok (.iload 4, 2) := by decide +kernel
theorem dX6_readOne_146 : decode cX6_readOne 146 = .ok (.bipush 23, 2) := by decide +kernel
theorem dX6_readOne_148 : decode cX6_readOne 148 = .ok (.if_icmp .ne 16, 3) := by decide +kernel
theorem dX6_readOne_164 : decode cX6_readOne 164 = .ok (.iload 4, 2) := by decide +kernel
theorem dX6_readOne_166 : decode cX6_readOne 166 = .ok (.bipush 24, 2) := by decide +kernel
theorem dX6_readOne_168 : decode cX6_readOne 168 = .ok (.if_icmp .ne 16, 3) := by decide +kernel
theorem dX6_readOne_184 : decode cX6_readOne 184 = .ok (.iload 4, 2) := by decide +kernel
theorem dX6_readOne_186 : decode cX6_readOne 186 = .ok (.invokestatic 92, 3) := by decide +kernel
theorem t1294 : Cond.methodLink RX6 92 yX6_isCompared ∈ GW := gw_mem 1408 (by decide +kernel) (by decide +kernel)
theorem t1295 : Cond.static yX6_isCompared ∈ GW := gw_mem 1409 (by decide +kernel) (by decide +kernel)
theorem cw_X6_92 {R : Room} {s : State} {args : Array Value} {rm : Room} {mc ms : Nat} (hts : ∀ w ∈ GW, w.before args s = true) (hrc : rm.cells = mc) (hrs : rm.slots = ms) (hR : rm.frames + 1 ≤ R.frames ∧ 8 + (1 + 11) + rm.locals ≤ R.locals) : CallB R s args RX6 92 yX6_isCompared cX6_isCompared 1 (some .boolean) (wl yX6_isCompared cX6_isCompared 1 (some .boolean)) rm mc ms 1 ∧ (Cond.static yX6_isCompared).before args s = true := va_cwS 1 hts (gi_S t1294 t1295 t17 t1296) rfl hrc hrs (by decide +kernel) hR
theorem dX6_readOne_189 : decode cX6_readOne 189 = .ok (.ifCond .eq 13, 3) := by decide +kernel
theorem dX6_readOne_202 : decode cX6_readOne 202 = .ok (.aload_n 0, 1) := by decide +kernel
theorem dX6_readOne_203 : decode cX6_readOne 203 = .ok (.iload 4, 2) := by decide +kernel
theorem dX6_readOne_205 : decode cX6_readOne 205 = .ok (.iconst 0, 1) := by decide +kernel
theorem dX6_readOne_206 : decode cX6_readOne 206 = .ok (.iconst 0, 1) := by decide +kernel
theorem dX6_readOne_207 : decode cX6_readOne 207 = .ok (.invokevirtual 66, 3) := by decide +kernel
theorem dX6_readOne_210 : decode cX6_readOne 210 = .ok (.ireturn, 1) := by decide +kernel
theorem dX6_readOne_192 : decode cX6_readOne 192 = .ok (.aload_n 0, 1) := by decide +kernel
theorem dX6_readOne_193 : decode cX6_readOne 193 = .ok (.iload 4, 2) := by decide +kernel
theorem dX6_readOne_195 : decode cX6_readOne 195 = .ok (.aload_n 1, 1) := by decide +kernel
theorem dX6_readOne_196 : decode cX6_readOne 196 = .ok (.invokevirtual 95, 3) := by decide +kernel
theorem t1297 : Cond.methodLink RX6 95 yX6_readCompared ∈ GW := gw_mem 1411 (by decide +kernel) (by decide +kernel)
theorem t1299 : Cond.instanceMethod yX6_readCompared ∈ GW := gw_mem 1413 (by decide +kernel) (by decide +kernel)
theorem s33 : Cond.selects RX6 yX6_readCompared yX6_readCompared ∈ GW := gw_mem 33 (by decide +kernel) (by decide +kernel)
theorem cw_X6_95 {R : Room} {s : State} {args : Array Value} {rm : Room} {mc ms : Nat} (hts : ∀ w ∈ GW, w.before args s = true) (hrc : rm.cells = mc) (hrs : rm.slots = ms) (hR : rm.frames + 1 ≤ R.frames ∧ 8 + (4 + 11) + rm.locals ≤ R.locals) : CallW R s args RX6 RX6 95 yX6_readCompared cX6_readCompared 4 (some .boolean) (wl yX6_readCompared cX6_readCompared 4 (some .boolean)) rm mc ms 2 := cwV 2 hts (gi_V t1297 t1299 s33 t17 t1300) rfl hrc hrs (by decide +kernel) hR
theorem dX6_readOne_199 : decode cX6_readOne 199 = .ok (.goto 11, 3) := by decide +kernel
theorem dX6_readOne_171 : decode cX6_readOne 171 = .ok (.aload_n 0, 1) := by decide +kernel
theorem dX6_readOne_172 : decode cX6_readOne 172 = .ok (.iload 4, 2) := by decide +kernel
theorem dX6_readOne_174 : decode cX6_readOne 174 = .ok (.aload_n 2, 1) := by decide +kernel
theorem dX6_readOne_175 : decode cX6_readOne 175 = .ok (.aload_n 1, 1) := by decide +kernel
theorem dX6_readOne_176 : decode cX6_readOne 176 = .ok (.invokevirtual 89, 3) := by decide +kernel
theorem t1293 : Cond.methodLink RX6 89 yX1_manAt ∈ GW := gw_mem 1407 (by decide +kernel) (by decide +kernel)
theorem cw_X6_89 {R : Room} {s : State} {args : Array Value} {rm : Room} {mc ms : Nat} (hts : ∀ w ∈ GW, w.before args s = true) (hrc : rm.cells = mc) (hrs : rm.slots = ms) (hR : rm.frames + 1 ≤ R.frames ∧ 8 + (2 + 11) + rm.locals ≤ R.locals) : CallW R s args RX6 RX1 89 yX1_manAt cX1_manAt 2 (some .int) (wl yX1_manAt cX1_manAt 2 (some .int)) rm mc ms 1 := cwV 1 hts (gi_V t1293 t615 t616 t16 t617) rfl hrc hrs (by decide +kernel) hR
theorem dX6_readOne_179 : decode cX6_readOne 179 = .ok (.aload_n 1, 1) := by decide +kernel
theorem dX6_readOne_180 : decode cX6_readOne 180 = .ok (.invokevirtual 85, 3) := by decide +kernel
theorem t1289 : Cond.methodLink RX6 85 yX6_readNamed ∈ GW := gw_mem 1403 (by decide +kernel) (by decide +kernel)
theorem t1291 : Cond.instanceMethod yX6_readNamed ∈ GW := gw_mem 1405 (by decide +kernel) (by decide +kernel)
theorem s32 : Cond.selects RX6 yX6_readNamed yX6_readNamed ∈ GW := gw_mem 32 (by decide +kernel) (by decide +kernel)
theorem cw_X6_85 {R : Room} {s : State} {args : Array Value} {rm : Room} {mc ms : Nat} (hts : ∀ w ∈ GW, w.before args s = true) (hrc : rm.cells = mc) (hrs : rm.slots = ms) (hR : rm.frames + 1 ≤ R.frames ∧ 8 + (4 + 11) + rm.locals ≤ R.locals) : CallW R s args RX6 RX6 85 yX6_readNamed cX6_readNamed 4 (some .boolean) (wl yX6_readNamed cX6_readNamed 4 (some .boolean)) rm mc ms 3 := cwV 3 hts (gi_V t1289 t1291 s32 t17 t1292) rfl hrc hrs (by decide +kernel) hR
theorem dX6_readOne_183 : decode cX6_readOne 183 = .ok (.ireturn, 1) := by decide +kernel
theorem dX6_readOne_151 : decode cX6_readOne 151 = .ok (.aload_n 0, 1) := by decide +kernel
theorem dX6_readOne_152 : decode cX6_readOne 152 = .ok (.iload 4, 2) := by decide +kernel
theorem dX6_readOne_154 : decode cX6_readOne 154 = .ok (.aload_n 2, 1) := by decide +kernel
theorem dX6_readOne_155 : decode cX6_readOne 155 = .ok (.aload_n 1, 1) := by decide +kernel
theorem dX6_readOne_156 : decode cX6_readOne 156 = .ok (.invokevirtual 79, 3) := by decide +kernel
theorem t1288 : Cond.methodLink RX6 79 yX1_deedAt ∈ GW := gw_mem 1402 (by decide +kernel) (by decide +kernel)
theorem cw_X6_79 {R : Room} {s : State} {args : Array Value} {rm : Room} {mc ms : Nat} (hts : ∀ w ∈ GW, w.before args s = true) (hrc : rm.cells = mc) (hrs : rm.slots = ms) (hR : rm.frames + 1 ≤ R.frames ∧ 8 + (2 + 11) + rm.locals ≤ R.locals) : CallW R s args RX6 RX1 79 yX1_deedAt cX1_deedAt 2 (some .int) (wl yX1_deedAt cX1_deedAt 2 (some .int)) rm mc ms 1 := cwV 1 hts (gi_V t1288 t625 t626 t16 t627) rfl hrc hrs (by decide +kernel) hR
theorem dX6_readOne_159 : decode cX6_readOne 159 = .ok (.aload_n 1, 1) := by decide +kernel
theorem dX6_readOne_160 : decode cX6_readOne 160 = .ok (.invokevirtual 85, 3) := by decide +kernel
theorem dX6_readOne_163 : decode cX6_readOne 163 = .ok (.ireturn, 1) := by decide +kernel
theorem dX6_readOne_115 : decode cX6_readOne 115 = .ok (.aload_n 0, 1) := by decide +kernel
theorem dX6_readOne_116 : decode cX6_readOne 116 = .ok (.aload_n 1, 1) := by decide +kernel
theorem dX6_readOne_117 : decode cX6_readOne 117 = .ok (.aload_n 2, 1) := by decide +kernel
theorem dX6_readOne_118 : decode cX6_readOne 118 = .ok (.iload_n 3, 1) := by decide +kernel
theorem dX6_readOne_119 : decode cX6_readOne 119 = .ok (.iconst 1, 1) := by decide +kernel
theorem dX6_readOne_120 : decode cX6_readOne 120 = .ok (.iadd, 1) := by decide +kernel
theorem dX6_readOne_121 : decode cX6_readOne 121 = .ok (.invokevirtual 70, 3) := by decide +kernel
theorem dX6_readOne_124 : decode cX6_readOne 124 = .ok (.ifCond .eq 18, 3) := by decide +kernel
theorem dX6_readOne_142 : decode cX6_readOne 142 = .ok (.iconst 0, 1) := by decide +kernel
theorem dX6_readOne_143 : decode cX6_readOne 143 = .ok (.ireturn, 1) := by decide +kernel
theorem dX6_readOne_127 : decode cX6_readOne 127 = .ok (.aload_n 0, 1) := by decide +kernel
theorem dX6_readOne_128 : decode cX6_readOne 128 = .ok (.bipush 18, 2) := by decide +kernel
theorem dX6_readOne_130 : decode cX6_readOne 130 = .ok (.iconst 0, 1) := by decide +kernel
theorem dX6_readOne_131 : decode cX6_readOne 131 = .ok (.iconst 0, 1) := by decide +kernel
theorem dX6_readOne_132 : decode cX6_readOne 132 = .ok (.invokevirtual 66, 3) := by decide +kernel
theorem dX6_readOne_135 : decode cX6_readOne 135 = .ok (.ifCond .eq 7, 3) := by decide +kernel
theorem dX6_readOne_138 : decode cX6_readOne 138 = .ok (.iconst 1, 1) := by decide +kernel
theorem dX6_readOne_139 : decode cX6_readOne 139 = .ok (.goto 4, 3) := by decide +kernel
theorem dX6_readOne_81 : decode cX6_readOne 81 = .ok (.aload_n 0, 1) := by decide +kernel
theorem dX6_readOne_82 : decode cX6_readOne 82 = .ok (.aload_n 1, 1) := by decide +kernel
theorem dX6_readOne_83 : decode cX6_readOne 83 = .ok (.aload_n 2, 1) := by decide +kernel
theorem dX6_readOne_84 : decode cX6_readOne 84 = .ok (.iload_n 3, 1) := by decide +kernel
theorem dX6_readOne_85 : decode cX6_readOne 85 = .ok (.iconst 1, 1) := by decide +kernel
theorem dX6_readOne_86 : decode cX6_readOne 86 = .ok (.iadd, 1) := by decide +kernel
theorem dX6_readOne_87 : decode cX6_readOne 87 = .ok (.invokevirtual 46, 3) := by decide +kernel
theorem t1266 : Cond.methodLink RX6 46 yX6_readAny ∈ GW := gw_mem 1380 (by decide +kernel) (by decide +kernel)
theorem t1268 : Cond.instanceMethod yX6_readAny ∈ GW := gw_mem 1382 (by decide +kernel) (by decide +kernel)
theorem s28 : Cond.selects RX6 yX6_readAny yX6_readAny ∈ GW := gw_mem 28 (by decide +kernel) (by decide +kernel)
theorem cw_X6_46 {R : Room} {s : State} {args : Array Value} {rm : Room} {mc ms : Nat} (hts : ∀ w ∈ GW, w.before args s = true) (hrc : rm.cells = mc) (hrs : rm.slots = ms) (hR : rm.frames + 1 ≤ R.frames ∧ 8 + (6 + 11) + rm.locals ≤ R.locals) : CallW R s args RX6 RX6 46 yX6_readAny cX6_readAny 6 (some .boolean) (wl yX6_readAny cX6_readAny 6 (some .boolean)) rm mc ms 3 := cwV 3 hts (gi_V t1266 t1268 s28 t17 t1269) rfl hrc hrs (by decide +kernel) hR
theorem dX6_readOne_90 : decode cX6_readOne 90 = .ok (.ifCond .eq 16, 3) := by decide +kernel
theorem dX6_readOne_106 : decode cX6_readOne 106 = .ok (.iconst 0, 1) := by decide +kernel
theorem dX6_readOne_107 : decode cX6_readOne 107 = .ok (.ireturn, 1) := by decide +kernel
theorem dX6_readOne_93 : decode cX6_readOne 93 = .ok (.aload_n 1, 1) := by decide +kernel
theorem dX6_readOne_94 : decode cX6_readOne 94 = .ok (.bipush 41, 2) := by decide +kernel
theorem dX6_readOne_96 : decode cX6_readOne 96 = .ok (.invokevirtual 76, 3) := by decide +kernel
theorem t1283 : Cond.methodLink RX6 76 yX8_takeSign ∈ GW := gw_mem 1397 (by decide +kernel) (by decide +kernel)
theorem cw_X6_76 {R : Room} {s : State} {args : Array Value} {rm : Room} {mc ms : Nat} (hts : ∀ w ∈ GW, w.before args s = true) (hrc : rm.cells = mc) (hrs : rm.slots = ms) (hR : rm.frames + 1 ≤ R.frames ∧ 8 + (2 + 11) + rm.locals ≤ R.locals) : CallW R s args RX6 RX8 76 yX8_takeSign cX8_takeSign 2 (some .boolean) (wl yX8_takeSign cX8_takeSign 2 (some .boolean)) rm mc ms 1 := cwV 1 hts (gi_V t1283 t654 t655 t2 t656) rfl hrc hrs (by decide +kernel) hR
theorem dX6_readOne_99 : decode cX6_readOne 99 = .ok (.ifCond .eq 7, 3) := by decide +kernel
theorem dX6_readOne_102 : decode cX6_readOne 102 = .ok (.iconst 1, 1) := by decide +kernel
theorem dX6_readOne_103 : decode cX6_readOne 103 = .ok (.goto 4, 3) := by decide +kernel
abbrev cX6_read : ByteArray := prog_8_method_4_code
def yX6_read : MethodName := ⟨RX6, "read", "(LLikenessPound$Tape;LLikenessPound$Colony;)Z"⟩
theorem t1263 : Cond.code yX6_read cX6_read 3 (some .boolean) ∈ GW := gw_mem 1377 (by decide +kernel) (by decide +kernel)
theorem dX6_read_0 : decode cX6_read 0 = .ok (.aload_n 0, 1) := by decide +kernel
theorem dX6_read_1 : decode cX6_read 1 = .ok (.invokevirtual 37, 3) := by decide +kernel
theorem t1264 : Cond.methodLink RX6 37 yX6_clear ∈ GW := gw_mem 1378 (by decide +kernel) (by decide +kernel)
theorem t658 : Cond.instanceMethod yX6_clear ∈ GW := gw_mem 772 (by decide +kernel) (by decide +kernel)
theorem t659 : Cond.selects RX6 yX6_clear yX6_clear ∈ GW := gw_mem 773 (by decide +kernel) (by decide +kernel)
theorem cw_X6_37 {R : Room} {s : State} {args : Array Value} {rm : Room} {mc ms : Nat} (hts : ∀ w ∈ GW, w.before args s = true) (hrc : rm.cells = mc) (hrs : rm.slots = ms) (hR : rm.frames + 1 ≤ R.frames ∧ 8 + (1 + 11) + rm.locals ≤ R.locals) : CallW R s args RX6 RX6 37 yX6_clear cX6_clear 1 none (wl yX6_clear cX6_clear 1 none) rm mc ms 0 := cwV 0 hts (gi_V t1264 t658 t659 t17 t660) rfl hrc hrs (by decide +kernel) hR
theorem dX6_read_4 : decode cX6_read 4 = .ok (.aload_n 1, 1) := by decide +kernel
theorem dX6_read_5 : decode cX6_read 5 = .ok (.sipush 200, 3) := by decide +kernel
theorem dX6_read_8 : decode cX6_read 8 = .ok (.invokevirtual 40, 3) := by decide +kernel
theorem t1265 : Cond.methodLink RX6 40 yX8_open ∈ GW := gw_mem 1379 (by decide +kernel) (by decide +kernel)
theorem cw_X6_40 {R : Room} {s : State} {args : Array Value} {rm : Room} {mc ms : Nat} (hts : ∀ w ∈ GW, w.before args s = true) (hrc : rm.cells = mc) (hrs : rm.slots = ms) (hR : rm.frames + 1 ≤ R.frames ∧ 8 + (2 + 11) + rm.locals ≤ R.locals) : CallW R s args RX6 RX8 40 yX8_open cX8_open 2 none (wl yX8_open cX8_open 2 none) rm mc ms 1 := cwV 1 hts (gi_V t1265 t555 t556 t2 t557) rfl hrc hrs (by decide +kernel) hR
theorem dX6_read_11 : decode cX6_read 11 = .ok (.aload_n 0, 1) := by decide +kernel
theorem dX6_read_12 : decode cX6_read 12 = .ok (.aload_n 1, 1) := by decide +kernel
theorem dX6_read_13 : decode cX6_read 13 = .ok (.aload_n 2, 1) := by decide +kernel
theorem dX6_read_14 : decode cX6_read 14 = .ok (.iconst 1, 1) := by decide +kernel
theorem dX6_read_15 : decode cX6_read 15 = .ok (.invokevirtual 46, 3) := by decide +kernel
theorem dX6_read_18 : decode cX6_read 18 = .ok (.ifCond .eq 23, 3) := by decide +kernel
theorem dX6_read_41 : decode cX6_read 41 = .ok (.iconst 0, 1) := by decide +kernel
theorem dX6_read_42 : decode cX6_read 42 = .ok (.ireturn, 1) := by decide +kernel
theorem dX6_read_21 : decode cX6_read 21 = .ok (.aload_n 1, 1) := by decide +kernel
theorem dX6_read_22 : decode cX6_read 22 = .ok (.getfield 50, 3) := by decide +kernel
theorem dX6_read_25 : decode cX6_read 25 = .ok (.iconst 3, 1) := by decide +kernel
theorem dX6_read_26 : decode cX6_read 26 = .ok (.if_icmp .eq 11, 3) := by decide +kernel
theorem dX6_read_37 : decode cX6_read 37 = .ok (.iconst 1, 1) := by decide +kernel
theorem dX6_read_38 : decode cX6_read 38 = .ok (.goto 4, 3) := by decide +kernel
theorem dX6_read_29 : decode cX6_read 29 = .ok (.aload_n 1, 1) := by decide +kernel
theorem dX6_read_30 : decode cX6_read 30 = .ok (.iconst 1, 1) := by decide +kernel
theorem dX6_read_31 : decode cX6_read 31 = .ok (.invokevirtual 53, 3) := by decide +kernel
theorem dX6_read_34 : decode cX6_read 34 = .ok (.ifCond .eq 7, 3) := by decide +kernel
