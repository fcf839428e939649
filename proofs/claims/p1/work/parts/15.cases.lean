def R_law : String := "LikenessPoundLaw"
def lw_P (b : Addr) (xs : List Int32) (args : Array Value) (s : State) : Prop := args = #[.ref b] ∧ s.IntsAt b xs ∧ xs.length ≤ 6 ∧ (Jvm.Cond.and given_1 narrow_1).before args s = true
def lw_Q (_ : Array Value) (s : State) (o : Outcome) (t : State) : Prop := o = .returned (some (.int 1)) ∧ Framed s o t [] 600002 7302232
def lw_Z (below : List Frame) (a : Array Value) (s : State) : State → Prop := fun t => ∃ o, t.status = .running ∧ Ended t below o ∧ lw_Q a s o t
/-- the law's own end, with 1 on the stack, nothing written that was there before, its room as the claim has it -/
theorem lw_ret {p : Program} {l : Launch} {e : Env} {s : State} {m : MethodId} {below : List Frame} {meth : Method} {c : Code} {b : Nat} (hx : p.tables.exec = Jvm.exec) (hb : c.code = code) (hr : meth.sig.returnType = ret) (hlocks : meth.locks = false) {pc : Nat} {H : Heap} {ls : Array Slot} (hdg : decode code pc = .ok (.ireturn, 1)) : W p l e room_1 s m #[Value.ref b] below meth c H [] 600002 7302232 (lw_Z below #[Value.ref b] s) (F0 m pc ls [.int 1]) := by
  intro T hT X
  obtain ⟨fs, hret, hrun, hended, hW, hframe⟩ := X.leave (v := some (.int 1)) (hlocks := hlocks) (fun h => by rw [hr] at h; cases h)
  have hmeth' : T.vm.method? m = some meth := X.method'
  refine ⟨T.setFrames fs, ?_, .returned (some (.int 1)), hrun, hended, rfl, ⟨_, rfl⟩, hW, hframe⟩
  jvm_step X.here [X.here.top, hx, hb, hdg, hmeth', hr, ret, narrow_b1]
  (try refine ⟨rfl, ?_⟩); (try refine ⟨rfl, ?_⟩)
  first | (intro acts; rw [hret _ acts rfl rfl rfl]) | rw [hret _ _ rfl rfl rfl]
  exact Steps.refl _
/-- what holds at the law's entry: the machine, the code, the tables' words (any of lw_tbl by 'hts w (by decide +kernel)'), the script of L ints xs at the cell b, what the Statement gives of the start (any of its parts by flat_of_before) -/
def lw_At (p : Program) (s : State) (m : MethodId) (meth : Method) (c : Code) (b L : Nat) (xs : Nat → Int32) : Prop :=
  p.tables.exec = Jvm.exec ∧ c.code = code ∧ meth.sig.returnType = ret ∧ c.maxLocals = 7 ∧ s.vm.findClass R_law = some m.cls ∧ (∀ w ∈ lw_tbl, w.before #[Value.ref b] s = true) ∧ va_X b L xs s s.heap ∧ b < s.heap.size ∧ meth.locks = false ∧ (Jvm.Cond.and given_1 narrow_1).before #[Value.ref b] s = true
abbrev FX (cy : Nat → ClassId) (ad : Nat → Nat) (ai : Nat → Nat → Int32) (al : Nat → Nat → Int64) (aq : Nat → Nat → Option Nat) : va_W := [(ad 0, .inr (11, [.ref (ad 1), .ref (ad 4), .ref (ad 5), .ref (ad 10), .ref (ad 23), .ref (ad 24), .ref (ad 25), .ref (ad 27), .ref (ad 28), .ref (ad 29), .ref (ad 30), .ref (ad 31), .ref (ad 54), .int 0, .int (-1), .int 0, .int 0])), (ad 1, .inr (9, [.ref (ad 2), .ref (ad 3), .int 0, .int 0, .int 0, .int 0, .int 0, .int 0, .long 0, .int 0, .int 0, .int 0])), (ad 2, .inl (cy 0, 940, .inl (ai 2))), (ad 3, .inl (cy 1, 29, .inr (.inl (al 3)))), (ad 4, .inr (3, [.int 0, .int 0, .int 0, .int 0, .int 0])), (ad 5, .inr (1, [.ref (ad 6), .ref (ad 7), .ref (ad 8), .ref (ad 9), .int 0, .int 0, .int 0, .int 0, .int 0, .int 0])), (ad 10, .inr (6, [.ref (ad 11), .int 0, .int 0])), (ad 11, .inl (cy 4, 9, .inr (.inr (.inr (.inr (aq 11)))))), (ad 12, .inr (5, [.ref (ad 13), .ref (ad 14), .ref (ad 15), .ref (ad 16), .ref (ad 17), .ref (ad 18), .ref (ad 19), .ref (ad 20), .ref (ad 21), .ref (ad 22), .int 0])), (ad 13, .inl (cy 0, 7, .inl (ai 13))), (ad 14, .inl (cy 0, 70, .inl (ai 14))), (ad 15, .inl (cy 0, 49, .inl (ai 15))), (ad 16, .inl (cy 0, 7, .inl (ai 16))), (ad 17, .inl (cy 0, 7, .inl (ai 17))), (ad 18, .inl (cy 0, 7, .inl (ai 18))), (ad 19, .inl (cy 0, 7, .inl (ai 19))), (ad 20, .inl (cy 0, 7, .inl (ai 20))), (ad 21, .inl (cy 0, 7, .inl (ai 21))), (ad 22, .inl (cy 0, 7, .inl (ai 22))), (ad 25, .inr (0, [.ref (ad 26), .int 0, .int 0, .int 0])), (ad 29, .inl (cy 5, 2, .inr (.inr (.inr (.inr (aq 29)))))), (ad 30, .inl (cy 2, 2, .inl (ai 30))), (ad 31, .inr (10, [.ref (ad 32), .ref (ad 38), .ref (ad 49)])), (ad 32, .inr (2, [.ref (ad 33), .ref (ad 34), .ref (ad 35), .ref (ad 36), .ref (ad 37), .int 0, .int 0, .int 60, .int 10])), (ad 33, .inl (cy 1, 7, .inr (.inl (al 33)))), (ad 34, .inl (cy 1, 10, .inr (.inl (al 34)))), (ad 35, .inl (cy 0, 10, .inl (ai 35))), (ad 36, .inl (cy 2, 10, .inl (ai 36))), (ad 37, .inl (cy 0, 7, .inl (ai 37))), (ad 38, .inr (5, [.ref (ad 39), .ref (ad 40), .ref (ad 41), .ref (ad 42), .ref (ad 43), .ref (ad 44), .ref (ad 45), .ref (ad 46), .ref (ad 47), .ref (ad 48), .int 0])), (ad 39, .inl (cy 0, 7, .inl (ai 39))), (ad 40, .inl (cy 0, 70, .inl (ai 40))), (ad 41, .inl (cy 0, 49, .inl (ai 41))), (ad 42, .inl (cy 0, 7, .inl (ai 42))), (ad 43, .inl (cy 0, 7, .inl (ai 43))), (ad 44, .inl (cy 0, 7, .inl (ai 44))), (ad 45, .inl (cy 0, 7, .inl (ai 45))), (ad 46, .inl (cy 0, 7, .inl (ai 46))), (ad 47, .inl (cy 0, 7, .inl (ai 47))), (ad 48, .inl (cy 0, 7, .inl (ai 48))), (ad 49, .inr (7, [.ref (ad 50), .ref (ad 51), .ref (ad 52), .ref (ad 53), .int 0, .int 0])), (ad 50, .inl (cy 0, 40, .inl (ai 50))), (ad 51, .inl (cy 0, 40, .inl (ai 51))), (ad 52, .inl (cy 0, 40, .inl (ai 52))), (ad 53, .inl (cy 0, 20, .inl (ai 53))), (ad 54, .inr (10, [.ref (ad 55), .ref (ad 61), .ref (ad 72)])), (ad 55, .inr (2, [.ref (ad 56), .ref (ad 57), .ref (ad 58), .ref (ad 59), .ref (ad 60), .int 0, .int 0, .int 60, .int 10])), (ad 56, .inl (cy 1, 7, .inr (.inl (al 56)))), (ad 57, .inl (cy 1, 10, .inr (.inl (al 57)))), (ad 58, .inl (cy 0, 10, .inl (ai 58))), (ad 59, .inl (cy 2, 10, .inl (ai 59))), (ad 60, .inl (cy 0, 7, .inl (ai 60))), (ad 61, .inr (5, [.ref (ad 62), .ref (ad 63), .ref (ad 64), .ref (ad 65), .ref (ad 66), .ref (ad 67), .ref (ad 68), .ref (ad 69), .ref (ad 70), .ref (ad 71), .int 0])), (ad 62, .inl (cy 0, 7, .inl (ai 62))), (ad 63, .inl (cy 0, 70, .inl (ai 63))), (ad 64, .inl (cy 0, 49, .inl (ai 64))), (ad 65, .inl (cy 0, 7, .inl (ai 65))), (ad 66, .inl (cy 0, 7, .inl (ai 66))), (ad 67, .inl (cy 0, 7, .inl (ai 67))), (ad 68, .inl (cy 0, 7, .inl (ai 68))), (ad 69, .inl (cy 0, 7, .inl (ai 69))), (ad 70, .inl (cy 0, 7, .inl (ai 70))), (ad 71, .inl (cy 0, 7, .inl (ai 71))), (ad 72, .inr (7, [.ref (ad 73), .ref (ad 74), .ref (ad 75), .ref (ad 76), .int 0, .int 0])), (ad 73, .inl (cy 0, 40, .inl (ai 73))), (ad 74, .inl (cy 0, 40, .inl (ai 74))), (ad 75, .inl (cy 0, 40, .inl (ai 75))), (ad 76, .inl (cy 0, 20, .inl (ai 76))), (ad 77, .inr (10, [.ref (ad 78), .ref (ad 84), .ref (ad 95)])), (ad 78, .inr (2, [.ref (ad 79), .ref (ad 80), .ref (ad 81), .ref (ad 82), .ref (ad 83), .int 0, .int 0, .int 60, .int 10])), (ad 79, .inl (cy 1, 7, .inr (.inl (al 79)))), (ad 80, .inl (cy 1, 10, .inr (.inl (al 80)))), (ad 81, .inl (cy 0, 10, .inl (ai 81))), (ad 82, .inl (cy 2, 10, .inl (ai 82))), (ad 83, .inl (cy 0, 7, .inl (ai 83))), (ad 84, .inr (5, [.ref (ad 85), .ref (ad 86), .ref (ad 87), .ref (ad 88), .ref (ad 89), .ref (ad 90), .ref (ad 91), .ref (ad 92), .ref (ad 93), .ref (ad 94), .int 0])), (ad 85, .inl (cy 0, 7, .inl (ai 85))), (ad 86, .inl (cy 0, 70, .inl (ai 86))), (ad 87, .inl (cy 0, 49, .inl (ai 87))), (ad 88, .inl (cy 0, 7, .inl (ai 88))), (ad 89, .inl (cy 0, 7, .inl (ai 89))), (ad 90, .inl (cy 0, 7, .inl (ai 90))), (ad 91, .inl (cy 0, 7, .inl (ai 91))), (ad 92, .inl (cy 0, 7, .inl (ai 92))), (ad 93, .inl (cy 0, 7, .inl (ai 93))), (ad 94, .inl (cy 0, 7, .inl (ai 94))), (ad 95, .inr (7, [.ref (ad 96), .ref (ad 97), .ref (ad 98), .ref (ad 99), .int 0, .int 0])), (ad 96, .inl (cy 0, 40, .inl (ai 96))), (ad 97, .inl (cy 0, 40, .inl (ai 97))), (ad 98, .inl (cy 0, 40, .inl (ai 98))), (ad 99, .inl (cy 0, 20, .inl (ai 99))), (ad 100, .inr (10, [.ref (ad 101), .ref (ad 107), .ref (ad 118)])), (ad 101, .inr (2, [.ref (ad 102), .ref (ad 103), .ref (ad 104), .ref (ad 105), .ref (ad 106), .int 0, .int 0, .int 60, .int 10])), (ad 102, .inl (cy 1, 7, .inr (.inl (al 102)))), (ad 103, .inl (cy 1, 10, .inr (.inl (al 103)))), (ad 104, .inl (cy 0, 10, .inl (ai 104))), (ad 105, .inl (cy 2, 10, .inl (ai 105))), (ad 106, .inl (cy 0, 7, .inl (ai 106))), (ad 107, .inr (5, [.ref (ad 108), .ref (ad 109), .ref (ad 110), .ref (ad 111), .ref (ad 112), .ref (ad 113), .ref (ad 114), .ref (ad 115), .ref (ad 116), .ref (ad 117), .int 0])), (ad 108, .inl (cy 0, 7, .inl (ai 108))), (ad 109, .inl (cy 0, 70, .inl (ai 109))), (ad 110, .inl (cy 0, 49, .inl (ai 110))), (ad 111, .inl (cy 0, 7, .inl (ai 111))), (ad 112, .inl (cy 0, 7, .inl (ai 112))), (ad 113, .inl (cy 0, 7, .inl (ai 113))), (ad 114, .inl (cy 0, 7, .inl (ai 114))), (ad 115, .inl (cy 0, 7, .inl (ai 115))), (ad 116, .inl (cy 0, 7, .inl (ai 116))), (ad 117, .inl (cy 0, 7, .inl (ai 117))), (ad 118, .inr (7, [.ref (ad 119), .ref (ad 120), .ref (ad 121), .ref (ad 122), .int 0, .int 0])), (ad 119, .inl (cy 0, 40, .inl (ai 119))), (ad 120, .inl (cy 0, 40, .inl (ai 120))), (ad 121, .inl (cy 0, 40, .inl (ai 121))), (ad 122, .inl (cy 0, 20, .inl (ai 122)))]
abbrev FM (cy : Nat → ClassId) (am : Nat → Nat) (mi : Nat → Nat → Int32) (ml : Nat → Nat → Int64) : va_W := [(am 0, .inr (12, [.int 0, .ref (am 1), .int 0, .int 0, .int 0, .int 0, .int 0, .int 0, .int 0, .int 0, .int 0, .int 0, .long 0, .int 0, .ref (am 2), .ref (am 3), .ref (am 4), .ref (am 5), .ref (am 6), .ref (am 7), .ref (am 8), .ref (am 9), .ref (am 10), .ref (am 11), .int 0, .int (-1), .ref (am 12), .ref (am 13), .ref (am 14), .int 0, .ref (am 15), .ref (am 16), .int 0, .int 0, .int 0, .ref (am 17), .int 0, .int 0, .ref (am 18), .ref (am 19), .int 0, .int 0, .ref (am 20), .int 0, .int 0, .int 0, .int 0])), (am 1, .inl (cy 0, 940, .inl (mi 1))), (am 2, .inl (cy 0, 575, .inl (mi 2))), (am 3, .inl (cy 0, 157, .inl (mi 3))), (am 4, .inl (cy 0, 1150, .inl (mi 4))), (am 5, .inl (cy 0, 1408, .inl (mi 5))), (am 6, .inl (cy 0, 176, .inl (mi 6))), (am 7, .inl (cy 1, 17, .inr (.inl (ml 7)))), (am 8, .inl (cy 1, 17, .inr (.inl (ml 8)))), (am 9, .inl (cy 1, 34, .inr (.inl (ml 9)))), (am 10, .inl (cy 2, 2, .inl (mi 10))), (am 11, .inl (cy 2, 2, .inl (mi 11))), (am 12, .inl (cy 1, 5632, .inr (.inl (ml 12)))), (am 13, .inl (cy 0, 5632, .inl (mi 13))), (am 14, .inl (cy 0, 10, .inl (mi 14))), (am 15, .inl (cy 0, 10, .inl (mi 15))), (am 16, .inl (cy 0, 10, .inl (mi 16))), (am 17, .inl (cy 0, 64, .inl (mi 17))), (am 18, .inl (cy 0, 160, .inl (mi 18))), (am 19, .inl (cy 0, 4, .inl (mi 19))), (am 20, .inl (cy 0, 240, .inl (mi 20)))]
abbrev FA (s : State) : Nat → Prop := fun q => s.heap.size ≤ q
def OkX (ad : Nat → Nat) (ai : Nat → Nat → Int32) (aq : Nat → Nat → Option Nat) : Prop := (∀ j : Nat, j < 7 → ai 44 j = 0) ∧ (∀ j : Nat, ai 30 j = 0) ∧ aq 11 0 = some (ad 12) ∧ aq 29 0 = some (ad 77) ∧ aq 29 1 = some (ad 100)
def OkM (mi : Nat → Nat → Int32) : Prop := NowOk (mi 2) ∧ ∀ j : Nat, mi 10 j = 0
abbrev cL_law : ByteArray := code
theorem dL_law_1457 : decode cL_law 1457 = .ok (.iinc 4 6, 3) := by decide +kernel
theorem dL_law_1460 : decode cL_law 1460 = .ok (.goto (-1437), 3) := by decide +kernel
theorem dL_law_23 : decode cL_law 23 = .ok (.iload 4, 2) := by decide +kernel
theorem dL_law_25 : decode cL_law 25 = .ok (.aload_n 0, 1) := by decide +kernel
theorem dL_law_26 : decode cL_law 26 = .ok (.arraylength, 1) := by decide +kernel
theorem dL_law_27 : decode cL_law 27 = .ok (.bipush 6, 2) := by decide +kernel
theorem dL_law_29 : decode cL_law 29 = .ok (.isub, 1) := by decide +kernel
theorem dL_law_30 : decode cL_law 30 = .ok (.if_icmp .gt 1433, 3) := by decide +kernel
theorem dL_law_1463 : decode cL_law 1463 = .ok (.iconst 1, 1) := by decide +kernel
theorem dL_law_1464 : decode cL_law 1464 = .ok (.ireturn, 1) := by decide +kernel
/-- behind the one call: the loop ends, and the law answers true -/
theorem law_end {p : Program} {l : Launch} {e : Env} {s : State} {m : MethodId} {below : List Frame} {meth : Method} {c : Code} {b : Nat} {xs : Nat → Int32} (C0 : lw_At p s m meth c b 6 xs) {H : Heap} {locs : List Loc} (hS : va_S (FA s) s.heap H locs) {ls : Array Slot} (hl : lv_has ls 7 [(4, .int 0), (0, .ref b)]) {cells slots : Nat} (h1 : cells ≤ 600002) (h2 : slots ≤ 7302232) : W p l e room_1 s m #[Value.ref b] below meth c H locs cells slots (lw_Z below #[Value.ref b] s) (F0 m 1457 ls []) := by
  obtain ⟨hx, hb, hr, hml, hown, htsL, hXs, hbl, hlocks, hgv⟩ := C0
  have hbA : ¬ FA s b := Nat.not_le.mpr hbl
  refine lv_iinc (v := 6) (lv' := [(4, .int 6), (0, .ref b)]) hx hb dL_law_1457 hl (k := 0) rfl (by decide) (by decide) rfl (fun ls hl => ?_)
  refine lv_goto (tgt := 23) hx hb dL_law_1460 (by decide) ?_
  refine lv_iload hx hb dL_law_23 (lv_at hl 0 rfl) ?_
  refine lv_aload_n hx hb dL_law_25 rfl (lv_at hl 1 rfl) ?_
  refine va_slen hx hb hXs hbl hbA hS dL_law_26 ?_
  refine lv_bipush (v := 6) hx hb dL_law_27 (by decide) ?_
  refine lv_isub hx hb dL_law_29 ?_
  refine as_i 0 (by decide) ?_
  refine lv_icmp_gt (tgt := 1463) hx hb dL_law_30 (by decide) (fun _ => ?_) (fun c9 => absurd (by decide) c9)
  refine lv_iconst (v := 1) hx hb dL_law_1463 (by decide) ?_
  refine va_forget (fun q hq => hS.2.2 q hq) ?_
  refine W.widen (k := 600002) (n := 7302232) h1 h2 ?_
  exact lw_ret hx hb hr hlocks dL_law_1464
theorem dL_law_220 : decode cL_law 220 = .ok (.aload_n 1, 1) := by decide +kernel
theorem dL_law_221 : decode cL_law 221 = .ok (.aload_n 0, 1) := by decide +kernel
theorem dL_law_222 : decode cL_law 222 = .ok (.iload 4, 2) := by decide +kernel
theorem dL_law_224 : decode cL_law 224 = .ok (.iconst 1, 1) := by decide +kernel
theorem dL_law_225 : decode cL_law 225 = .ok (.iadd, 1) := by decide +kernel
theorem dL_law_226 : decode cL_law 226 = .ok (.iaload, 1) := by decide +kernel
theorem dL_law_227 : decode cL_law 227 = .ok (.aload_n 0, 1) := by decide +kernel
theorem dL_law_228 : decode cL_law 228 = .ok (.iload 4, 2) := by decide +kernel
theorem dL_law_230 : decode cL_law 230 = .ok (.iconst 2, 1) := by decide +kernel
theorem dL_law_231 : decode cL_law 231 = .ok (.iadd, 1) := by decide +kernel
theorem dL_law_232 : decode cL_law 232 = .ok (.iaload, 1) := by decide +kernel
theorem dL_law_233 : decode cL_law 233 = .ok (.aload_n 0, 1) := by decide +kernel
theorem dL_law_234 : decode cL_law 234 = .ok (.iload 4, 2) := by decide +kernel
theorem dL_law_236 : decode cL_law 236 = .ok (.iconst 3, 1) := by decide +kernel
theorem dL_law_237 : decode cL_law 237 = .ok (.iadd, 1) := by decide +kernel
theorem dL_law_238 : decode cL_law 238 = .ok (.iaload, 1) := by decide +kernel
theorem dL_law_239 : decode cL_law 239 = .ok (.aload_n 0, 1) := by decide +kernel
theorem dL_law_240 : decode cL_law 240 = .ok (.iload 4, 2) := by decide +kernel
theorem dL_law_242 : decode cL_law 242 = .ok (.iconst 4, 1) := by decide +kernel
theorem dL_law_243 : decode cL_law 243 = .ok (.iadd, 1) := by decide +kernel
theorem dL_law_244 : decode cL_law 244 = .ok (.iaload, 1) := by decide +kernel
theorem dL_law_245 : decode cL_law 245 = .ok (.aload_n 0, 1) := by decide +kernel
theorem dL_law_246 : decode cL_law 246 = .ok (.iload 4, 2) := by decide +kernel
theorem dL_law_248 : decode cL_law 248 = .ok (.iconst 5, 1) := by decide +kernel
theorem dL_law_249 : decode cL_law 249 = .ok (.iadd, 1) := by decide +kernel
theorem dL_law_250 : decode cL_law 250 = .ok (.iaload, 1) := by decide +kernel
theorem dL_law_251 : decode cL_law 251 = .ok (.invokevirtual 19, 3) := by decide +kernel
theorem t529 : Cond.methodLink RL 19 yX10_feed ∈ GW := gw_mem 643 (by decide +kernel) (by decide +kernel)
theorem t530 : Cond.instanceMethod yX10_feed ∈ GW := gw_mem 644 (by decide +kernel) (by decide +kernel)
theorem t531 : Cond.selects RX10 yX10_feed yX10_feed ∈ GW := gw_mem 645 (by decide +kernel) (by decide +kernel)
theorem cw_L_19 {R : Room} {s : State} {args : Array Value} {rm : Room} {mc ms : Nat} (hts : ∀ w ∈ GW, w.before args s = true) (hrc : rm.cells = mc) (hrs : rm.slots = ms) (hR : rm.frames + 1 ≤ R.frames ∧ 8 + (6 + 11) + rm.locals ≤ R.locals) : CallW R s args RL RX10 19 yX10_feed cX10_feed 6 (some .int) (wl yX10_feed cX10_feed 6 (some .int)) rm mc ms 5 := cwV 5 hts (gi_V t529 t530 t531 t1 t532) rfl hrc hrs (by decide +kernel) hR
theorem dL_law_254 : decode cL_law 254 = .ok (.aload_n 2, 1) := by decide +kernel
theorem dL_law_255 : decode cL_law 255 = .ok (.aload_n 0, 1) := by decide +kernel
theorem dL_law_256 : decode cL_law 256 = .ok (.iload 4, 2) := by decide +kernel
theorem dL_law_258 : decode cL_law 258 = .ok (.iconst 1, 1) := by decide +kernel
theorem dL_law_259 : decode cL_law 259 = .ok (.iadd, 1) := by decide +kernel
theorem dL_law_260 : decode cL_law 260 = .ok (.iaload, 1) := by decide +kernel
theorem dL_law_261 : decode cL_law 261 = .ok (.aload_n 0, 1) := by decide +kernel
theorem dL_law_262 : decode cL_law 262 = .ok (.iload 4, 2) := by decide +kernel
theorem dL_law_264 : decode cL_law 264 = .ok (.iconst 2, 1) := by decide +kernel
theorem dL_law_265 : decode cL_law 265 = .ok (.iadd, 1) := by decide +kernel
theorem dL_law_266 : decode cL_law 266 = .ok (.iaload, 1) := by decide +kernel
theorem dL_law_267 : decode cL_law 267 = .ok (.aload_n 0, 1) := by decide +kernel
theorem dL_law_268 : decode cL_law 268 = .ok (.iload 4, 2) := by decide +kernel
theorem dL_law_270 : decode cL_law 270 = .ok (.iconst 3, 1) := by decide +kernel
theorem dL_law_271 : decode cL_law 271 = .ok (.iadd, 1) := by decide +kernel
theorem dL_law_272 : decode cL_law 272 = .ok (.iaload, 1) := by decide +kernel
theorem dL_law_273 : decode cL_law 273 = .ok (.aload_n 0, 1) := by decide +kernel
theorem dL_law_274 : decode cL_law 274 = .ok (.iload 4, 2) := by decide +kernel
theorem dL_law_276 : decode cL_law 276 = .ok (.iconst 4, 1) := by decide +kernel
theorem dL_law_277 : decode cL_law 277 = .ok (.iadd, 1) := by decide +kernel
theorem dL_law_278 : decode cL_law 278 = .ok (.iaload, 1) := by decide +kernel
theorem dL_law_279 : decode cL_law 279 = .ok (.aload_n 0, 1) := by decide +kernel
theorem dL_law_280 : decode cL_law 280 = .ok (.iload 4, 2) := by decide +kernel
theorem dL_law_282 : decode cL_law 282 = .ok (.iconst 5, 1) := by decide +kernel
theorem dL_law_283 : decode cL_law 283 = .ok (.iadd, 1) := by decide +kernel
theorem dL_law_284 : decode cL_law 284 = .ok (.iaload, 1) := by decide +kernel
theorem dL_law_285 : decode cL_law 285 = .ok (.invokevirtual 23, 3) := by decide +kernel
theorem t1424 : Cond.methodLink RL 23 yX11_feed ∈ GW := gw_mem 1538 (by decide +kernel) (by decide +kernel)
theorem t1425 : Cond.instanceMethod yX11_feed ∈ GW := gw_mem 1539 (by decide +kernel) (by decide +kernel)
theorem t1426 : Cond.selects RX11 yX11_feed yX11_feed ∈ GW := gw_mem 1540 (by decide +kernel) (by decide +kernel)
theorem cw_L_23 {R : Room} {s : State} {args : Array Value} {rm : Room} {mc ms : Nat} (hts : ∀ w ∈ GW, w.before args s = true) (hrc : rm.cells = mc) (hrs : rm.slots = ms) (hR : rm.frames + 1 ≤ R.frames ∧ 8 + (6 + 11) + rm.locals ≤ R.locals) : CallW R s args RL RX11 23 yX11_feed cX11_feed 6 (some .int) (wl yX11_feed cX11_feed 6 (some .int)) rm mc ms 5 := cwV 5 hts (gi_V t1424 t1425 t1426 t18 t1427) rfl hrc hrs (by decide +kernel) hR
theorem dL_law_288 : decode cL_law 288 = .ok (.if_icmp .eq 1169, 3) := by decide +kernel
set_option maxHeartbeats 4000000 in
set_option maxRecDepth 100000 in
theorem lc_0 {p : Program} {l : Launch} {e : Env} {s : State} {m : MethodId} {below : List Frame} {meth : Method} {c : Code} {b : Nat} {xs : Nat → Int32} (hl0 : l.stackTraces = false) (C0 : lw_At p s m meth c b 6 xs) (dC : Nat → ClassId) (dI : Nat → Nat → Nat) (cy : Nat → ClassId) (ad : Nat → Nat) (ai : Nat → Nat → Int32) (al : Nat → Nat → Int64) (aq : Nat → Nat → Option Nat) (am : Nat → Nat) (mi : Nat → Nat → Int32) (ml : Nat → Nat → Int64) (qo : Nat) (hX : OkX ad ai aq) (hM : OkM mi) (hEX : EnvX (FA s) s) (hK : va_K (dC, dI) vwCl (TY cy) s) {H : Heap} {locs : List Loc} (hP : va_P (dC, dI) vwCl (FX cy ad ai al aq ++ FM cy am mi ml) H) (hD : va_D (FA s) (FX cy ad ai al aq ++ FM cy am mi ml)) (hS : va_S (FA s) s.heap H locs) {ls : Array Slot} (hl : lv_has ls 7 [(4, .int 0), (3, .ref qo), (2, .ref (am 0)), (1, .ref (ad 0)), (0, .ref b)]) : W p l e room_1 s m #[Value.ref b] below meth c H locs 237 23836 (lw_Z below #[Value.ref b] s) (F0 m 220 ls []) := by
  obtain ⟨hx, hb, hr, hml, hown, htsL, hXs, hbl, hlocks, hgv⟩ := id C0
  have hown : s.vm.findClass RL = some m.cls := hown
  have hts : ∀ w ∈ GW, w.before #[Value.ref b] s = true := fun w hw => htsL w (List.mem_filter.mp hw).1
  have hA : ∀ q : Nat, s.heap.size ≤ q → FA s q := fun _ h => h
  have hbA : ¬ FA s b := Nat.not_le.mpr hbl
  refine lv_aload_n hx hb dL_law_220 rfl (lv_at hl 3 rfl) ?_
  refine lv_aload_n hx hb dL_law_221 rfl (lv_at hl 4 rfl) ?_
  refine lv_iload hx hb dL_law_222 (lv_at hl 0 rfl) ?_
  refine lv_iconst (v := 1) hx hb dL_law_224 (by decide) ?_
  refine lv_iadd hx hb dL_law_225 ?_
  refine as_i 1 (by decide) ?_
  refine va_sld hx hb hXs hbl hbA hS (show vp_in 1 6 from vp_in_nI (n := 1) (by decide) (by decide)) dL_law_226 ?_
  refine as_i (xs 1) rfl ?_
  refine lv_aload_n hx hb dL_law_227 rfl (lv_at hl 4 rfl) ?_
  refine lv_iload hx hb dL_law_228 (lv_at hl 0 rfl) ?_
  refine lv_iconst (v := 2) hx hb dL_law_230 (by decide) ?_
  refine lv_iadd hx hb dL_law_231 ?_
  refine as_i 2 (by decide) ?_
  refine va_sld hx hb hXs hbl hbA hS (show vp_in 2 6 from vp_in_nI (n := 2) (by decide) (by decide)) dL_law_232 ?_
  refine as_i (xs 2) rfl ?_
  refine lv_aload_n hx hb dL_law_233 rfl (lv_at hl 4 rfl) ?_
  refine lv_iload hx hb dL_law_234 (lv_at hl 0 rfl) ?_
  refine lv_iconst (v := 3) hx hb dL_law_236 (by decide) ?_
  refine lv_iadd hx hb dL_law_237 ?_
  refine as_i 3 (by decide) ?_
  refine va_sld hx hb hXs hbl hbA hS (show vp_in 3 6 from vp_in_nI (n := 3) (by decide) (by decide)) dL_law_238 ?_
  refine as_i (xs 3) rfl ?_
  refine lv_aload_n hx hb dL_law_239 rfl (lv_at hl 4 rfl) ?_
  refine lv_iload hx hb dL_law_240 (lv_at hl 0 rfl) ?_
  refine lv_iconst (v := 4) hx hb dL_law_242 (by decide) ?_
  refine lv_iadd hx hb dL_law_243 ?_
  refine as_i 4 (by decide) ?_
  refine va_sld hx hb hXs hbl hbA hS (show vp_in 4 6 from vp_in_nI (n := 4) (by decide) (by decide)) dL_law_244 ?_
  refine as_i (xs 4) rfl ?_
  refine lv_aload_n hx hb dL_law_245 rfl (lv_at hl 4 rfl) ?_
  refine lv_iload hx hb dL_law_246 (lv_at hl 0 rfl) ?_
  refine lv_iconst (v := 5) hx hb dL_law_248 (by decide) ?_
  refine lv_iadd hx hb dL_law_249 ?_
  refine as_i 5 (by decide) ?_
  refine va_sld hx hb hXs hbl hbA hS (show vp_in 5 6 from vp_in_nI (n := 5) (by decide) (by decide)) dL_law_250 ?_
  refine as_i (xs 5) rfl ?_
  refine jn_i (wr := [(am 0, .inr (12, [.int 0, .ref (am 1), .int 0, .int 0, .int 0, .int 0, .int 0, .int 0, .int 0, .int 0, .int 0, .int 0, .long 0, .int 0, .ref (am 2), .ref (am 3), .ref (am 4), .ref (am 5), .ref (am 6), .ref (am 7), .ref (am 8), .ref (am 9), .ref (am 10), .ref (am 11), .int 0, .int (-1), .ref (am 12), .ref (am 13), .ref (am 14), .int 0, .ref (am 15), .ref (am 16), .int 0, .int 0, .int 0, .ref (am 17), .int 0, .int 0, .ref (am 18), .ref (am 19), .int 0, .int 0, .ref (am 20), .int 0, .int 0, .int 0, .int 0])), (am 1, .inl (cy 0, 940, .inl (mi 1))), (am 2, .inl (cy 0, 575, .inl (mi 2))), (am 3, .inl (cy 0, 157, .inl (mi 3))), (am 4, .inl (cy 0, 1150, .inl (mi 4))), (am 5, .inl (cy 0, 1408, .inl (mi 5))), (am 6, .inl (cy 0, 176, .inl (mi 6))), (am 7, .inl (cy 1, 17, .inr (.inl (ml 7)))), (am 8, .inl (cy 1, 17, .inr (.inl (ml 8)))), (am 9, .inl (cy 1, 34, .inr (.inl (ml 9)))), (am 10, .inl (cy 2, 2, .inl (mi 10))), (am 11, .inl (cy 2, 2, .inl (mi 11))), (am 12, .inl (cy 1, 5632, .inr (.inl (ml 12)))), (am 13, .inl (cy 0, 5632, .inl (mi 13))), (am 14, .inl (cy 0, 10, .inl (mi 14))), (am 15, .inl (cy 0, 10, .inl (mi 15))), (am 16, .inl (cy 0, 10, .inl (mi 16))), (am 17, .inl (cy 0, 64, .inl (mi 17))), (am 18, .inl (cy 0, 160, .inl (mi 18))), (am 19, .inl (cy 0, 4, .inl (mi 19))), (am 20, .inl (cy 0, 240, .inl (mi 20)))]) (rV (As := [.int (xs 1), .int (xs 2), .int (xs 3), .int (xs 4), .int (xs 5)]) (rest := []) (ci := 11) ⟨hx, hb, hml, hown, hts⟩ (k_feed l dC dI cy _ ad ai (xs 1) (xs 2) (xs 3) (xs 4) (xs 5) ) (cw_L_19 hts rfl rfl ⟨Nat.le_of_ble_eq_true rfl, Nat.le_of_ble_eq_true rfl⟩) hP hD hK [0, 1, 2] rfl rfl rfl rfl bl0 e0 rfl hl.1 rfl (Nat.le_of_ble_eq_true rfl) dL_law_251 ⟨Nat.le_of_ble_eq_true rfl, Nat.le_of_ble_eq_true rfl⟩) hP hD hS hA [0, 1, 2] [114, 115, 116, 117, 118, 119, 120, 121, 122, 123, 124, 125, 126, 127, 128, 129, 130, 131, 132, 133, 134] rfl rfl rfl (by decide) (fun r_1 u_3 H locs hp_2 hP hD hS => ?_)
  have hp_2 : r_1 = 20 := hp_2
  have hP : va_P (dC, dI) vwCl [(am 0, .inr (12, [.int 0, .ref (am 1), .int 0, .int 0, .int 0, .int 0, .int 0, .int 0, .int 0, .int 0, .int 0, .int 0, .long 0, .int 0, .ref (am 2), .ref (am 3), .ref (am 4), .ref (am 5), .ref (am 6), .ref (am 7), .ref (am 8), .ref (am 9), .ref (am 10), .ref (am 11), .int 0, .int (-1), .ref (am 12), .ref (am 13), .ref (am 14), .int 0, .ref (am 15), .ref (am 16), .int 0, .int 0, .int 0, .ref (am 17), .int 0, .int 0, .ref (am 18), .ref (am 19), .int 0, .int 0, .ref (am 20), .int 0, .int 0, .int 0, .int 0])), (am 1, .inl (cy 0, 940, .inl (mi 1))), (am 2, .inl (cy 0, 575, .inl (mi 2))), (am 3, .inl (cy 0, 157, .inl (mi 3))), (am 4, .inl (cy 0, 1150, .inl (mi 4))), (am 5, .inl (cy 0, 1408, .inl (mi 5))), (am 6, .inl (cy 0, 176, .inl (mi 6))), (am 7, .inl (cy 1, 17, .inr (.inl (ml 7)))), (am 8, .inl (cy 1, 17, .inr (.inl (ml 8)))), (am 9, .inl (cy 1, 34, .inr (.inl (ml 9)))), (am 10, .inl (cy 2, 2, .inl (mi 10))), (am 11, .inl (cy 2, 2, .inl (mi 11))), (am 12, .inl (cy 1, 5632, .inr (.inl (ml 12)))), (am 13, .inl (cy 0, 5632, .inl (mi 13))), (am 14, .inl (cy 0, 10, .inl (mi 14))), (am 15, .inl (cy 0, 10, .inl (mi 15))), (am 16, .inl (cy 0, 10, .inl (mi 16))), (am 17, .inl (cy 0, 64, .inl (mi 17))), (am 18, .inl (cy 0, 160, .inl (mi 18))), (am 19, .inl (cy 0, 4, .inl (mi 19))), (am 20, .inl (cy 0, 240, .inl (mi 20)))] H := hP
  have hD : va_D (FA s) [(am 0, .inr (12, [.int 0, .ref (am 1), .int 0, .int 0, .int 0, .int 0, .int 0, .int 0, .int 0, .int 0, .int 0, .int 0, .long 0, .int 0, .ref (am 2), .ref (am 3), .ref (am 4), .ref (am 5), .ref (am 6), .ref (am 7), .ref (am 8), .ref (am 9), .ref (am 10), .ref (am 11), .int 0, .int (-1), .ref (am 12), .ref (am 13), .ref (am 14), .int 0, .ref (am 15), .ref (am 16), .int 0, .int 0, .int 0, .ref (am 17), .int 0, .int 0, .ref (am 18), .ref (am 19), .int 0, .int 0, .ref (am 20), .int 0, .int 0, .int 0, .int 0])), (am 1, .inl (cy 0, 940, .inl (mi 1))), (am 2, .inl (cy 0, 575, .inl (mi 2))), (am 3, .inl (cy 0, 157, .inl (mi 3))), (am 4, .inl (cy 0, 1150, .inl (mi 4))), (am 5, .inl (cy 0, 1408, .inl (mi 5))), (am 6, .inl (cy 0, 176, .inl (mi 6))), (am 7, .inl (cy 1, 17, .inr (.inl (ml 7)))), (am 8, .inl (cy 1, 17, .inr (.inl (ml 8)))), (am 9, .inl (cy 1, 34, .inr (.inl (ml 9)))), (am 10, .inl (cy 2, 2, .inl (mi 10))), (am 11, .inl (cy 2, 2, .inl (mi 11))), (am 12, .inl (cy 1, 5632, .inr (.inl (ml 12)))), (am 13, .inl (cy 0, 5632, .inl (mi 13))), (am 14, .inl (cy 0, 10, .inl (mi 14))), (am 15, .inl (cy 0, 10, .inl (mi 15))), (am 16, .inl (cy 0, 10, .inl (mi 16))), (am 17, .inl (cy 0, 64, .inl (mi 17))), (am 18, .inl (cy 0, 160, .inl (mi 18))), (am 19, .inl (cy 0, 4, .inl (mi 19))), (am 20, .inl (cy 0, 240, .inl (mi 20)))] := hD
  refine as_i 20 hp_2 ?_
  refine lv_aload_n hx hb dL_law_254 rfl (lv_at hl 2 rfl) ?_
  refine lv_aload_n hx hb dL_law_255 rfl (lv_at hl 4 rfl) ?_
  refine lv_iload hx hb dL_law_256 (lv_at hl 0 rfl) ?_
  refine lv_iconst (v := 1) hx hb dL_law_258 (by decide) ?_
  refine lv_iadd hx hb dL_law_259 ?_
  refine as_i 1 (by decide) ?_
  refine va_sld hx hb hXs hbl hbA hS (show vp_in 1 6 from vp_in_nI (n := 1) (by decide) (by decide)) dL_law_260 ?_
  refine as_i (xs 1) rfl ?_
  refine lv_aload_n hx hb dL_law_261 rfl (lv_at hl 4 rfl) ?_
  refine lv_iload hx hb dL_law_262 (lv_at hl 0 rfl) ?_
  refine lv_iconst (v := 2) hx hb dL_law_264 (by decide) ?_
  refine lv_iadd hx hb dL_law_265 ?_
  refine as_i 2 (by decide) ?_
  refine va_sld hx hb hXs hbl hbA hS (show vp_in 2 6 from vp_in_nI (n := 2) (by decide) (by decide)) dL_law_266 ?_
  refine as_i (xs 2) rfl ?_
  refine lv_aload_n hx hb dL_law_267 rfl (lv_at hl 4 rfl) ?_
  refine lv_iload hx hb dL_law_268 (lv_at hl 0 rfl) ?_
  refine lv_iconst (v := 3) hx hb dL_law_270 (by decide) ?_
  refine lv_iadd hx hb dL_law_271 ?_
  refine as_i 3 (by decide) ?_
  refine va_sld hx hb hXs hbl hbA hS (show vp_in 3 6 from vp_in_nI (n := 3) (by decide) (by decide)) dL_law_272 ?_
  refine as_i (xs 3) rfl ?_
  refine lv_aload_n hx hb dL_law_273 rfl (lv_at hl 4 rfl) ?_
  refine lv_iload hx hb dL_law_274 (lv_at hl 0 rfl) ?_
  refine lv_iconst (v := 4) hx hb dL_law_276 (by decide) ?_
  refine lv_iadd hx hb dL_law_277 ?_
  refine as_i 4 (by decide) ?_
  refine va_sld hx hb hXs hbl hbA hS (show vp_in 4 6 from vp_in_nI (n := 4) (by decide) (by decide)) dL_law_278 ?_
  refine as_i (xs 4) rfl ?_
  refine lv_aload_n hx hb dL_law_279 rfl (lv_at hl 4 rfl) ?_
  refine lv_iload hx hb dL_law_280 (lv_at hl 0 rfl) ?_
  refine lv_iconst (v := 5) hx hb dL_law_282 (by decide) ?_
  refine lv_iadd hx hb dL_law_283 ?_
  refine as_i 5 (by decide) ?_
  refine va_sld hx hb hXs hbl hbA hS (show vp_in 5 6 from vp_in_nI (n := 5) (by decide) (by decide)) dL_law_284 ?_
  refine as_i (xs 5) rfl ?_
  refine jn_i (wr := []) (rV (As := [.int (xs 1), .int (xs 2), .int (xs 3), .int (xs 4), .int (xs 5)]) (rest := [.int 20]) (ci := 12) ⟨hx, hb, hml, hown, hts⟩ (m_feed l dC dI cy _ am mi (xs 1) (xs 2) (xs 3) (xs 4) (xs 5) ) (cw_L_23 hts rfl rfl ⟨Nat.le_of_ble_eq_true rfl, Nat.le_of_ble_eq_true rfl⟩) hP hD hK [0, 1] rfl rfl rfl rfl bl0 e0 rfl hl.1 rfl (Nat.le_of_ble_eq_true rfl) dL_law_285 ⟨Nat.le_of_ble_eq_true rfl, Nat.le_of_ble_eq_true rfl⟩) hP hD hS hA [0, 1] [] rfl rfl rfl (by decide) (fun r_4 u_6 H locs hp_5 hP hD hS => ?_)
  have hp_5 : r_4 = 20 := hp_5
  have hP : va_P (dC, dI) vwCl [] H := hP
  have hD : va_D (FA s) [] := hD
  refine as_i 20 hp_5 ?_
  refine lv_icmp_eq (tgt := 1457) hx hb dL_law_288 (by decide) (fun _ => ?_) (fun c9 => absurd (by decide) c9)
  exact law_end C0 hS (lv_sub hl [0, 4] rfl) (by decide) (by decide)
theorem dL_law_293 : decode cL_law 293 = .ok (.aload_n 1, 1) := by decide +kernel
theorem dL_law_294 : decode cL_law 294 = .ok (.aload_n 0, 1) := by decide +kernel
theorem dL_law_295 : decode cL_law 295 = .ok (.iload 4, 2) := by decide +kernel
theorem dL_law_297 : decode cL_law 297 = .ok (.iconst 1, 1) := by decide +kernel
theorem dL_law_298 : decode cL_law 298 = .ok (.iadd, 1) := by decide +kernel
theorem dL_law_299 : decode cL_law 299 = .ok (.iaload, 1) := by decide +kernel
theorem dL_law_300 : decode cL_law 300 = .ok (.invokevirtual 24, 3) := by decide +kernel
theorem t537 : Cond.methodLink RL 24 yX10_end ∈ GW := gw_mem 651 (by decide +kernel) (by decide +kernel)
theorem t538 : Cond.instanceMethod yX10_end ∈ GW := gw_mem 652 (by decide +kernel) (by decide +kernel)
theorem t539 : Cond.selects RX10 yX10_end yX10_end ∈ GW := gw_mem 653 (by decide +kernel) (by decide +kernel)
theorem cw_L_24 {R : Room} {s : State} {args : Array Value} {rm : Room} {mc ms : Nat} (hts : ∀ w ∈ GW, w.before args s = true) (hrc : rm.cells = mc) (hrs : rm.slots = ms) (hR : rm.frames + 1 ≤ R.frames ∧ 8 + (2 + 11) + rm.locals ≤ R.locals) : CallW R s args RL RX10 24 yX10_end cX10_end 2 (some .boolean) (wl yX10_end cX10_end 2 (some .boolean)) rm mc ms 1 := cwV 1 hts (gi_V t537 t538 t539 t1 t540) rfl hrc hrs (by decide +kernel) hR
theorem dL_law_303 : decode cL_law 303 = .ok (.aload_n 2, 1) := by decide +kernel
theorem dL_law_304 : decode cL_law 304 = .ok (.aload_n 0, 1) := by decide +kernel
theorem dL_law_305 : decode cL_law 305 = .ok (.iload 4, 2) := by decide +kernel
theorem dL_law_307 : decode cL_law 307 = .ok (.iconst 1, 1) := by decide +kernel
theorem dL_law_308 : decode cL_law 308 = .ok (.iadd, 1) := by decide +kernel
theorem dL_law_309 : decode cL_law 309 = .ok (.iaload, 1) := by decide +kernel
theorem dL_law_310 : decode cL_law 310 = .ok (.invokevirtual 28, 3) := by decide +kernel
theorem t1433 : Cond.methodLink RL 28 yX11_end ∈ GW := gw_mem 1547 (by decide +kernel) (by decide +kernel)
theorem t1434 : Cond.instanceMethod yX11_end ∈ GW := gw_mem 1548 (by decide +kernel) (by decide +kernel)
theorem t1435 : Cond.selects RX11 yX11_end yX11_end ∈ GW := gw_mem 1549 (by decide +kernel) (by decide +kernel)
theorem cw_L_28 {R : Room} {s : State} {args : Array Value} {rm : Room} {mc ms : Nat} (hts : ∀ w ∈ GW, w.before args s = true) (hrc : rm.cells = mc) (hrs : rm.slots = ms) (hR : rm.frames + 1 ≤ R.frames ∧ 8 + (2 + 11) + rm.locals ≤ R.locals) : CallW R s args RL RX11 28 yX11_end cX11_end 2 (some .boolean) (wl yX11_end cX11_end 2 (some .boolean)) rm mc ms 1 := cwV 1 hts (gi_V t1433 t1434 t1435 t18 t1436) rfl hrc hrs (by decide +kernel) hR
theorem dL_law_313 : decode cL_law 313 = .ok (.if_icmp .eq 1144, 3) := by decide +kernel
set_option maxHeartbeats 4000000 in
set_option maxRecDepth 100000 in
theorem lc_1 {p : Program} {l : Launch} {e : Env} {s : State} {m : MethodId} {below : List Frame} {meth : Method} {c : Code} {b : Nat} {xs : Nat → Int32} (hl0 : l.stackTraces = false) (C0 : lw_At p s m meth c b 6 xs) (dC : Nat → ClassId) (dI : Nat → Nat → Nat) (cy : Nat → ClassId) (ad : Nat → Nat) (ai : Nat → Nat → Int32) (al : Nat → Nat → Int64) (aq : Nat → Nat → Option Nat) (am : Nat → Nat) (mi : Nat → Nat → Int32) (ml : Nat → Nat → Int64) (qo : Nat) (hX : OkX ad ai aq) (hM : OkM mi) (hEX : EnvX (FA s) s) (hK : va_K (dC, dI) vwCl (TY cy) s) {H : Heap} {locs : List Loc} (hP : va_P (dC, dI) vwCl (FX cy ad ai al aq ++ FM cy am mi ml) H) (hD : va_D (FA s) (FX cy ad ai al aq ++ FM cy am mi ml)) (hS : va_S (FA s) s.heap H locs) {ls : Array Slot} (hl : lv_has ls 7 [(4, .int 0), (3, .ref qo), (2, .ref (am 0)), (1, .ref (ad 0)), (0, .ref b)]) : W p l e room_1 s m #[Value.ref b] below meth c H locs 237 23836 (lw_Z below #[Value.ref b] s) (F0 m 293 ls []) := by
  obtain ⟨hx, hb, hr, hml, hown, htsL, hXs, hbl, hlocks, hgv⟩ := id C0
  have hown : s.vm.findClass RL = some m.cls := hown
  have hts : ∀ w ∈ GW, w.before #[Value.ref b] s = true := fun w hw => htsL w (List.mem_filter.mp hw).1
  have hA : ∀ q : Nat, s.heap.size ≤ q → FA s q := fun _ h => h
  have hbA : ¬ FA s b := Nat.not_le.mpr hbl
  refine lv_aload_n hx hb dL_law_293 rfl (lv_at hl 3 rfl) ?_
  refine lv_aload_n hx hb dL_law_294 rfl (lv_at hl 4 rfl) ?_
  refine lv_iload hx hb dL_law_295 (lv_at hl 0 rfl) ?_
  refine lv_iconst (v := 1) hx hb dL_law_297 (by decide) ?_
  refine lv_iadd hx hb dL_law_298 ?_
  refine as_i 1 (by decide) ?_
  refine va_sld hx hb hXs hbl hbA hS (show vp_in 1 6 from vp_in_nI (n := 1) (by decide) (by decide)) dL_law_299 ?_
  refine as_i (xs 1) rfl ?_
  refine jn_i (wr := [(am 0, .inr (12, [.int 0, .ref (am 1), .int 0, .int 0, .int 0, .int 0, .int 0, .int 0, .int 0, .int 0, .int 0, .int 0, .long 0, .int 0, .ref (am 2), .ref (am 3), .ref (am 4), .ref (am 5), .ref (am 6), .ref (am 7), .ref (am 8), .ref (am 9), .ref (am 10), .ref (am 11), .int 0, .int (-1), .ref (am 12), .ref (am 13), .ref (am 14), .int 0, .ref (am 15), .ref (am 16), .int 0, .int 0, .int 0, .ref (am 17), .int 0, .int 0, .ref (am 18), .ref (am 19), .int 0, .int 0, .ref (am 20), .int 0, .int 0, .int 0, .int 0])), (am 1, .inl (cy 0, 940, .inl (mi 1))), (am 2, .inl (cy 0, 575, .inl (mi 2))), (am 3, .inl (cy 0, 157, .inl (mi 3))), (am 4, .inl (cy 0, 1150, .inl (mi 4))), (am 5, .inl (cy 0, 1408, .inl (mi 5))), (am 6, .inl (cy 0, 176, .inl (mi 6))), (am 7, .inl (cy 1, 17, .inr (.inl (ml 7)))), (am 8, .inl (cy 1, 17, .inr (.inl (ml 8)))), (am 9, .inl (cy 1, 34, .inr (.inl (ml 9)))), (am 10, .inl (cy 2, 2, .inl (mi 10))), (am 11, .inl (cy 2, 2, .inl (mi 11))), (am 12, .inl (cy 1, 5632, .inr (.inl (ml 12)))), (am 13, .inl (cy 0, 5632, .inl (mi 13))), (am 14, .inl (cy 0, 10, .inl (mi 14))), (am 15, .inl (cy 0, 10, .inl (mi 15))), (am 16, .inl (cy 0, 10, .inl (mi 16))), (am 17, .inl (cy 0, 64, .inl (mi 17))), (am 18, .inl (cy 0, 160, .inl (mi 18))), (am 19, .inl (cy 0, 4, .inl (mi 19))), (am 20, .inl (cy 0, 240, .inl (mi 20)))]) (rV (As := [.int (xs 1)]) (rest := []) (ci := 11) ⟨hx, hb, hml, hown, hts⟩ (k_end l dC dI cy _ ad (xs 1) ) (cw_L_24 hts rfl rfl ⟨Nat.le_of_ble_eq_true rfl, Nat.le_of_ble_eq_true rfl⟩) hP hD hK [0, 1] rfl rfl rfl rfl bl0 e0 rfl hl.1 rfl (Nat.le_of_ble_eq_true rfl) dL_law_300 ⟨Nat.le_of_ble_eq_true rfl, Nat.le_of_ble_eq_true rfl⟩) hP hD hS hA [0, 1] [114, 115, 116, 117, 118, 119, 120, 121, 122, 123, 124, 125, 126, 127, 128, 129, 130, 131, 132, 133, 134] rfl rfl rfl (by decide) (fun r_1 u_3 H locs hp_2 hP hD hS => ?_)
  have hp_2 : r_1 = endF (xs 1) := hp_2
  have hP : va_P (dC, dI) vwCl [(am 0, .inr (12, [.int 0, .ref (am 1), .int 0, .int 0, .int 0, .int 0, .int 0, .int 0, .int 0, .int 0, .int 0, .int 0, .long 0, .int 0, .ref (am 2), .ref (am 3), .ref (am 4), .ref (am 5), .ref (am 6), .ref (am 7), .ref (am 8), .ref (am 9), .ref (am 10), .ref (am 11), .int 0, .int (-1), .ref (am 12), .ref (am 13), .ref (am 14), .int 0, .ref (am 15), .ref (am 16), .int 0, .int 0, .int 0, .ref (am 17), .int 0, .int 0, .ref (am 18), .ref (am 19), .int 0, .int 0, .ref (am 20), .int 0, .int 0, .int 0, .int 0])), (am 1, .inl (cy 0, 940, .inl (mi 1))), (am 2, .inl (cy 0, 575, .inl (mi 2))), (am 3, .inl (cy 0, 157, .inl (mi 3))), (am 4, .inl (cy 0, 1150, .inl (mi 4))), (am 5, .inl (cy 0, 1408, .inl (mi 5))), (am 6, .inl (cy 0, 176, .inl (mi 6))), (am 7, .inl (cy 1, 17, .inr (.inl (ml 7)))), (am 8, .inl (cy 1, 17, .inr (.inl (ml 8)))), (am 9, .inl (cy 1, 34, .inr (.inl (ml 9)))), (am 10, .inl (cy 2, 2, .inl (mi 10))), (am 11, .inl (cy 2, 2, .inl (mi 11))), (am 12, .inl (cy 1, 5632, .inr (.inl (ml 12)))), (am 13, .inl (cy 0, 5632, .inl (mi 13))), (am 14, .inl (cy 0, 10, .inl (mi 14))), (am 15, .inl (cy 0, 10, .inl (mi 15))), (am 16, .inl (cy 0, 10, .inl (mi 16))), (am 17, .inl (cy 0, 64, .inl (mi 17))), (am 18, .inl (cy 0, 160, .inl (mi 18))), (am 19, .inl (cy 0, 4, .inl (mi 19))), (am 20, .inl (cy 0, 240, .inl (mi 20)))] H := hP
  have hD : va_D (FA s) [(am 0, .inr (12, [.int 0, .ref (am 1), .int 0, .int 0, .int 0, .int 0, .int 0, .int 0, .int 0, .int 0, .int 0, .int 0, .long 0, .int 0, .ref (am 2), .ref (am 3), .ref (am 4), .ref (am 5), .ref (am 6), .ref (am 7), .ref (am 8), .ref (am 9), .ref (am 10), .ref (am 11), .int 0, .int (-1), .ref (am 12), .ref (am 13), .ref (am 14), .int 0, .ref (am 15), .ref (am 16), .int 0, .int 0, .int 0, .ref (am 17), .int 0, .int 0, .ref (am 18), .ref (am 19), .int 0, .int 0, .ref (am 20), .int 0, .int 0, .int 0, .int 0])), (am 1, .inl (cy 0, 940, .inl (mi 1))), (am 2, .inl (cy 0, 575, .inl (mi 2))), (am 3, .inl (cy 0, 157, .inl (mi 3))), (am 4, .inl (cy 0, 1150, .inl (mi 4))), (am 5, .inl (cy 0, 1408, .inl (mi 5))), (am 6, .inl (cy 0, 176, .inl (mi 6))), (am 7, .inl (cy 1, 17, .inr (.inl (ml 7)))), (am 8, .inl (cy 1, 17, .inr (.inl (ml 8)))), (am 9, .inl (cy 1, 34, .inr (.inl (ml 9)))), (am 10, .inl (cy 2, 2, .inl (mi 10))), (am 11, .inl (cy 2, 2, .inl (mi 11))), (am 12, .inl (cy 1, 5632, .inr (.inl (ml 12)))), (am 13, .inl (cy 0, 5632, .inl (mi 13))), (am 14, .inl (cy 0, 10, .inl (mi 14))), (am 15, .inl (cy 0, 10, .inl (mi 15))), (am 16, .inl (cy 0, 10, .inl (mi 16))), (am 17, .inl (cy 0, 64, .inl (mi 17))), (am 18, .inl (cy 0, 160, .inl (mi 18))), (am 19, .inl (cy 0, 4, .inl (mi 19))), (am 20, .inl (cy 0, 240, .inl (mi 20)))] := hD
  refine as_i (endF (xs 1)) hp_2 ?_
  refine lv_aload_n hx hb dL_law_303 rfl (lv_at hl 2 rfl) ?_
  refine lv_aload_n hx hb dL_law_304 rfl (lv_at hl 4 rfl) ?_
  refine lv_iload hx hb dL_law_305 (lv_at hl 0 rfl) ?_
  refine lv_iconst (v := 1) hx hb dL_law_307 (by decide) ?_
  refine lv_iadd hx hb dL_law_308 ?_
  refine as_i 1 (by decide) ?_
  refine va_sld hx hb hXs hbl hbA hS (show vp_in 1 6 from vp_in_nI (n := 1) (by decide) (by decide)) dL_law_309 ?_
  refine as_i (xs 1) rfl ?_
  refine jn_i (wr := []) (rV (As := [.int (xs 1)]) (rest := [.int (endF (xs 1))]) (ci := 12) ⟨hx, hb, hml, hown, hts⟩ (m_end l dC dI cy _ am (xs 1) ) (cw_L_28 hts rfl rfl ⟨Nat.le_of_ble_eq_true rfl, Nat.le_of_ble_eq_true rfl⟩) hP hD hK [0] rfl rfl rfl rfl bl0 e0 rfl hl.1 rfl (Nat.le_of_ble_eq_true rfl) dL_law_310 ⟨Nat.le_of_ble_eq_true rfl, Nat.le_of_ble_eq_true rfl⟩) hP hD hS hA [0] [] rfl rfl rfl (by decide) (fun r_4 u_6 H locs hp_5 hP hD hS => ?_)
  have hp_5 : r_4 = endF (xs 1) := hp_5
  have hP : va_P (dC, dI) vwCl [] H := hP
  have hD : va_D (FA s) [] := hD
  refine as_i (endF (xs 1)) hp_5 ?_
  refine lv_icmp_eq (tgt := 1457) hx hb dL_law_313 (by decide) (fun _ => ?_) (fun c9 => absurd rfl c9)
  exact law_end C0 hS (lv_sub hl [0, 4] rfl) (by decide) (by decide)
theorem dL_law_318 : decode cL_law 318 = .ok (.aload_n 1, 1) := by decide +kernel
theorem dL_law_319 : decode cL_law 319 = .ok (.invokevirtual 29, 3) := by decide +kernel
theorem t541 : Cond.methodLink RL 29 yX10_colony ∈ GW := gw_mem 655 (by decide +kernel) (by decide +kernel)
theorem t542 : Cond.instanceMethod yX10_colony ∈ GW := gw_mem 656 (by decide +kernel) (by decide +kernel)
theorem t543 : Cond.selects RX10 yX10_colony yX10_colony ∈ GW := gw_mem 657 (by decide +kernel) (by decide +kernel)
theorem cw_L_29 {R : Room} {s : State} {args : Array Value} {rm : Room} {mc ms : Nat} (hts : ∀ w ∈ GW, w.before args s = true) (hrc : rm.cells = mc) (hrs : rm.slots = ms) (hR : rm.frames + 1 ≤ R.frames ∧ 8 + (3 + 11) + rm.locals ≤ R.locals) : CallW R s args RL RX10 29 yX10_colony cX10_colony 3 (some .int) (wl yX10_colony cX10_colony 3 (some .int)) rm mc ms 0 := cwV 0 hts (gi_V t541 t542 t543 t1 t544) rfl hrc hrs (by decide +kernel) hR
theorem dL_law_322 : decode cL_law 322 = .ok (.aload_n 2, 1) := by decide +kernel
theorem dL_law_323 : decode cL_law 323 = .ok (.invokevirtual 33, 3) := by decide +kernel
theorem t1588 : Cond.methodLink RL 33 yX11_colony ∈ GW := gw_mem 1702 (by decide +kernel) (by decide +kernel)
theorem t1589 : Cond.instanceMethod yX11_colony ∈ GW := gw_mem 1703 (by decide +kernel) (by decide +kernel)
theorem t1590 : Cond.selects RX11 yX11_colony yX11_colony ∈ GW := gw_mem 1704 (by decide +kernel) (by decide +kernel)
theorem cw_L_33 {R : Room} {s : State} {args : Array Value} {rm : Room} {mc ms : Nat} (hts : ∀ w ∈ GW, w.before args s = true) (hrc : rm.cells = mc) (hrs : rm.slots = ms) (hR : rm.frames + 1 ≤ R.frames ∧ 8 + (3 + 11) + rm.locals ≤ R.locals) : CallW R s args RL RX11 33 yX11_colony cX11_colony 3 (some .int) (wl yX11_colony cX11_colony 3 (some .int)) rm mc ms 0 := cwV 0 hts (gi_V t1588 t1589 t1590 t18 t1591) rfl hrc hrs (by decide +kernel) hR
theorem dL_law_326 : decode cL_law 326 = .ok (.if_icmp .eq 1131, 3) := by decide +kernel
set_option maxHeartbeats 4000000 in
set_option maxRecDepth 100000 in
theorem lc_2 {p : Program} {l : Launch} {e : Env} {s : State} {m : MethodId} {below : List Frame} {meth : Method} {c : Code} {b : Nat} {xs : Nat → Int32} (hl0 : l.stackTraces = false) (C0 : lw_At p s m meth c b 6 xs) (dC : Nat → ClassId) (dI : Nat → Nat → Nat) (cy : Nat → ClassId) (ad : Nat → Nat) (ai : Nat → Nat → Int32) (al : Nat → Nat → Int64) (aq : Nat → Nat → Option Nat) (am : Nat → Nat) (mi : Nat → Nat → Int32) (ml : Nat → Nat → Int64) (qo : Nat) (hX : OkX ad ai aq) (hM : OkM mi) (hEX : EnvX (FA s) s) (hK : va_K (dC, dI) vwCl (TY cy) s) {H : Heap} {locs : List Loc} (hP : va_P (dC, dI) vwCl (FX cy ad ai al aq ++ FM cy am mi ml) H) (hD : va_D (FA s) (FX cy ad ai al aq ++ FM cy am mi ml)) (hS : va_S (FA s) s.heap H locs) {ls : Array Slot} (hl : lv_has ls 7 [(4, .int 0), (3, .ref qo), (2, .ref (am 0)), (1, .ref (ad 0)), (0, .ref b)]) : W p l e room_1 s m #[Value.ref b] below meth c H locs 237 23836 (lw_Z below #[Value.ref b] s) (F0 m 318 ls []) := by
  obtain ⟨hx, hb, hr, hml, hown, htsL, hXs, hbl, hlocks, hgv⟩ := id C0
  have hown : s.vm.findClass RL = some m.cls := hown
  have hts : ∀ w ∈ GW, w.before #[Value.ref b] s = true := fun w hw => htsL w (List.mem_filter.mp hw).1
  have hA : ∀ q : Nat, s.heap.size ≤ q → FA s q := fun _ h => h
  have hbA : ¬ FA s b := Nat.not_le.mpr hbl
  refine lv_aload_n hx hb dL_law_318 rfl (lv_at hl 3 rfl) ?_
  refine jn_i (wr := [(am 0, .inr (12, [.int 0, .ref (am 1), .int 0, .int 0, .int 0, .int 0, .int 0, .int 0, .int 0, .int 0, .int 0, .int 0, .long 0, .int 0, .ref (am 2), .ref (am 3), .ref (am 4), .ref (am 5), .ref (am 6), .ref (am 7), .ref (am 8), .ref (am 9), .ref (am 10), .ref (am 11), .int 0, .int (-1), .ref (am 12), .ref (am 13), .ref (am 14), .int 0, .ref (am 15), .ref (am 16), .int 0, .int 0, .int 0, .ref (am 17), .int 0, .int 0, .ref (am 18), .ref (am 19), .int 0, .int 0, .ref (am 20), .int 0, .int 0, .int 0, .int 0])), (am 1, .inl (cy 0, 940, .inl (mi 1))), (am 2, .inl (cy 0, 575, .inl (mi 2))), (am 3, .inl (cy 0, 157, .inl (mi 3))), (am 4, .inl (cy 0, 1150, .inl (mi 4))), (am 5, .inl (cy 0, 1408, .inl (mi 5))), (am 6, .inl (cy 0, 176, .inl (mi 6))), (am 7, .inl (cy 1, 17, .inr (.inl (ml 7)))), (am 8, .inl (cy 1, 17, .inr (.inl (ml 8)))), (am 9, .inl (cy 1, 34, .inr (.inl (ml 9)))), (am 10, .inl (cy 2, 2, .inl (mi 10))), (am 11, .inl (cy 2, 2, .inl (mi 11))), (am 12, .inl (cy 1, 5632, .inr (.inl (ml 12)))), (am 13, .inl (cy 0, 5632, .inl (mi 13))), (am 14, .inl (cy 0, 10, .inl (mi 14))), (am 15, .inl (cy 0, 10, .inl (mi 15))), (am 16, .inl (cy 0, 10, .inl (mi 16))), (am 17, .inl (cy 0, 64, .inl (mi 17))), (am 18, .inl (cy 0, 160, .inl (mi 18))), (am 19, .inl (cy 0, 4, .inl (mi 19))), (am 20, .inl (cy 0, 240, .inl (mi 20)))]) (rV (As := []) (rest := []) (ci := 11) ⟨hx, hb, hml, hown, hts⟩ (k_colony l dC dI cy _ ad ai ) (cw_L_29 hts rfl rfl ⟨Nat.le_of_ble_eq_true rfl, Nat.le_of_ble_eq_true rfl⟩) hP hD hK [0, 1, 4, 6, 22, 45, 46, 51, 52, 53, 54, 55, 56, 57, 58, 63] rfl rfl rfl rfl bl0 e0 rfl hl.1 rfl (Nat.le_of_ble_eq_true rfl) dL_law_319 ⟨Nat.le_of_ble_eq_true rfl, Nat.le_of_ble_eq_true rfl⟩) hP hD hS hA [0, 1, 4, 6, 22, 45, 46, 51, 52, 53, 54, 55, 56, 57, 58, 63] [114, 115, 116, 117, 118, 119, 120, 121, 122, 123, 124, 125, 126, 127, 128, 129, 130, 131, 132, 133, 134] rfl rfl rfl (by decide) (fun r_1 u_3 H locs hp_2 hP hD hS => ?_)
  have hp_2 : r_1 = 0 := hp_2
  have hP : va_P (dC, dI) vwCl [(am 0, .inr (12, [.int 0, .ref (am 1), .int 0, .int 0, .int 0, .int 0, .int 0, .int 0, .int 0, .int 0, .int 0, .int 0, .long 0, .int 0, .ref (am 2), .ref (am 3), .ref (am 4), .ref (am 5), .ref (am 6), .ref (am 7), .ref (am 8), .ref (am 9), .ref (am 10), .ref (am 11), .int 0, .int (-1), .ref (am 12), .ref (am 13), .ref (am 14), .int 0, .ref (am 15), .ref (am 16), .int 0, .int 0, .int 0, .ref (am 17), .int 0, .int 0, .ref (am 18), .ref (am 19), .int 0, .int 0, .ref (am 20), .int 0, .int 0, .int 0, .int 0])), (am 1, .inl (cy 0, 940, .inl (mi 1))), (am 2, .inl (cy 0, 575, .inl (mi 2))), (am 3, .inl (cy 0, 157, .inl (mi 3))), (am 4, .inl (cy 0, 1150, .inl (mi 4))), (am 5, .inl (cy 0, 1408, .inl (mi 5))), (am 6, .inl (cy 0, 176, .inl (mi 6))), (am 7, .inl (cy 1, 17, .inr (.inl (ml 7)))), (am 8, .inl (cy 1, 17, .inr (.inl (ml 8)))), (am 9, .inl (cy 1, 34, .inr (.inl (ml 9)))), (am 10, .inl (cy 2, 2, .inl (mi 10))), (am 11, .inl (cy 2, 2, .inl (mi 11))), (am 12, .inl (cy 1, 5632, .inr (.inl (ml 12)))), (am 13, .inl (cy 0, 5632, .inl (mi 13))), (am 14, .inl (cy 0, 10, .inl (mi 14))), (am 15, .inl (cy 0, 10, .inl (mi 15))), (am 16, .inl (cy 0, 10, .inl (mi 16))), (am 17, .inl (cy 0, 64, .inl (mi 17))), (am 18, .inl (cy 0, 160, .inl (mi 18))), (am 19, .inl (cy 0, 4, .inl (mi 19))), (am 20, .inl (cy 0, 240, .inl (mi 20)))] H := hP
  have hD : va_D (FA s) [(am 0, .inr (12, [.int 0, .ref (am 1), .int 0, .int 0, .int 0, .int 0, .int 0, .int 0, .int 0, .int 0, .int 0, .int 0, .long 0, .int 0, .ref (am 2), .ref (am 3), .ref (am 4), .ref (am 5), .ref (am 6), .ref (am 7), .ref (am 8), .ref (am 9), .ref (am 10), .ref (am 11), .int 0, .int (-1), .ref (am 12), .ref (am 13), .ref (am 14), .int 0, .ref (am 15), .ref (am 16), .int 0, .int 0, .int 0, .ref (am 17), .int 0, .int 0, .ref (am 18), .ref (am 19), .int 0, .int 0, .ref (am 20), .int 0, .int 0, .int 0, .int 0])), (am 1, .inl (cy 0, 940, .inl (mi 1))), (am 2, .inl (cy 0, 575, .inl (mi 2))), (am 3, .inl (cy 0, 157, .inl (mi 3))), (am 4, .inl (cy 0, 1150, .inl (mi 4))), (am 5, .inl (cy 0, 1408, .inl (mi 5))), (am 6, .inl (cy 0, 176, .inl (mi 6))), (am 7, .inl (cy 1, 17, .inr (.inl (ml 7)))), (am 8, .inl (cy 1, 17, .inr (.inl (ml 8)))), (am 9, .inl (cy 1, 34, .inr (.inl (ml 9)))), (am 10, .inl (cy 2, 2, .inl (mi 10))), (am 11, .inl (cy 2, 2, .inl (mi 11))), (am 12, .inl (cy 1, 5632, .inr (.inl (ml 12)))), (am 13, .inl (cy 0, 5632, .inl (mi 13))), (am 14, .inl (cy 0, 10, .inl (mi 14))), (am 15, .inl (cy 0, 10, .inl (mi 15))), (am 16, .inl (cy 0, 10, .inl (mi 16))), (am 17, .inl (cy 0, 64, .inl (mi 17))), (am 18, .inl (cy 0, 160, .inl (mi 18))), (am 19, .inl (cy 0, 4, .inl (mi 19))), (am 20, .inl (cy 0, 240, .inl (mi 20)))] := hD
  refine as_i 0 hp_2 ?_
  refine lv_aload_n hx hb dL_law_322 rfl (lv_at hl 2 rfl) ?_
  refine jn_i (wr := []) (rV (As := []) (rest := [.int 0]) (ci := 12) ⟨hx, hb, hml, hown, hts⟩ (m_colony l dC dI cy _ am mi ml ) (cw_L_33 hts rfl rfl ⟨Nat.le_of_ble_eq_true rfl, Nat.le_of_ble_eq_true rfl⟩) hP hD hK [0, 2, 3, 7, 8, 11] rfl rfl rfl rfl bl0 e0 rfl hl.1 rfl (Nat.le_of_ble_eq_true rfl) dL_law_323 ⟨Nat.le_of_ble_eq_true rfl, Nat.le_of_ble_eq_true rfl⟩) hP hD hS hA [0, 2, 3, 7, 8, 11] [] rfl rfl rfl (by decide) (fun r_4 u_6 H locs hp_5 hP hD hS => ?_)
  have hp_5 : r_4 = 0 := hp_5
  have hP : va_P (dC, dI) vwCl [] H := hP
  have hD : va_D (FA s) [] := hD
  refine as_i 0 hp_5 ?_
  refine lv_icmp_eq (tgt := 1457) hx hb dL_law_326 (by decide) (fun _ => ?_) (fun c9 => absurd (by decide) c9)
  exact law_end C0 hS (lv_sub hl [0, 4] rfl) (by decide) (by decide)
theorem dL_law_331 : decode cL_law 331 = .ok (.aload_n 1, 1) := by decide +kernel
theorem dL_law_332 : decode cL_law 332 = .ok (.invokevirtual 34, 3) := by decide +kernel
theorem t665 : Cond.methodLink RL 34 yX10_fault ∈ GW := gw_mem 779 (by decide +kernel) (by decide +kernel)
theorem t666 : Cond.instanceMethod yX10_fault ∈ GW := gw_mem 780 (by decide +kernel) (by decide +kernel)
theorem t667 : Cond.selects RX10 yX10_fault yX10_fault ∈ GW := gw_mem 781 (by decide +kernel) (by decide +kernel)
theorem cw_L_34 {R : Room} {s : State} {args : Array Value} {rm : Room} {mc ms : Nat} (hts : ∀ w ∈ GW, w.before args s = true) (hrc : rm.cells = mc) (hrs : rm.slots = ms) (hR : rm.frames + 1 ≤ R.frames ∧ 8 + (1 + 11) + rm.locals ≤ R.locals) : CallW R s args RL RX10 34 yX10_fault cX10_fault 1 (some .int) (wl yX10_fault cX10_fault 1 (some .int)) rm mc ms 0 := cwV 0 hts (gi_V t665 t666 t667 t1 t668) rfl hrc hrs (by decide +kernel) hR
theorem dL_law_335 : decode cL_law 335 = .ok (.aload_n 2, 1) := by decide +kernel
theorem dL_law_336 : decode cL_law 336 = .ok (.invokevirtual 37, 3) := by decide +kernel
theorem t1703 : Cond.methodLink RL 37 yX11_fault ∈ GW := gw_mem 1817 (by decide +kernel) (by decide +kernel)
theorem t1704 : Cond.instanceMethod yX11_fault ∈ GW := gw_mem 1818 (by decide +kernel) (by decide +kernel)
theorem t1705 : Cond.selects RX11 yX11_fault yX11_fault ∈ GW := gw_mem 1819 (by decide +kernel) (by decide +kernel)
theorem cw_L_37 {R : Room} {s : State} {args : Array Value} {rm : Room} {mc ms : Nat} (hts : ∀ w ∈ GW, w.before args s = true) (hrc : rm.cells = mc) (hrs : rm.slots = ms) (hR : rm.frames + 1 ≤ R.frames ∧ 8 + (1 + 11) + rm.locals ≤ R.locals) : CallW R s args RL RX11 37 yX11_fault cX11_fault 1 (some .int) (wl yX11_fault cX11_fault 1 (some .int)) rm mc ms 0 := cwV 0 hts (gi_V t1703 t1704 t1705 t18 t1706) rfl hrc hrs (by decide +kernel) hR
theorem dL_law_339 : decode cL_law 339 = .ok (.if_icmp .eq 1118, 3) := by decide +kernel
set_option maxHeartbeats 4000000 in
set_option maxRecDepth 100000 in
theorem lc_3 {p : Program} {l : Launch} {e : Env} {s : State} {m : MethodId} {below : List Frame} {meth : Method} {c : Code} {b : Nat} {xs : Nat → Int32} (hl0 : l.stackTraces = false) (C0 : lw_At p s m meth c b 6 xs) (dC : Nat → ClassId) (dI : Nat → Nat → Nat) (cy : Nat → ClassId) (ad : Nat → Nat) (ai : Nat → Nat → Int32) (al : Nat → Nat → Int64) (aq : Nat → Nat → Option Nat) (am : Nat → Nat) (mi : Nat → Nat → Int32) (ml : Nat → Nat → Int64) (qo : Nat) (hX : OkX ad ai aq) (hM : OkM mi) (hEX : EnvX (FA s) s) (hK : va_K (dC, dI) vwCl (TY cy) s) {H : Heap} {locs : List Loc} (hP : va_P (dC, dI) vwCl (FX cy ad ai al aq ++ FM cy am mi ml) H) (hD : va_D (FA s) (FX cy ad ai al aq ++ FM cy am mi ml)) (hS : va_S (FA s) s.heap H locs) {ls : Array Slot} (hl : lv_has ls 7 [(4, .int 0), (3, .ref qo), (2, .ref (am 0)), (1, .ref (ad 0)), (0, .ref b)]) : W p l e room_1 s m #[Value.ref b] below meth c H locs 237 23836 (lw_Z below #[Value.ref b] s) (F0 m 331 ls []) := by
  obtain ⟨hx, hb, hr, hml, hown, htsL, hXs, hbl, hlocks, hgv⟩ := id C0
  have hown : s.vm.findClass RL = some m.cls := hown
  have hts : ∀ w ∈ GW, w.before #[Value.ref b] s = true := fun w hw => htsL w (List.mem_filter.mp hw).1
  have hA : ∀ q : Nat, s.heap.size ≤ q → FA s q := fun _ h => h
  have hbA : ¬ FA s b := Nat.not_le.mpr hbl
  refine lv_aload_n hx hb dL_law_331 rfl (lv_at hl 3 rfl) ?_
  refine jr_i (rVr (As := []) (rest := []) (ci := 11) ⟨hx, hb, hml, hown, hts⟩ (k_fault l dC dI cy ad ) (cw_L_34 hts rfl rfl ⟨Nat.le_of_ble_eq_true rfl, Nat.le_of_ble_eq_true rfl⟩) hP hK [0] rfl rfl rfl rfl hl.1 rfl (Nat.le_of_ble_eq_true rfl) dL_law_332 ⟨Nat.le_of_ble_eq_true rfl, Nat.le_of_ble_eq_true rfl⟩) hP hS (fun r_1 H locs hp_2 hP hS => ?_)
  refine as_i 0 hp_2 ?_
  refine lv_aload_n hx hb dL_law_335 rfl (lv_at hl 2 rfl) ?_
  refine jn_i (wr := []) (rV (As := []) (rest := [.int 0]) (ci := 12) ⟨hx, hb, hml, hown, hts⟩ (m_fault l dC dI cy _ am ) (cw_L_37 hts rfl rfl ⟨Nat.le_of_ble_eq_true rfl, Nat.le_of_ble_eq_true rfl⟩) hP hD hK [114] rfl rfl rfl rfl bl0 e0 rfl hl.1 rfl (Nat.le_of_ble_eq_true rfl) dL_law_336 ⟨Nat.le_of_ble_eq_true rfl, Nat.le_of_ble_eq_true rfl⟩) hP hD hS hA [114] [] rfl rfl rfl (by decide) (fun r_3 u_5 H locs hp_4 hP hD hS => ?_)
  have hp_4 : r_3 = 0 := hp_4
  have hP : va_P (dC, dI) vwCl [] H := hP
  have hD : va_D (FA s) [] := hD
  refine as_i 0 hp_4 ?_
  refine lv_icmp_eq (tgt := 1457) hx hb dL_law_339 (by decide) (fun _ => ?_) (fun c9 => absurd (by decide) c9)
  exact law_end C0 hS (lv_sub hl [0, 4] rfl) (by decide) (by decide)
theorem dL_law_344 : decode cL_law 344 = .ok (.aload_n 1, 1) := by decide +kernel
theorem dL_law_345 : decode cL_law 345 = .ok (.aload_n 0, 1) := by decide +kernel
theorem dL_law_346 : decode cL_law 346 = .ok (.iload 4, 2) := by decide +kernel
theorem dL_law_348 : decode cL_law 348 = .ok (.iconst 1, 1) := by decide +kernel
theorem dL_law_349 : decode cL_law 349 = .ok (.iadd, 1) := by decide +kernel
theorem dL_law_350 : decode cL_law 350 = .ok (.iaload, 1) := by decide +kernel
theorem dL_law_351 : decode cL_law 351 = .ok (.aload_n 0, 1) := by decide +kernel
theorem dL_law_352 : decode cL_law 352 = .ok (.iload 4, 2) := by decide +kernel
theorem dL_law_354 : decode cL_law 354 = .ok (.iconst 2, 1) := by decide +kernel
theorem dL_law_355 : decode cL_law 355 = .ok (.iadd, 1) := by decide +kernel
theorem dL_law_356 : decode cL_law 356 = .ok (.iaload, 1) := by decide +kernel
theorem dL_law_357 : decode cL_law 357 = .ok (.aload_n 3, 1) := by decide +kernel
theorem dL_law_358 : decode cL_law 358 = .ok (.invokestatic 38, 3) := by decide +kernel
theorem dL_law_361 : decode cL_law 361 = .ok (.istore 5, 2) := by decide +kernel
theorem dL_law_363 : decode cL_law 363 = .ok (.aload_n 2, 1) := by decide +kernel
theorem dL_law_364 : decode cL_law 364 = .ok (.aload_n 0, 1) := by decide +kernel
theorem dL_law_365 : decode cL_law 365 = .ok (.iload 4, 2) := by decide +kernel
theorem dL_law_367 : decode cL_law 367 = .ok (.iconst 1, 1) := by decide +kernel
theorem dL_law_368 : decode cL_law 368 = .ok (.iadd, 1) := by decide +kernel
theorem dL_law_369 : decode cL_law 369 = .ok (.iaload, 1) := by decide +kernel
theorem dL_law_370 : decode cL_law 370 = .ok (.aload_n 0, 1) := by decide +kernel
theorem dL_law_371 : decode cL_law 371 = .ok (.iload 4, 2) := by decide +kernel
theorem dL_law_373 : decode cL_law 373 = .ok (.iconst 2, 1) := by decide +kernel
theorem dL_law_374 : decode cL_law 374 = .ok (.iadd, 1) := by decide +kernel
theorem dL_law_375 : decode cL_law 375 = .ok (.iaload, 1) := by decide +kernel
theorem dL_law_376 : decode cL_law 376 = .ok (.invokevirtual 43, 3) := by decide +kernel
theorem t1707 : Cond.methodLink RL 43 yX11_man ∈ GW := gw_mem 1821 (by decide +kernel) (by decide +kernel)
theorem t1708 : Cond.instanceMethod yX11_man ∈ GW := gw_mem 1822 (by decide +kernel) (by decide +kernel)
theorem t1709 : Cond.selects RX11 yX11_man yX11_man ∈ GW := gw_mem 1823 (by decide +kernel) (by decide +kernel)
theorem cw_L_43 {R : Room} {s : State} {args : Array Value} {rm : Room} {mc ms : Nat} (hts : ∀ w ∈ GW, w.before args s = true) (hrc : rm.cells = mc) (hrs : rm.slots = ms) (hR : rm.frames + 1 ≤ R.frames ∧ 8 + (3 + 11) + rm.locals ≤ R.locals) : CallW R s args RL RX11 43 yX11_man cX11_man 3 (some .int) (wl yX11_man cX11_man 3 (some .int)) rm mc ms 2 := cwV 2 hts (gi_V t1707 t1708 t1709 t18 t1710) rfl hrc hrs (by decide +kernel) hR
theorem dL_law_379 : decode cL_law 379 = .ok (.istore 6, 2) := by decide +kernel
theorem dL_law_381 : decode cL_law 381 = .ok (.aload_n 2, 1) := by decide +kernel
theorem dL_law_382 : decode cL_law 382 = .ok (.invokevirtual 44, 3) := by decide +kernel
theorem t1420 : Cond.methodLink RL 44 yX11_thrown ∈ GW := gw_mem 1534 (by decide +kernel) (by decide +kernel)
theorem t1421 : Cond.instanceMethod yX11_thrown ∈ GW := gw_mem 1535 (by decide +kernel) (by decide +kernel)
theorem t1422 : Cond.selects RX11 yX11_thrown yX11_thrown ∈ GW := gw_mem 1536 (by decide +kernel) (by decide +kernel)
theorem cw_L_44 {R : Room} {s : State} {args : Array Value} {rm : Room} {mc ms : Nat} (hts : ∀ w ∈ GW, w.before args s = true) (hrc : rm.cells = mc) (hrs : rm.slots = ms) (hR : rm.frames + 1 ≤ R.frames ∧ 8 + (1 + 11) + rm.locals ≤ R.locals) : CallW R s args RL RX11 44 yX11_thrown cX11_thrown 1 (some .int) (wl yX11_thrown cX11_thrown 1 (some .int)) rm mc ms 0 := cwV 0 hts (gi_V t1420 t1421 t1422 t18 t1423) rfl hrc hrs (by decide +kernel) hR
theorem dL_law_385 : decode cL_law 385 = .ok (.iload 5, 2) := by decide +kernel
theorem dL_law_387 : decode cL_law 387 = .ok (.if_icmp .eq 5, 3) := by decide +kernel
theorem dL_law_392 : decode cL_law 392 = .ok (.iload 5, 2) := by decide +kernel
theorem dL_law_394 : decode cL_law 394 = .ok (.ifCond .ne 15, 3) := by decide +kernel
theorem dL_law_409 : decode cL_law 409 = .ok (.goto 1048, 3) := by decide +kernel
set_option maxHeartbeats 4000000 in
set_option maxRecDepth 100000 in
theorem lc_4 {p : Program} {l : Launch} {e : Env} {s : State} {m : MethodId} {below : List Frame} {meth : Method} {c : Code} {b : Nat} {xs : Nat → Int32} (hl0 : l.stackTraces = false) (C0 : lw_At p s m meth c b 6 xs) (dC : Nat → ClassId) (dI : Nat → Nat → Nat) (cy : Nat → ClassId) (ad : Nat → Nat) (ai : Nat → Nat → Int32) (al : Nat → Nat → Int64) (aq : Nat → Nat → Option Nat) (am : Nat → Nat) (mi : Nat → Nat → Int32) (ml : Nat → Nat → Int64) (qo : Nat) (hX : OkX ad ai aq) (hM : OkM mi) (hEX : EnvX (FA s) s) (hK : va_K (dC, dI) vwCl (TY cy) s) {H : Heap} {locs : List Loc} (hP : va_P (dC, dI) vwCl (FX cy ad ai al aq ++ FM cy am mi ml) H) (hD : va_D (FA s) (FX cy ad ai al aq ++ FM cy am mi ml)) (hS : va_S (FA s) s.heap H locs) {ls : Array Slot} (hl : lv_has ls 7 [(4, .int 0), (3, .ref qo), (2, .ref (am 0)), (1, .ref (ad 0)), (0, .ref b)]) : W p l e room_1 s m #[Value.ref b] below meth c H locs 237 23836 (lw_Z below #[Value.ref b] s) (F0 m 344 ls []) := by
  obtain ⟨hx, hb, hr, hml, hown, htsL, hXs, hbl, hlocks, hgv⟩ := id C0
  have hown : s.vm.findClass RL = some m.cls := hown
  have hts : ∀ w ∈ GW, w.before #[Value.ref b] s = true := fun w hw => htsL w (List.mem_filter.mp hw).1
  have hA : ∀ q : Nat, s.heap.size ≤ q → FA s q := fun _ h => h
  have hbA : ¬ FA s b := Nat.not_le.mpr hbl
  refine lv_aload_n hx hb dL_law_344 rfl (lv_at hl 3 rfl) ?_
  refine lv_aload_n hx hb dL_law_345 rfl (lv_at hl 4 rfl) ?_
  refine lv_iload hx hb dL_law_346 (lv_at hl 0 rfl) ?_
  refine lv_iconst (v := 1) hx hb dL_law_348 (by decide) ?_
  refine lv_iadd hx hb dL_law_349 ?_
  refine as_i 1 (by decide) ?_
  refine va_sld hx hb hXs hbl hbA hS (show vp_in 1 6 from vp_in_nI (n := 1) (by decide) (by decide)) dL_law_350 ?_
  refine as_i (xs 1) rfl ?_
  refine lv_aload_n hx hb dL_law_351 rfl (lv_at hl 4 rfl) ?_
  refine lv_iload hx hb dL_law_352 (lv_at hl 0 rfl) ?_
  refine lv_iconst (v := 2) hx hb dL_law_354 (by decide) ?_
  refine lv_iadd hx hb dL_law_355 ?_
  refine as_i 2 (by decide) ?_
  refine va_sld hx hb hXs hbl hbA hS (show vp_in 2 6 from vp_in_nI (n := 2) (by decide) (by decide)) dL_law_356 ?_
  refine as_i (xs 2) rfl ?_
  refine lv_aload_n hx hb dL_law_357 rfl (lv_at hl 1 rfl) ?_
  refine va_calli (vx_runSW (As := [.ref (ad 0), .int (xs 1), .int (xs 2), .ref qo]) (rest := []) ⟨hx, hb, hml, hown, hts⟩ (l_man l hl0 dC dI cy ad qo (xs 1) (xs 2)) (cw_L_38 hts rfl rfl ⟨Nat.le_of_ble_eq_true rfl, Nat.le_of_ble_eq_true rfl⟩) ⟨blind_x, fun U hU hW => ⟨rfl, by rw [hU]; exact hP.sub [0, 22, 23] rfl, va_K.moved hW.alike hK, EnvX.at hEX hS (fun _ h => h) (fun _ h => h.elim) U hU hW⟩⟩ rfl rfl hl.1 rfl (lv_room (Nat.le_of_ble_eq_true rfl)) dL_law_358 ⟨Nat.le_of_ble_eq_true rfl, Nat.le_of_ble_eq_true rfl⟩) hS (fun _ _ h => h.elim) (fun _ h => h.elim) (fun r _ t H1 locs1 ht hvm hp9 hB hz1 hk1 hS1 => ?_)
  have hP := hP.kept (H1 := H1) (fun k q hq => hk1 q.1 (hP k q hq).lt (fun h => h.elim))
  clear hS
  have hS := hS1
  generalize H1 = H at hP hS ⊢
  generalize locs1 = locs at hS ⊢
  refine as_i 1 hp9 ?_
  refine lv_istore (lv' := [(5, .int 1), (4, .int 0), (3, .ref qo), (2, .ref (am 0)), (1, .ref (ad 0)), (0, .ref b)]) hx hb dL_law_361 hl (by decide) rfl (fun ls hl => ?_)
  refine lv_aload_n hx hb dL_law_363 rfl (lv_at hl 3 rfl) ?_
  refine lv_aload_n hx hb dL_law_364 rfl (lv_at hl 5 rfl) ?_
  refine lv_iload hx hb dL_law_365 (lv_at hl 1 rfl) ?_
  refine lv_iconst (v := 1) hx hb dL_law_367 (by decide) ?_
  refine lv_iadd hx hb dL_law_368 ?_
  refine as_i 1 (by decide) ?_
  refine va_sld hx hb hXs hbl hbA hS (show vp_in 1 6 from vp_in_nI (n := 1) (by decide) (by decide)) dL_law_369 ?_
  refine as_i (xs 1) rfl ?_
  refine lv_aload_n hx hb dL_law_370 rfl (lv_at hl 5 rfl) ?_
  refine lv_iload hx hb dL_law_371 (lv_at hl 1 rfl) ?_
  refine lv_iconst (v := 2) hx hb dL_law_373 (by decide) ?_
  refine lv_iadd hx hb dL_law_374 ?_
  refine as_i 2 (by decide) ?_
  refine va_sld hx hb hXs hbl hbA hS (show vp_in 2 6 from vp_in_nI (n := 2) (by decide) (by decide)) dL_law_375 ?_
  refine as_i (xs 2) rfl ?_
  refine jn_i (wr := []) (rV (As := [.int (xs 1), .int (xs 2)]) (rest := []) (ci := 12) ⟨hx, hb, hml, hown, hts⟩ (m_man l dC dI cy _ am mi (xs 1) (xs 2) hM.1) (cw_L_43 hts rfl rfl ⟨Nat.le_of_ble_eq_true rfl, Nat.le_of_ble_eq_true rfl⟩) hP hD hK [114, 116] rfl rfl rfl rfl bl0 e0 rfl hl.1 rfl (Nat.le_of_ble_eq_true rfl) dL_law_376 ⟨Nat.le_of_ble_eq_true rfl, Nat.le_of_ble_eq_true rfl⟩) hP hD hS hA [114, 116] [] rfl rfl rfl (by decide) (fun r_1 u_3 H locs hp_2 hP hD hS => ?_)
  have hp_2 : r_1 = 0 := hp_2
  have hP : va_P (dC, dI) vwCl [(am 0, .inr (12, [.int 1, .ref (am 1), .int 0, .int 0, .int 0, .int 0, .int 0, .int 0, .int 0, .int 0, .int 0, .int 0, .long 0, .int 0, .ref (am 2), .ref (am 3), .ref (am 4), .ref (am 5), .ref (am 6), .ref (am 7), .ref (am 8), .ref (am 9), .ref (am 10), .ref (am 11), .int 0, .int (-1), .ref (am 12), .ref (am 13), .ref (am 14), .int 0, .ref (am 15), .ref (am 16), .int 0, .int 0, .int 0, .ref (am 17), .int 0, .int 0, .ref (am 18), .ref (am 19), .int 0, .int 0, .ref (am 20), .int 0, .int 0, .int 0, .int 0]))] H := hP
  have hD : va_D (FA s) [(am 0, .inr (12, [.int 1, .ref (am 1), .int 0, .int 0, .int 0, .int 0, .int 0, .int 0, .int 0, .int 0, .int 0, .int 0, .long 0, .int 0, .ref (am 2), .ref (am 3), .ref (am 4), .ref (am 5), .ref (am 6), .ref (am 7), .ref (am 8), .ref (am 9), .ref (am 10), .ref (am 11), .int 0, .int (-1), .ref (am 12), .ref (am 13), .ref (am 14), .int 0, .ref (am 15), .ref (am 16), .int 0, .int 0, .int 0, .ref (am 17), .int 0, .int 0, .ref (am 18), .ref (am 19), .int 0, .int 0, .ref (am 20), .int 0, .int 0, .int 0, .int 0]))] := hD
  refine as_i 0 hp_2 ?_
  refine lv_istore (lv' := [(6, .int 0), (5, .int 1), (4, .int 0), (3, .ref qo), (2, .ref (am 0)), (1, .ref (ad 0)), (0, .ref b)]) hx hb dL_law_379 hl (by decide) rfl (fun ls hl => ?_)
  refine lv_aload_n hx hb dL_law_381 rfl (lv_at hl 4 rfl) ?_
  refine jr_i (rVr (As := []) (rest := []) (ci := 12) ⟨hx, hb, hml, hown, hts⟩ (m_thrown l dC dI cy am ) (cw_L_44 hts rfl rfl ⟨Nat.le_of_ble_eq_true rfl, Nat.le_of_ble_eq_true rfl⟩) hP hK [0] rfl rfl rfl rfl hl.1 rfl (Nat.le_of_ble_eq_true rfl) dL_law_382 ⟨Nat.le_of_ble_eq_true rfl, Nat.le_of_ble_eq_true rfl⟩) hP hS (fun r_4 H locs hp_5 hP hS => ?_)
  refine as_i 1 hp_5 ?_
  refine lv_iload hx hb dL_law_385 (lv_at hl 1 rfl) ?_
  refine lv_icmp_eq (tgt := 392) hx hb dL_law_387 (by decide) (fun _ => ?_) (fun c9 => absurd (by decide) c9)
  refine lv_iload hx hb dL_law_392 (lv_at hl 1 rfl) ?_
  refine lv_if_ne (tgt := 409) hx hb dL_law_394 (by decide) (fun _ => ?_) (fun c9 => absurd c9 (by decide))
  refine lv_goto (tgt := 1457) hx hb dL_law_409 (by decide) ?_
  exact law_end C0 hS (lv_sub hl [2, 6] rfl) (by decide) (by decide)
theorem dL_law_412 : decode cL_law 412 = .ok (.aload_n 1, 1) := by decide +kernel
theorem dL_law_413 : decode cL_law 413 = .ok (.aload_n 0, 1) := by decide +kernel
theorem dL_law_414 : decode cL_law 414 = .ok (.iload 4, 2) := by decide +kernel
theorem dL_law_416 : decode cL_law 416 = .ok (.iconst 1, 1) := by decide +kernel
theorem dL_law_417 : decode cL_law 417 = .ok (.iadd, 1) := by decide +kernel
theorem dL_law_418 : decode cL_law 418 = .ok (.iaload, 1) := by decide +kernel
theorem dL_law_419 : decode cL_law 419 = .ok (.aload_n 0, 1) := by decide +kernel
theorem dL_law_420 : decode cL_law 420 = .ok (.iload 4, 2) := by decide +kernel
theorem dL_law_422 : decode cL_law 422 = .ok (.iconst 2, 1) := by decide +kernel
theorem dL_law_423 : decode cL_law 423 = .ok (.iadd, 1) := by decide +kernel
theorem dL_law_424 : decode cL_law 424 = .ok (.iaload, 1) := by decide +kernel
theorem dL_law_425 : decode cL_law 425 = .ok (.invokevirtual 47, 3) := by decide +kernel
theorem t669 : Cond.methodLink RL 47 yX10_did ∈ GW := gw_mem 783 (by decide +kernel) (by decide +kernel)
theorem t670 : Cond.instanceMethod yX10_did ∈ GW := gw_mem 784 (by decide +kernel) (by decide +kernel)
theorem t671 : Cond.selects RX10 yX10_did yX10_did ∈ GW := gw_mem 785 (by decide +kernel) (by decide +kernel)
theorem cw_L_47 {R : Room} {s : State} {args : Array Value} {rm : Room} {mc ms : Nat} (hts : ∀ w ∈ GW, w.before args s = true) (hrc : rm.cells = mc) (hrs : rm.slots = ms) (hR : rm.frames + 1 ≤ R.frames ∧ 8 + (3 + 11) + rm.locals ≤ R.locals) : CallW R s args RL RX10 47 yX10_did cX10_did 3 (some .int) (wl yX10_did cX10_did 3 (some .int)) rm mc ms 2 := cwV 2 hts (gi_V t669 t670 t671 t1 t672) rfl hrc hrs (by decide +kernel) hR
theorem dL_law_428 : decode cL_law 428 = .ok (.aload_n 2, 1) := by decide +kernel
theorem dL_law_429 : decode cL_law 429 = .ok (.aload_n 0, 1) := by decide +kernel
theorem dL_law_430 : decode cL_law 430 = .ok (.iload 4, 2) := by decide +kernel
theorem dL_law_432 : decode cL_law 432 = .ok (.iconst 1, 1) := by decide +kernel
theorem dL_law_433 : decode cL_law 433 = .ok (.iadd, 1) := by decide +kernel
theorem dL_law_434 : decode cL_law 434 = .ok (.iaload, 1) := by decide +kernel
theorem dL_law_435 : decode cL_law 435 = .ok (.aload_n 0, 1) := by decide +kernel
theorem dL_law_436 : decode cL_law 436 = .ok (.iload 4, 2) := by decide +kernel
theorem dL_law_438 : decode cL_law 438 = .ok (.iconst 2, 1) := by decide +kernel
theorem dL_law_439 : decode cL_law 439 = .ok (.iadd, 1) := by decide +kernel
theorem dL_law_440 : decode cL_law 440 = .ok (.iaload, 1) := by decide +kernel
theorem dL_law_441 : decode cL_law 441 = .ok (.invokevirtual 50, 3) := by decide +kernel
theorem t1751 : Cond.methodLink RL 50 yX11_did ∈ GW := gw_mem 1865 (by decide +kernel) (by decide +kernel)
theorem t1752 : Cond.instanceMethod yX11_did ∈ GW := gw_mem 1866 (by decide +kernel) (by decide +kernel)
theorem t1753 : Cond.selects RX11 yX11_did yX11_did ∈ GW := gw_mem 1867 (by decide +kernel) (by decide +kernel)
theorem cw_L_50 {R : Room} {s : State} {args : Array Value} {rm : Room} {mc ms : Nat} (hts : ∀ w ∈ GW, w.before args s = true) (hrc : rm.cells = mc) (hrs : rm.slots = ms) (hR : rm.frames + 1 ≤ R.frames ∧ 8 + (3 + 11) + rm.locals ≤ R.locals) : CallW R s args RL RX11 50 yX11_did cX11_did 3 (some .int) (wl yX11_did cX11_did 3 (some .int)) rm mc ms 2 := cwV 2 hts (gi_V t1751 t1752 t1753 t18 t1754) rfl hrc hrs (by decide +kernel) hR
theorem dL_law_444 : decode cL_law 444 = .ok (.if_icmp .eq 1013, 3) := by decide +kernel
set_option maxHeartbeats 4000000 in
set_option maxRecDepth 100000 in
theorem lc_5 {p : Program} {l : Launch} {e : Env} {s : State} {m : MethodId} {below : List Frame} {meth : Method} {c : Code} {b : Nat} {xs : Nat → Int32} (hl0 : l.stackTraces = false) (C0 : lw_At p s m meth c b 6 xs) (dC : Nat → ClassId) (dI : Nat → Nat → Nat) (cy : Nat → ClassId) (ad : Nat → Nat) (ai : Nat → Nat → Int32) (al : Nat → Nat → Int64) (aq : Nat → Nat → Option Nat) (am : Nat → Nat) (mi : Nat → Nat → Int32) (ml : Nat → Nat → Int64) (qo : Nat) (hX : OkX ad ai aq) (hM : OkM mi) (hEX : EnvX (FA s) s) (hK : va_K (dC, dI) vwCl (TY cy) s) {H : Heap} {locs : List Loc} (hP : va_P (dC, dI) vwCl (FX cy ad ai al aq ++ FM cy am mi ml) H) (hD : va_D (FA s) (FX cy ad ai al aq ++ FM cy am mi ml)) (hS : va_S (FA s) s.heap H locs) {ls : Array Slot} (hl : lv_has ls 7 [(4, .int 0), (3, .ref qo), (2, .ref (am 0)), (1, .ref (ad 0)), (0, .ref b)]) : W p l e room_1 s m #[Value.ref b] below meth c H locs 237 23836 (lw_Z below #[Value.ref b] s) (F0 m 412 ls []) := by
  obtain ⟨hx, hb, hr, hml, hown, htsL, hXs, hbl, hlocks, hgv⟩ := id C0
  have hown : s.vm.findClass RL = some m.cls := hown
  have hts : ∀ w ∈ GW, w.before #[Value.ref b] s = true := fun w hw => htsL w (List.mem_filter.mp hw).1
  have hA : ∀ q : Nat, s.heap.size ≤ q → FA s q := fun _ h => h
  have hbA : ¬ FA s b := Nat.not_le.mpr hbl
  refine lv_aload_n hx hb dL_law_412 rfl (lv_at hl 3 rfl) ?_
  refine lv_aload_n hx hb dL_law_413 rfl (lv_at hl 4 rfl) ?_
  refine lv_iload hx hb dL_law_414 (lv_at hl 0 rfl) ?_
  refine lv_iconst (v := 1) hx hb dL_law_416 (by decide) ?_
  refine lv_iadd hx hb dL_law_417 ?_
  refine as_i 1 (by decide) ?_
  refine va_sld hx hb hXs hbl hbA hS (show vp_in 1 6 from vp_in_nI (n := 1) (by decide) (by decide)) dL_law_418 ?_
  refine as_i (xs 1) rfl ?_
  refine lv_aload_n hx hb dL_law_419 rfl (lv_at hl 4 rfl) ?_
  refine lv_iload hx hb dL_law_420 (lv_at hl 0 rfl) ?_
  refine lv_iconst (v := 2) hx hb dL_law_422 (by decide) ?_
  refine lv_iadd hx hb dL_law_423 ?_
  refine as_i 2 (by decide) ?_
  refine va_sld hx hb hXs hbl hbA hS (show vp_in 2 6 from vp_in_nI (n := 2) (by decide) (by decide)) dL_law_424 ?_
  refine as_i (xs 2) rfl ?_
  refine jr_i (rVr (As := [.int (xs 1), .int (xs 2)]) (rest := []) (ci := 11) ⟨hx, hb, hml, hown, hts⟩ (k_did l dC dI cy ad (xs 1) (xs 2) ) (cw_L_47 hts rfl rfl ⟨Nat.le_of_ble_eq_true rfl, Nat.le_of_ble_eq_true rfl⟩) hP hK [0, 22, 23] rfl rfl rfl rfl hl.1 rfl (Nat.le_of_ble_eq_true rfl) dL_law_425 ⟨Nat.le_of_ble_eq_true rfl, Nat.le_of_ble_eq_true rfl⟩) hP hS (fun r_1 H locs hp_2 hP hS => ?_)
  refine as_i (-1) hp_2 ?_
  refine lv_aload_n hx hb dL_law_428 rfl (lv_at hl 2 rfl) ?_
  refine lv_aload_n hx hb dL_law_429 rfl (lv_at hl 4 rfl) ?_
  refine lv_iload hx hb dL_law_430 (lv_at hl 0 rfl) ?_
  refine lv_iconst (v := 1) hx hb dL_law_432 (by decide) ?_
  refine lv_iadd hx hb dL_law_433 ?_
  refine as_i 1 (by decide) ?_
  refine va_sld hx hb hXs hbl hbA hS (show vp_in 1 6 from vp_in_nI (n := 1) (by decide) (by decide)) dL_law_434 ?_
  refine as_i (xs 1) rfl ?_
  refine lv_aload_n hx hb dL_law_435 rfl (lv_at hl 4 rfl) ?_
  refine lv_iload hx hb dL_law_436 (lv_at hl 0 rfl) ?_
  refine lv_iconst (v := 2) hx hb dL_law_438 (by decide) ?_
  refine lv_iadd hx hb dL_law_439 ?_
  refine as_i 2 (by decide) ?_
  refine va_sld hx hb hXs hbl hbA hS (show vp_in 2 6 from vp_in_nI (n := 2) (by decide) (by decide)) dL_law_440 ?_
  refine as_i (xs 2) rfl ?_
  refine jn_i (wr := []) (rV (As := [.int (xs 1), .int (xs 2)]) (rest := [.int (-1)]) (ci := 12) ⟨hx, hb, hml, hown, hts⟩ (m_did l dC dI cy _ am mi (xs 1) (xs 2) hM.1) (cw_L_50 hts rfl rfl ⟨Nat.le_of_ble_eq_true rfl, Nat.le_of_ble_eq_true rfl⟩) hP hD hK [114, 116] rfl rfl rfl rfl bl0 e0 rfl hl.1 rfl (Nat.le_of_ble_eq_true rfl) dL_law_441 ⟨Nat.le_of_ble_eq_true rfl, Nat.le_of_ble_eq_true rfl⟩) hP hD hS hA [114, 116] [] rfl rfl rfl (by decide) (fun r_3 u_5 H locs hp_4 hP hD hS => ?_)
  have hp_4 : r_3 = (-1) := hp_4
  have hP : va_P (dC, dI) vwCl [] H := hP
  have hD : va_D (FA s) [] := hD
  refine as_i (-1) hp_4 ?_
  refine lv_icmp_eq (tgt := 1457) hx hb dL_law_444 (by decide) (fun _ => ?_) (fun c9 => absurd (by decide) c9)
  exact law_end C0 hS (lv_sub hl [0, 4] rfl) (by decide) (by decide)
theorem dL_law_449 : decode cL_law 449 = .ok (.aload_n 1, 1) := by decide +kernel
theorem dL_law_450 : decode cL_law 450 = .ok (.aload_n 0, 1) := by decide +kernel
theorem dL_law_451 : decode cL_law 451 = .ok (.iload 4, 2) := by decide +kernel
theorem dL_law_453 : decode cL_law 453 = .ok (.iconst 1, 1) := by decide +kernel
theorem dL_law_454 : decode cL_law 454 = .ok (.iadd, 1) := by decide +kernel
theorem dL_law_455 : decode cL_law 455 = .ok (.iaload, 1) := by decide +kernel
theorem dL_law_456 : decode cL_law 456 = .ok (.aload_n 0, 1) := by decide +kernel
theorem dL_law_457 : decode cL_law 457 = .ok (.iload 4, 2) := by decide +kernel
theorem dL_law_459 : decode cL_law 459 = .ok (.iconst 2, 1) := by decide +kernel
theorem dL_law_460 : decode cL_law 460 = .ok (.iadd, 1) := by decide +kernel
theorem dL_law_461 : decode cL_law 461 = .ok (.iaload, 1) := by decide +kernel
theorem dL_law_462 : decode cL_law 462 = .ok (.invokevirtual 51, 3) := by decide +kernel
theorem t681 : Cond.methodLink RL 51 yX10_deed ∈ GW := gw_mem 795 (by decide +kernel) (by decide +kernel)
theorem t682 : Cond.instanceMethod yX10_deed ∈ GW := gw_mem 796 (by decide +kernel) (by decide +kernel)
theorem t683 : Cond.selects RX10 yX10_deed yX10_deed ∈ GW := gw_mem 797 (by decide +kernel) (by decide +kernel)
theorem cw_L_51 {R : Room} {s : State} {args : Array Value} {rm : Room} {mc ms : Nat} (hts : ∀ w ∈ GW, w.before args s = true) (hrc : rm.cells = mc) (hrs : rm.slots = ms) (hR : rm.frames + 1 ≤ R.frames ∧ 8 + (3 + 11) + rm.locals ≤ R.locals) : CallW R s args RL RX10 51 yX10_deed cX10_deed 3 (some .int) (wl yX10_deed cX10_deed 3 (some .int)) rm mc ms 2 := cwV 2 hts (gi_V t681 t682 t683 t1 t684) rfl hrc hrs (by decide +kernel) hR
theorem dL_law_465 : decode cL_law 465 = .ok (.aload_n 2, 1) := by decide +kernel
theorem dL_law_466 : decode cL_law 466 = .ok (.aload_n 0, 1) := by decide +kernel
theorem dL_law_467 : decode cL_law 467 = .ok (.iload 4, 2) := by decide +kernel
theorem dL_law_469 : decode cL_law 469 = .ok (.iconst 1, 1) := by decide +kernel
theorem dL_law_470 : decode cL_law 470 = .ok (.iadd, 1) := by decide +kernel
theorem dL_law_471 : decode cL_law 471 = .ok (.iaload, 1) := by decide +kernel
theorem dL_law_472 : decode cL_law 472 = .ok (.aload_n 0, 1) := by decide +kernel
theorem dL_law_473 : decode cL_law 473 = .ok (.iload 4, 2) := by decide +kernel
theorem dL_law_475 : decode cL_law 475 = .ok (.iconst 2, 1) := by decide +kernel
theorem dL_law_476 : decode cL_law 476 = .ok (.iadd, 1) := by decide +kernel
theorem dL_law_477 : decode cL_law 477 = .ok (.iaload, 1) := by decide +kernel
theorem dL_law_478 : decode cL_law 478 = .ok (.invokevirtual 54, 3) := by decide +kernel
theorem t1759 : Cond.methodLink RL 54 yX11_deed ∈ GW := gw_mem 1873 (by decide +kernel) (by decide +kernel)
theorem t1760 : Cond.instanceMethod yX11_deed ∈ GW := gw_mem 1874 (by decide +kernel) (by decide +kernel)
theorem t1761 : Cond.selects RX11 yX11_deed yX11_deed ∈ GW := gw_mem 1875 (by decide +kernel) (by decide +kernel)
theorem cw_L_54 {R : Room} {s : State} {args : Array Value} {rm : Room} {mc ms : Nat} (hts : ∀ w ∈ GW, w.before args s = true) (hrc : rm.cells = mc) (hrs : rm.slots = ms) (hR : rm.frames + 1 ≤ R.frames ∧ 8 + (5 + 11) + rm.locals ≤ R.locals) : CallW R s args RL RX11 54 yX11_deed cX11_deed 5 (some .int) (wl yX11_deed cX11_deed 5 (some .int)) rm mc ms 2 := cwV 2 hts (gi_V t1759 t1760 t1761 t18 t1762) rfl hrc hrs (by decide +kernel) hR
theorem dL_law_481 : decode cL_law 481 = .ok (.if_icmp .eq 976, 3) := by decide +kernel
set_option maxHeartbeats 4000000 in
set_option maxRecDepth 100000 in
theorem lc_6 {p : Program} {l : Launch} {e : Env} {s : State} {m : MethodId} {below : List Frame} {meth : Method} {c : Code} {b : Nat} {xs : Nat → Int32} (hl0 : l.stackTraces = false) (C0 : lw_At p s m meth c b 6 xs) (dC : Nat → ClassId) (dI : Nat → Nat → Nat) (cy : Nat → ClassId) (ad : Nat → Nat) (ai : Nat → Nat → Int32) (al : Nat → Nat → Int64) (aq : Nat → Nat → Option Nat) (am : Nat → Nat) (mi : Nat → Nat → Int32) (ml : Nat → Nat → Int64) (qo : Nat) (hX : OkX ad ai aq) (hM : OkM mi) (hEX : EnvX (FA s) s) (hK : va_K (dC, dI) vwCl (TY cy) s) {H : Heap} {locs : List Loc} (hP : va_P (dC, dI) vwCl (FX cy ad ai al aq ++ FM cy am mi ml) H) (hD : va_D (FA s) (FX cy ad ai al aq ++ FM cy am mi ml)) (hS : va_S (FA s) s.heap H locs) {ls : Array Slot} (hl : lv_has ls 7 [(4, .int 0), (3, .ref qo), (2, .ref (am 0)), (1, .ref (ad 0)), (0, .ref b)]) : W p l e room_1 s m #[Value.ref b] below meth c H locs 237 23836 (lw_Z below #[Value.ref b] s) (F0 m 449 ls []) := by
  obtain ⟨hx, hb, hr, hml, hown, htsL, hXs, hbl, hlocks, hgv⟩ := id C0
  have hown : s.vm.findClass RL = some m.cls := hown
  have hts : ∀ w ∈ GW, w.before #[Value.ref b] s = true := fun w hw => htsL w (List.mem_filter.mp hw).1
  have hA : ∀ q : Nat, s.heap.size ≤ q → FA s q := fun _ h => h
  have hbA : ¬ FA s b := Nat.not_le.mpr hbl
  refine lv_aload_n hx hb dL_law_449 rfl (lv_at hl 3 rfl) ?_
  refine lv_aload_n hx hb dL_law_450 rfl (lv_at hl 4 rfl) ?_
  refine lv_iload hx hb dL_law_451 (lv_at hl 0 rfl) ?_
  refine lv_iconst (v := 1) hx hb dL_law_453 (by decide) ?_
  refine lv_iadd hx hb dL_law_454 ?_
  refine as_i 1 (by decide) ?_
  refine va_sld hx hb hXs hbl hbA hS (show vp_in 1 6 from vp_in_nI (n := 1) (by decide) (by decide)) dL_law_455 ?_
  refine as_i (xs 1) rfl ?_
  refine lv_aload_n hx hb dL_law_456 rfl (lv_at hl 4 rfl) ?_
  refine lv_iload hx hb dL_law_457 (lv_at hl 0 rfl) ?_
  refine lv_iconst (v := 2) hx hb dL_law_459 (by decide) ?_
  refine lv_iadd hx hb dL_law_460 ?_
  refine as_i 2 (by decide) ?_
  refine va_sld hx hb hXs hbl hbA hS (show vp_in 2 6 from vp_in_nI (n := 2) (by decide) (by decide)) dL_law_461 ?_
  refine as_i (xs 2) rfl ?_
  refine jr_i (rVr (As := [.int (xs 1), .int (xs 2)]) (rest := []) (ci := 11) ⟨hx, hb, hml, hown, hts⟩ (k_deed l dC dI cy ad (xs 1) (xs 2) ) (cw_L_51 hts rfl rfl ⟨Nat.le_of_ble_eq_true rfl, Nat.le_of_ble_eq_true rfl⟩) hP hK [0, 22, 23] rfl rfl rfl rfl hl.1 rfl (Nat.le_of_ble_eq_true rfl) dL_law_462 ⟨Nat.le_of_ble_eq_true rfl, Nat.le_of_ble_eq_true rfl⟩) hP hS (fun r_1 H locs hp_2 hP hS => ?_)
  refine as_i (-1) hp_2 ?_
  refine lv_aload_n hx hb dL_law_465 rfl (lv_at hl 2 rfl) ?_
  refine lv_aload_n hx hb dL_law_466 rfl (lv_at hl 4 rfl) ?_
  refine lv_iload hx hb dL_law_467 (lv_at hl 0 rfl) ?_
  refine lv_iconst (v := 1) hx hb dL_law_469 (by decide) ?_
  refine lv_iadd hx hb dL_law_470 ?_
  refine as_i 1 (by decide) ?_
  refine va_sld hx hb hXs hbl hbA hS (show vp_in 1 6 from vp_in_nI (n := 1) (by decide) (by decide)) dL_law_471 ?_
  refine as_i (xs 1) rfl ?_
  refine lv_aload_n hx hb dL_law_472 rfl (lv_at hl 4 rfl) ?_
  refine lv_iload hx hb dL_law_473 (lv_at hl 0 rfl) ?_
  refine lv_iconst (v := 2) hx hb dL_law_475 (by decide) ?_
  refine lv_iadd hx hb dL_law_476 ?_
  refine as_i 2 (by decide) ?_
  refine va_sld hx hb hXs hbl hbA hS (show vp_in 2 6 from vp_in_nI (n := 2) (by decide) (by decide)) dL_law_477 ?_
  refine as_i (xs 2) rfl ?_
  refine jn_i (wr := []) (rV (As := [.int (xs 1), .int (xs 2)]) (rest := [.int (-1)]) (ci := 12) ⟨hx, hb, hml, hown, hts⟩ (m_deed l dC dI cy _ am mi (xs 1) (xs 2) hM.1) (cw_L_54 hts rfl rfl ⟨Nat.le_of_ble_eq_true rfl, Nat.le_of_ble_eq_true rfl⟩) hP hD hK [114, 116] rfl rfl rfl rfl bl0 e0 rfl hl.1 rfl (Nat.le_of_ble_eq_true rfl) dL_law_478 ⟨Nat.le_of_ble_eq_true rfl, Nat.le_of_ble_eq_true rfl⟩) hP hD hS hA [114, 116] [] rfl rfl rfl (by decide) (fun r_3 u_5 H locs hp_4 hP hD hS => ?_)
  have hp_4 : r_3 = (-1) := hp_4
  have hP : va_P (dC, dI) vwCl [] H := hP
  have hD : va_D (FA s) [] := hD
  refine as_i (-1) hp_4 ?_
  refine lv_icmp_eq (tgt := 1457) hx hb dL_law_481 (by decide) (fun _ => ?_) (fun c9 => absurd (by decide) c9)
  exact law_end C0 hS (lv_sub hl [0, 4] rfl) (by decide) (by decide)
theorem dL_law_486 : decode cL_law 486 = .ok (.aload_n 1, 1) := by decide +kernel
theorem dL_law_487 : decode cL_law 487 = .ok (.aload_n 0, 1) := by decide +kernel
theorem dL_law_488 : decode cL_law 488 = .ok (.iload 4, 2) := by decide +kernel
theorem dL_law_490 : decode cL_law 490 = .ok (.iconst 1, 1) := by decide +kernel
theorem dL_law_491 : decode cL_law 491 = .ok (.iadd, 1) := by decide +kernel
theorem dL_law_492 : decode cL_law 492 = .ok (.iaload, 1) := by decide +kernel
theorem dL_law_493 : decode cL_law 493 = .ok (.aload_n 0, 1) := by decide +kernel
theorem dL_law_494 : decode cL_law 494 = .ok (.iload 4, 2) := by decide +kernel
theorem dL_law_496 : decode cL_law 496 = .ok (.iconst 2, 1) := by decide +kernel
theorem dL_law_497 : decode cL_law 497 = .ok (.iadd, 1) := by decide +kernel
theorem dL_law_498 : decode cL_law 498 = .ok (.iaload, 1) := by decide +kernel
theorem dL_law_499 : decode cL_law 499 = .ok (.invokevirtual 55, 3) := by decide +kernel
theorem t689 : Cond.methodLink RL 55 yX10_owes ∈ GW := gw_mem 803 (by decide +kernel) (by decide +kernel)
theorem t690 : Cond.instanceMethod yX10_owes ∈ GW := gw_mem 804 (by decide +kernel) (by decide +kernel)
theorem t691 : Cond.selects RX10 yX10_owes yX10_owes ∈ GW := gw_mem 805 (by decide +kernel) (by decide +kernel)
theorem cw_L_55 {R : Room} {s : State} {args : Array Value} {rm : Room} {mc ms : Nat} (hts : ∀ w ∈ GW, w.before args s = true) (hrc : rm.cells = mc) (hrs : rm.slots = ms) (hR : rm.frames + 1 ≤ R.frames ∧ 8 + (3 + 11) + rm.locals ≤ R.locals) : CallW R s args RL RX10 55 yX10_owes cX10_owes 3 (some .int) (wl yX10_owes cX10_owes 3 (some .int)) rm mc ms 2 := cwV 2 hts (gi_V t689 t690 t691 t1 t692) rfl hrc hrs (by decide +kernel) hR
theorem dL_law_502 : decode cL_law 502 = .ok (.aload_n 2, 1) := by decide +kernel
theorem dL_law_503 : decode cL_law 503 = .ok (.aload_n 0, 1) := by decide +kernel
theorem dL_law_504 : decode cL_law 504 = .ok (.iload 4, 2) := by decide +kernel
theorem dL_law_506 : decode cL_law 506 = .ok (.iconst 1, 1) := by decide +kernel
theorem dL_law_507 : decode cL_law 507 = .ok (.iadd, 1) := by decide +kernel
theorem dL_law_508 : decode cL_law 508 = .ok (.iaload, 1) := by decide +kernel
theorem dL_law_509 : decode cL_law 509 = .ok (.aload_n 0, 1) := by decide +kernel
theorem dL_law_510 : decode cL_law 510 = .ok (.iload 4, 2) := by decide +kernel
theorem dL_law_512 : decode cL_law 512 = .ok (.iconst 2, 1) := by decide +kernel
theorem dL_law_513 : decode cL_law 513 = .ok (.iadd, 1) := by decide +kernel
theorem dL_law_514 : decode cL_law 514 = .ok (.iaload, 1) := by decide +kernel
theorem dL_law_515 : decode cL_law 515 = .ok (.invokevirtual 58, 3) := by decide +kernel
theorem t1763 : Cond.methodLink RL 58 yX11_owes ∈ GW := gw_mem 1877 (by decide +kernel) (by decide +kernel)
theorem t1764 : Cond.instanceMethod yX11_owes ∈ GW := gw_mem 1878 (by decide +kernel) (by decide +kernel)
theorem t1765 : Cond.selects RX11 yX11_owes yX11_owes ∈ GW := gw_mem 1879 (by decide +kernel) (by decide +kernel)
theorem cw_L_58 {R : Room} {s : State} {args : Array Value} {rm : Room} {mc ms : Nat} (hts : ∀ w ∈ GW, w.before args s = true) (hrc : rm.cells = mc) (hrs : rm.slots = ms) (hR : rm.frames + 1 ≤ R.frames ∧ 8 + (3 + 11) + rm.locals ≤ R.locals) : CallW R s args RL RX11 58 yX11_owes cX11_owes 3 (some .int) (wl yX11_owes cX11_owes 3 (some .int)) rm mc ms 2 := cwV 2 hts (gi_V t1763 t1764 t1765 t18 t1766) rfl hrc hrs (by decide +kernel) hR
theorem dL_law_518 : decode cL_law 518 = .ok (.if_icmp .eq 939, 3) := by decide +kernel
set_option maxHeartbeats 4000000 in
set_option maxRecDepth 100000 in
theorem lc_7 {p : Program} {l : Launch} {e : Env} {s : State} {m : MethodId} {below : List Frame} {meth : Method} {c : Code} {b : Nat} {xs : Nat → Int32} (hl0 : l.stackTraces = false) (C0 : lw_At p s m meth c b 6 xs) (dC : Nat → ClassId) (dI : Nat → Nat → Nat) (cy : Nat → ClassId) (ad : Nat → Nat) (ai : Nat → Nat → Int32) (al : Nat → Nat → Int64) (aq : Nat → Nat → Option Nat) (am : Nat → Nat) (mi : Nat → Nat → Int32) (ml : Nat → Nat → Int64) (qo : Nat) (hX : OkX ad ai aq) (hM : OkM mi) (hEX : EnvX (FA s) s) (hK : va_K (dC, dI) vwCl (TY cy) s) {H : Heap} {locs : List Loc} (hP : va_P (dC, dI) vwCl (FX cy ad ai al aq ++ FM cy am mi ml) H) (hD : va_D (FA s) (FX cy ad ai al aq ++ FM cy am mi ml)) (hS : va_S (FA s) s.heap H locs) {ls : Array Slot} (hl : lv_has ls 7 [(4, .int 0), (3, .ref qo), (2, .ref (am 0)), (1, .ref (ad 0)), (0, .ref b)]) : W p l e room_1 s m #[Value.ref b] below meth c H locs 237 23836 (lw_Z below #[Value.ref b] s) (F0 m 486 ls []) := by
  obtain ⟨hx, hb, hr, hml, hown, htsL, hXs, hbl, hlocks, hgv⟩ := id C0
  have hown : s.vm.findClass RL = some m.cls := hown
  have hts : ∀ w ∈ GW, w.before #[Value.ref b] s = true := fun w hw => htsL w (List.mem_filter.mp hw).1
  have hA : ∀ q : Nat, s.heap.size ≤ q → FA s q := fun _ h => h
  have hbA : ¬ FA s b := Nat.not_le.mpr hbl
  refine lv_aload_n hx hb dL_law_486 rfl (lv_at hl 3 rfl) ?_
  refine lv_aload_n hx hb dL_law_487 rfl (lv_at hl 4 rfl) ?_
  refine lv_iload hx hb dL_law_488 (lv_at hl 0 rfl) ?_
  refine lv_iconst (v := 1) hx hb dL_law_490 (by decide) ?_
  refine lv_iadd hx hb dL_law_491 ?_
  refine as_i 1 (by decide) ?_
  refine va_sld hx hb hXs hbl hbA hS (show vp_in 1 6 from vp_in_nI (n := 1) (by decide) (by decide)) dL_law_492 ?_
  refine as_i (xs 1) rfl ?_
  refine lv_aload_n hx hb dL_law_493 rfl (lv_at hl 4 rfl) ?_
  refine lv_iload hx hb dL_law_494 (lv_at hl 0 rfl) ?_
  refine lv_iconst (v := 2) hx hb dL_law_496 (by decide) ?_
  refine lv_iadd hx hb dL_law_497 ?_
  refine as_i 2 (by decide) ?_
  refine va_sld hx hb hXs hbl hbA hS (show vp_in 2 6 from vp_in_nI (n := 2) (by decide) (by decide)) dL_law_498 ?_
  refine as_i (xs 2) rfl ?_
  refine jr_i (rVr (As := [.int (xs 1), .int (xs 2)]) (rest := []) (ci := 11) ⟨hx, hb, hml, hown, hts⟩ (k_owes l dC dI cy ad (xs 1) (xs 2) ) (cw_L_55 hts rfl rfl ⟨Nat.le_of_ble_eq_true rfl, Nat.le_of_ble_eq_true rfl⟩) hP hK [0, 22, 23] rfl rfl rfl rfl hl.1 rfl (Nat.le_of_ble_eq_true rfl) dL_law_499 ⟨Nat.le_of_ble_eq_true rfl, Nat.le_of_ble_eq_true rfl⟩) hP hS (fun r_1 H locs hp_2 hP hS => ?_)
  refine as_i (-1) hp_2 ?_
  refine lv_aload_n hx hb dL_law_502 rfl (lv_at hl 2 rfl) ?_
  refine lv_aload_n hx hb dL_law_503 rfl (lv_at hl 4 rfl) ?_
  refine lv_iload hx hb dL_law_504 (lv_at hl 0 rfl) ?_
  refine lv_iconst (v := 1) hx hb dL_law_506 (by decide) ?_
  refine lv_iadd hx hb dL_law_507 ?_
  refine as_i 1 (by decide) ?_
  refine va_sld hx hb hXs hbl hbA hS (show vp_in 1 6 from vp_in_nI (n := 1) (by decide) (by decide)) dL_law_508 ?_
  refine as_i (xs 1) rfl ?_
  refine lv_aload_n hx hb dL_law_509 rfl (lv_at hl 4 rfl) ?_
  refine lv_iload hx hb dL_law_510 (lv_at hl 0 rfl) ?_
  refine lv_iconst (v := 2) hx hb dL_law_512 (by decide) ?_
  refine lv_iadd hx hb dL_law_513 ?_
  refine as_i 2 (by decide) ?_
  refine va_sld hx hb hXs hbl hbA hS (show vp_in 2 6 from vp_in_nI (n := 2) (by decide) (by decide)) dL_law_514 ?_
  refine as_i (xs 2) rfl ?_
  refine jn_i (wr := []) (rV (As := [.int (xs 1), .int (xs 2)]) (rest := [.int (-1)]) (ci := 12) ⟨hx, hb, hml, hown, hts⟩ (m_owes l dC dI cy _ am mi (xs 1) (xs 2) hM.1) (cw_L_58 hts rfl rfl ⟨Nat.le_of_ble_eq_true rfl, Nat.le_of_ble_eq_true rfl⟩) hP hD hK [114, 116] rfl rfl rfl rfl bl0 e0 rfl hl.1 rfl (Nat.le_of_ble_eq_true rfl) dL_law_515 ⟨Nat.le_of_ble_eq_true rfl, Nat.le_of_ble_eq_true rfl⟩) hP hD hS hA [114, 116] [] rfl rfl rfl (by decide) (fun r_3 u_5 H locs hp_4 hP hD hS => ?_)
  have hp_4 : r_3 = (-1) := hp_4
  have hP : va_P (dC, dI) vwCl [] H := hP
  have hD : va_D (FA s) [] := hD
  refine as_i (-1) hp_4 ?_
  refine lv_icmp_eq (tgt := 1457) hx hb dL_law_518 (by decide) (fun _ => ?_) (fun c9 => absurd (by decide) c9)
  exact law_end C0 hS (lv_sub hl [0, 4] rfl) (by decide) (by decide)
theorem dL_law_523 : decode cL_law 523 = .ok (.aload_n 1, 1) := by decide +kernel
theorem dL_law_524 : decode cL_law 524 = .ok (.aload_n 0, 1) := by decide +kernel
theorem dL_law_525 : decode cL_law 525 = .ok (.iload 4, 2) := by decide +kernel
theorem dL_law_527 : decode cL_law 527 = .ok (.iconst 1, 1) := by decide +kernel
theorem dL_law_528 : decode cL_law 528 = .ok (.iadd, 1) := by decide +kernel
theorem dL_law_529 : decode cL_law 529 = .ok (.iaload, 1) := by decide +kernel
theorem dL_law_530 : decode cL_law 530 = .ok (.invokevirtual 59, 3) := by decide +kernel
theorem t693 : Cond.methodLink RL 59 yX10_kin ∈ GW := gw_mem 807 (by decide +kernel) (by decide +kernel)
theorem t694 : Cond.instanceMethod yX10_kin ∈ GW := gw_mem 808 (by decide +kernel) (by decide +kernel)
theorem t695 : Cond.selects RX10 yX10_kin yX10_kin ∈ GW := gw_mem 809 (by decide +kernel) (by decide +kernel)
theorem cw_L_59 {R : Room} {s : State} {args : Array Value} {rm : Room} {mc ms : Nat} (hts : ∀ w ∈ GW, w.before args s = true) (hrc : rm.cells = mc) (hrs : rm.slots = ms) (hR : rm.frames + 1 ≤ R.frames ∧ 8 + (2 + 11) + rm.locals ≤ R.locals) : CallW R s args RL RX10 59 yX10_kin cX10_kin 2 (some .int) (wl yX10_kin cX10_kin 2 (some .int)) rm mc ms 1 := cwV 1 hts (gi_V t693 t694 t695 t1 t696) rfl hrc hrs (by decide +kernel) hR
theorem dL_law_533 : decode cL_law 533 = .ok (.aload_n 2, 1) := by decide +kernel
theorem dL_law_534 : decode cL_law 534 = .ok (.aload_n 0, 1) := by decide +kernel
theorem dL_law_535 : decode cL_law 535 = .ok (.iload 4, 2) := by decide +kernel
theorem dL_law_537 : decode cL_law 537 = .ok (.iconst 1, 1) := by decide +kernel
theorem dL_law_538 : decode cL_law 538 = .ok (.iadd, 1) := by decide +kernel
theorem dL_law_539 : decode cL_law 539 = .ok (.iaload, 1) := by decide +kernel
theorem dL_law_540 : decode cL_law 540 = .ok (.invokevirtual 63, 3) := by decide +kernel
theorem t1767 : Cond.methodLink RL 63 yX11_kin ∈ GW := gw_mem 1881 (by decide +kernel) (by decide +kernel)
theorem t1768 : Cond.instanceMethod yX11_kin ∈ GW := gw_mem 1882 (by decide +kernel) (by decide +kernel)
theorem t1769 : Cond.selects RX11 yX11_kin yX11_kin ∈ GW := gw_mem 1883 (by decide +kernel) (by decide +kernel)
theorem cw_L_63 {R : Room} {s : State} {args : Array Value} {rm : Room} {mc ms : Nat} (hts : ∀ w ∈ GW, w.before args s = true) (hrc : rm.cells = mc) (hrs : rm.slots = ms) (hR : rm.frames + 1 ≤ R.frames ∧ 8 + (2 + 11) + rm.locals ≤ R.locals) : CallW R s args RL RX11 63 yX11_kin cX11_kin 2 (some .int) (wl yX11_kin cX11_kin 2 (some .int)) rm mc ms 1 := cwV 1 hts (gi_V t1767 t1768 t1769 t18 t1770) rfl hrc hrs (by decide +kernel) hR
theorem dL_law_543 : decode cL_law 543 = .ok (.if_icmp .eq 914, 3) := by decide +kernel
set_option maxHeartbeats 4000000 in
set_option maxRecDepth 100000 in
theorem lc_8 {p : Program} {l : Launch} {e : Env} {s : State} {m : MethodId} {below : List Frame} {meth : Method} {c : Code} {b : Nat} {xs : Nat → Int32} (hl0 : l.stackTraces = false) (C0 : lw_At p s m meth c b 6 xs) (dC : Nat → ClassId) (dI : Nat → Nat → Nat) (cy : Nat → ClassId) (ad : Nat → Nat) (ai : Nat → Nat → Int32) (al : Nat → Nat → Int64) (aq : Nat → Nat → Option Nat) (am : Nat → Nat) (mi : Nat → Nat → Int32) (ml : Nat → Nat → Int64) (qo : Nat) (hX : OkX ad ai aq) (hM : OkM mi) (hEX : EnvX (FA s) s) (hK : va_K (dC, dI) vwCl (TY cy) s) {H : Heap} {locs : List Loc} (hP : va_P (dC, dI) vwCl (FX cy ad ai al aq ++ FM cy am mi ml) H) (hD : va_D (FA s) (FX cy ad ai al aq ++ FM cy am mi ml)) (hS : va_S (FA s) s.heap H locs) {ls : Array Slot} (hl : lv_has ls 7 [(4, .int 0), (3, .ref qo), (2, .ref (am 0)), (1, .ref (ad 0)), (0, .ref b)]) : W p l e room_1 s m #[Value.ref b] below meth c H locs 237 23836 (lw_Z below #[Value.ref b] s) (F0 m 523 ls []) := by
  obtain ⟨hx, hb, hr, hml, hown, htsL, hXs, hbl, hlocks, hgv⟩ := id C0
  have hown : s.vm.findClass RL = some m.cls := hown
  have hts : ∀ w ∈ GW, w.before #[Value.ref b] s = true := fun w hw => htsL w (List.mem_filter.mp hw).1
  have hA : ∀ q : Nat, s.heap.size ≤ q → FA s q := fun _ h => h
  have hbA : ¬ FA s b := Nat.not_le.mpr hbl
  refine lv_aload_n hx hb dL_law_523 rfl (lv_at hl 3 rfl) ?_
  refine lv_aload_n hx hb dL_law_524 rfl (lv_at hl 4 rfl) ?_
  refine lv_iload hx hb dL_law_525 (lv_at hl 0 rfl) ?_
  refine lv_iconst (v := 1) hx hb dL_law_527 (by decide) ?_
  refine lv_iadd hx hb dL_law_528 ?_
  refine as_i 1 (by decide) ?_
  refine va_sld hx hb hXs hbl hbA hS (show vp_in 1 6 from vp_in_nI (n := 1) (by decide) (by decide)) dL_law_529 ?_
  refine as_i (xs 1) rfl ?_
  refine jr_i (rVr (As := [.int (xs 1)]) (rest := []) (ci := 11) ⟨hx, hb, hml, hown, hts⟩ (k_kin l dC dI cy ad (xs 1) ) (cw_L_59 hts rfl rfl ⟨Nat.le_of_ble_eq_true rfl, Nat.le_of_ble_eq_true rfl⟩) hP hK [0, 22, 23] rfl rfl rfl rfl hl.1 rfl (Nat.le_of_ble_eq_true rfl) dL_law_530 ⟨Nat.le_of_ble_eq_true rfl, Nat.le_of_ble_eq_true rfl⟩) hP hS (fun r_1 H locs hp_2 hP hS => ?_)
  refine as_i (-1) hp_2 ?_
  refine lv_aload_n hx hb dL_law_533 rfl (lv_at hl 2 rfl) ?_
  refine lv_aload_n hx hb dL_law_534 rfl (lv_at hl 4 rfl) ?_
  refine lv_iload hx hb dL_law_535 (lv_at hl 0 rfl) ?_
  refine lv_iconst (v := 1) hx hb dL_law_537 (by decide) ?_
  refine lv_iadd hx hb dL_law_538 ?_
  refine as_i 1 (by decide) ?_
  refine va_sld hx hb hXs hbl hbA hS (show vp_in 1 6 from vp_in_nI (n := 1) (by decide) (by decide)) dL_law_539 ?_
  refine as_i (xs 1) rfl ?_
  refine jn_i (wr := []) (rV (As := [.int (xs 1)]) (rest := [.int (-1)]) (ci := 12) ⟨hx, hb, hml, hown, hts⟩ (m_kin l dC dI cy _ am mi (xs 1) hM.1) (cw_L_63 hts rfl rfl ⟨Nat.le_of_ble_eq_true rfl, Nat.le_of_ble_eq_true rfl⟩) hP hD hK [114, 116] rfl rfl rfl rfl bl0 e0 rfl hl.1 rfl (Nat.le_of_ble_eq_true rfl) dL_law_540 ⟨Nat.le_of_ble_eq_true rfl, Nat.le_of_ble_eq_true rfl⟩) hP hD hS hA [114, 116] [] rfl rfl rfl (by decide) (fun r_3 u_5 H locs hp_4 hP hD hS => ?_)
  have hp_4 : r_3 = (-1) := hp_4
  have hP : va_P (dC, dI) vwCl [] H := hP
  have hD : va_D (FA s) [] := hD
  refine as_i (-1) hp_4 ?_
  refine lv_icmp_eq (tgt := 1457) hx hb dL_law_543 (by decide) (fun _ => ?_) (fun c9 => absurd (by decide) c9)
  exact law_end C0 hS (lv_sub hl [0, 4] rfl) (by decide) (by decide)
theorem dL_law_548 : decode cL_law 548 = .ok (.aload_n 1, 1) := by decide +kernel
theorem dL_law_549 : decode cL_law 549 = .ok (.aload_n 0, 1) := by decide +kernel
theorem dL_law_550 : decode cL_law 550 = .ok (.iload 4, 2) := by decide +kernel
theorem dL_law_552 : decode cL_law 552 = .ok (.iconst 1, 1) := by decide +kernel
theorem dL_law_553 : decode cL_law 553 = .ok (.iadd, 1) := by decide +kernel
theorem dL_law_554 : decode cL_law 554 = .ok (.iaload, 1) := by decide +kernel
theorem dL_law_555 : decode cL_law 555 = .ok (.aload_n 0, 1) := by decide +kernel
theorem dL_law_556 : decode cL_law 556 = .ok (.iload 4, 2) := by decide +kernel
theorem dL_law_558 : decode cL_law 558 = .ok (.iconst 2, 1) := by decide +kernel
theorem dL_law_559 : decode cL_law 559 = .ok (.iadd, 1) := by decide +kernel
theorem dL_law_560 : decode cL_law 560 = .ok (.iaload, 1) := by decide +kernel
theorem dL_law_561 : decode cL_law 561 = .ok (.invokevirtual 64, 3) := by decide +kernel
theorem t697 : Cond.methodLink RL 64 yX10_cell ∈ GW := gw_mem 811 (by decide +kernel) (by decide +kernel)
theorem t698 : Cond.instanceMethod yX10_cell ∈ GW := gw_mem 812 (by decide +kernel) (by decide +kernel)
theorem t699 : Cond.selects RX10 yX10_cell yX10_cell ∈ GW := gw_mem 813 (by decide +kernel) (by decide +kernel)
theorem cw_L_64 {R : Room} {s : State} {args : Array Value} {rm : Room} {mc ms : Nat} (hts : ∀ w ∈ GW, w.before args s = true) (hrc : rm.cells = mc) (hrs : rm.slots = ms) (hR : rm.frames + 1 ≤ R.frames ∧ 8 + (3 + 11) + rm.locals ≤ R.locals) : CallW R s args RL RX10 64 yX10_cell cX10_cell 3 (some .int) (wl yX10_cell cX10_cell 3 (some .int)) rm mc ms 2 := cwV 2 hts (gi_V t697 t698 t699 t1 t700) rfl hrc hrs (by decide +kernel) hR
theorem dL_law_564 : decode cL_law 564 = .ok (.aload_n 2, 1) := by decide +kernel
theorem dL_law_565 : decode cL_law 565 = .ok (.aload_n 0, 1) := by decide +kernel
theorem dL_law_566 : decode cL_law 566 = .ok (.iload 4, 2) := by decide +kernel
theorem dL_law_568 : decode cL_law 568 = .ok (.iconst 1, 1) := by decide +kernel
theorem dL_law_569 : decode cL_law 569 = .ok (.iadd, 1) := by decide +kernel
theorem dL_law_570 : decode cL_law 570 = .ok (.iaload, 1) := by decide +kernel
theorem dL_law_571 : decode cL_law 571 = .ok (.aload_n 0, 1) := by decide +kernel
theorem dL_law_572 : decode cL_law 572 = .ok (.iload 4, 2) := by decide +kernel
theorem dL_law_574 : decode cL_law 574 = .ok (.iconst 2, 1) := by decide +kernel
theorem dL_law_575 : decode cL_law 575 = .ok (.iadd, 1) := by decide +kernel
theorem dL_law_576 : decode cL_law 576 = .ok (.iaload, 1) := by decide +kernel
theorem dL_law_577 : decode cL_law 577 = .ok (.invokevirtual 67, 3) := by decide +kernel
theorem t1771 : Cond.methodLink RL 67 yX11_cell ∈ GW := gw_mem 1885 (by decide +kernel) (by decide +kernel)
theorem t1772 : Cond.instanceMethod yX11_cell ∈ GW := gw_mem 1886 (by decide +kernel) (by decide +kernel)
theorem t1773 : Cond.selects RX11 yX11_cell yX11_cell ∈ GW := gw_mem 1887 (by decide +kernel) (by decide +kernel)
theorem cw_L_67 {R : Room} {s : State} {args : Array Value} {rm : Room} {mc ms : Nat} (hts : ∀ w ∈ GW, w.before args s = true) (hrc : rm.cells = mc) (hrs : rm.slots = ms) (hR : rm.frames + 1 ≤ R.frames ∧ 8 + (3 + 11) + rm.locals ≤ R.locals) : CallW R s args RL RX11 67 yX11_cell cX11_cell 3 (some .int) (wl yX11_cell cX11_cell 3 (some .int)) rm mc ms 2 := cwV 2 hts (gi_V t1771 t1772 t1773 t18 t1774) rfl hrc hrs (by decide +kernel) hR
theorem dL_law_580 : decode cL_law 580 = .ok (.if_icmp .eq 877, 3) := by decide +kernel
set_option maxHeartbeats 4000000 in
set_option maxRecDepth 100000 in
theorem lc_9 {p : Program} {l : Launch} {e : Env} {s : State} {m : MethodId} {below : List Frame} {meth : Method} {c : Code} {b : Nat} {xs : Nat → Int32} (hl0 : l.stackTraces = false) (C0 : lw_At p s m meth c b 6 xs) (dC : Nat → ClassId) (dI : Nat → Nat → Nat) (cy : Nat → ClassId) (ad : Nat → Nat) (ai : Nat → Nat → Int32) (al : Nat → Nat → Int64) (aq : Nat → Nat → Option Nat) (am : Nat → Nat) (mi : Nat → Nat → Int32) (ml : Nat → Nat → Int64) (qo : Nat) (hX : OkX ad ai aq) (hM : OkM mi) (hEX : EnvX (FA s) s) (hK : va_K (dC, dI) vwCl (TY cy) s) {H : Heap} {locs : List Loc} (hP : va_P (dC, dI) vwCl (FX cy ad ai al aq ++ FM cy am mi ml) H) (hD : va_D (FA s) (FX cy ad ai al aq ++ FM cy am mi ml)) (hS : va_S (FA s) s.heap H locs) {ls : Array Slot} (hl : lv_has ls 7 [(4, .int 0), (3, .ref qo), (2, .ref (am 0)), (1, .ref (ad 0)), (0, .ref b)]) : W p l e room_1 s m #[Value.ref b] below meth c H locs 237 23836 (lw_Z below #[Value.ref b] s) (F0 m 548 ls []) := by
  obtain ⟨hx, hb, hr, hml, hown, htsL, hXs, hbl, hlocks, hgv⟩ := id C0
  have hown : s.vm.findClass RL = some m.cls := hown
  have hts : ∀ w ∈ GW, w.before #[Value.ref b] s = true := fun w hw => htsL w (List.mem_filter.mp hw).1
  have hA : ∀ q : Nat, s.heap.size ≤ q → FA s q := fun _ h => h
  have hbA : ¬ FA s b := Nat.not_le.mpr hbl
  refine lv_aload_n hx hb dL_law_548 rfl (lv_at hl 3 rfl) ?_
  refine lv_aload_n hx hb dL_law_549 rfl (lv_at hl 4 rfl) ?_
  refine lv_iload hx hb dL_law_550 (lv_at hl 0 rfl) ?_
  refine lv_iconst (v := 1) hx hb dL_law_552 (by decide) ?_
  refine lv_iadd hx hb dL_law_553 ?_
  refine as_i 1 (by decide) ?_
  refine va_sld hx hb hXs hbl hbA hS (show vp_in 1 6 from vp_in_nI (n := 1) (by decide) (by decide)) dL_law_554 ?_
  refine as_i (xs 1) rfl ?_
  refine lv_aload_n hx hb dL_law_555 rfl (lv_at hl 4 rfl) ?_
  refine lv_iload hx hb dL_law_556 (lv_at hl 0 rfl) ?_
  refine lv_iconst (v := 2) hx hb dL_law_558 (by decide) ?_
  refine lv_iadd hx hb dL_law_559 ?_
  refine as_i 2 (by decide) ?_
  refine va_sld hx hb hXs hbl hbA hS (show vp_in 2 6 from vp_in_nI (n := 2) (by decide) (by decide)) dL_law_560 ?_
  refine as_i (xs 2) rfl ?_
  refine jr_i (rVr (As := [.int (xs 1), .int (xs 2)]) (rest := []) (ci := 11) ⟨hx, hb, hml, hown, hts⟩ (k_cell l dC dI cy ad (xs 1) (xs 2) ) (cw_L_64 hts rfl rfl ⟨Nat.le_of_ble_eq_true rfl, Nat.le_of_ble_eq_true rfl⟩) hP hK [0, 22, 23] rfl rfl rfl rfl hl.1 rfl (Nat.le_of_ble_eq_true rfl) dL_law_561 ⟨Nat.le_of_ble_eq_true rfl, Nat.le_of_ble_eq_true rfl⟩) hP hS (fun r_1 H locs hp_2 hP hS => ?_)
  refine as_i (-1) hp_2 ?_
  refine lv_aload_n hx hb dL_law_564 rfl (lv_at hl 2 rfl) ?_
  refine lv_aload_n hx hb dL_law_565 rfl (lv_at hl 4 rfl) ?_
  refine lv_iload hx hb dL_law_566 (lv_at hl 0 rfl) ?_
  refine lv_iconst (v := 1) hx hb dL_law_568 (by decide) ?_
  refine lv_iadd hx hb dL_law_569 ?_
  refine as_i 1 (by decide) ?_
  refine va_sld hx hb hXs hbl hbA hS (show vp_in 1 6 from vp_in_nI (n := 1) (by decide) (by decide)) dL_law_570 ?_
  refine as_i (xs 1) rfl ?_
  refine lv_aload_n hx hb dL_law_571 rfl (lv_at hl 4 rfl) ?_
  refine lv_iload hx hb dL_law_572 (lv_at hl 0 rfl) ?_
  refine lv_iconst (v := 2) hx hb dL_law_574 (by decide) ?_
  refine lv_iadd hx hb dL_law_575 ?_
  refine as_i 2 (by decide) ?_
  refine va_sld hx hb hXs hbl hbA hS (show vp_in 2 6 from vp_in_nI (n := 2) (by decide) (by decide)) dL_law_576 ?_
  refine as_i (xs 2) rfl ?_
  refine jn_i (wr := []) (rV (As := [.int (xs 1), .int (xs 2)]) (rest := [.int (-1)]) (ci := 12) ⟨hx, hb, hml, hown, hts⟩ (m_cell l dC dI cy _ am mi (xs 1) (xs 2) hM.1) (cw_L_67 hts rfl rfl ⟨Nat.le_of_ble_eq_true rfl, Nat.le_of_ble_eq_true rfl⟩) hP hD hK [114, 116] rfl rfl rfl rfl bl0 e0 rfl hl.1 rfl (Nat.le_of_ble_eq_true rfl) dL_law_577 ⟨Nat.le_of_ble_eq_true rfl, Nat.le_of_ble_eq_true rfl⟩) hP hD hS hA [114, 116] [] rfl rfl rfl (by decide) (fun r_3 u_5 H locs hp_4 hP hD hS => ?_)
  have hp_4 : r_3 = (-1) := hp_4
  have hP : va_P (dC, dI) vwCl [] H := hP
  have hD : va_D (FA s) [] := hD
  refine as_i (-1) hp_4 ?_
  refine lv_icmp_eq (tgt := 1457) hx hb dL_law_580 (by decide) (fun _ => ?_) (fun c9 => absurd (by decide) c9)
  exact law_end C0 hS (lv_sub hl [0, 4] rfl) (by decide) (by decide)
theorem dL_law_585 : decode cL_law 585 = .ok (.aload_n 1, 1) := by decide +kernel
theorem dL_law_586 : decode cL_law 586 = .ok (.aload_n 0, 1) := by decide +kernel
theorem dL_law_587 : decode cL_law 587 = .ok (.iload 4, 2) := by decide +kernel
theorem dL_law_589 : decode cL_law 589 = .ok (.iconst 1, 1) := by decide +kernel
theorem dL_law_590 : decode cL_law 590 = .ok (.iadd, 1) := by decide +kernel
theorem dL_law_591 : decode cL_law 591 = .ok (.iaload, 1) := by decide +kernel
theorem dL_law_592 : decode cL_law 592 = .ok (.aload_n 0, 1) := by decide +kernel
theorem dL_law_593 : decode cL_law 593 = .ok (.iload 4, 2) := by decide +kernel
theorem dL_law_595 : decode cL_law 595 = .ok (.iconst 2, 1) := by decide +kernel
theorem dL_law_596 : decode cL_law 596 = .ok (.iadd, 1) := by decide +kernel
theorem dL_law_597 : decode cL_law 597 = .ok (.iaload, 1) := by decide +kernel
theorem dL_law_598 : decode cL_law 598 = .ok (.invokevirtual 68, 3) := by decide +kernel
theorem t717 : Cond.methodLink RL 68 yX10_kept ∈ GW := gw_mem 831 (by decide +kernel) (by decide +kernel)
theorem t718 : Cond.instanceMethod yX10_kept ∈ GW := gw_mem 832 (by decide +kernel) (by decide +kernel)
theorem t719 : Cond.selects RX10 yX10_kept yX10_kept ∈ GW := gw_mem 833 (by decide +kernel) (by decide +kernel)
theorem cw_L_68 {R : Room} {s : State} {args : Array Value} {rm : Room} {mc ms : Nat} (hts : ∀ w ∈ GW, w.before args s = true) (hrc : rm.cells = mc) (hrs : rm.slots = ms) (hR : rm.frames + 1 ≤ R.frames ∧ 8 + (3 + 11) + rm.locals ≤ R.locals) : CallW R s args RL RX10 68 yX10_kept cX10_kept 3 (some .int) (wl yX10_kept cX10_kept 3 (some .int)) rm mc ms 2 := cwV 2 hts (gi_V t717 t718 t719 t1 t720) rfl hrc hrs (by decide +kernel) hR
theorem dL_law_601 : decode cL_law 601 = .ok (.aload_n 2, 1) := by decide +kernel
theorem dL_law_602 : decode cL_law 602 = .ok (.aload_n 0, 1) := by decide +kernel
theorem dL_law_603 : decode cL_law 603 = .ok (.iload 4, 2) := by decide +kernel
theorem dL_law_605 : decode cL_law 605 = .ok (.iconst 1, 1) := by decide +kernel
theorem dL_law_606 : decode cL_law 606 = .ok (.iadd, 1) := by decide +kernel
theorem dL_law_607 : decode cL_law 607 = .ok (.iaload, 1) := by decide +kernel
theorem dL_law_608 : decode cL_law 608 = .ok (.aload_n 0, 1) := by decide +kernel
theorem dL_law_609 : decode cL_law 609 = .ok (.iload 4, 2) := by decide +kernel
theorem dL_law_611 : decode cL_law 611 = .ok (.iconst 2, 1) := by decide +kernel
theorem dL_law_612 : decode cL_law 612 = .ok (.iadd, 1) := by decide +kernel
theorem dL_law_613 : decode cL_law 613 = .ok (.iaload, 1) := by decide +kernel
theorem dL_law_614 : decode cL_law 614 = .ok (.invokevirtual 71, 3) := by decide +kernel
theorem t1775 : Cond.methodLink RL 71 yX11_kept ∈ GW := gw_mem 1889 (by decide +kernel) (by decide +kernel)
theorem t1776 : Cond.instanceMethod yX11_kept ∈ GW := gw_mem 1890 (by decide +kernel) (by decide +kernel)
theorem t1777 : Cond.selects RX11 yX11_kept yX11_kept ∈ GW := gw_mem 1891 (by decide +kernel) (by decide +kernel)
theorem cw_L_71 {R : Room} {s : State} {args : Array Value} {rm : Room} {mc ms : Nat} (hts : ∀ w ∈ GW, w.before args s = true) (hrc : rm.cells = mc) (hrs : rm.slots = ms) (hR : rm.frames + 1 ≤ R.frames ∧ 8 + (3 + 11) + rm.locals ≤ R.locals) : CallW R s args RL RX11 71 yX11_kept cX11_kept 3 (some .int) (wl yX11_kept cX11_kept 3 (some .int)) rm mc ms 2 := cwV 2 hts (gi_V t1775 t1776 t1777 t18 t1778) rfl hrc hrs (by decide +kernel) hR
theorem dL_law_617 : decode cL_law 617 = .ok (.if_icmp .eq 840, 3) := by decide +kernel
set_option maxHeartbeats 4000000 in
set_option maxRecDepth 100000 in
theorem lc_10 {p : Program} {l : Launch} {e : Env} {s : State} {m : MethodId} {below : List Frame} {meth : Method} {c : Code} {b : Nat} {xs : Nat → Int32} (hl0 : l.stackTraces = false) (C0 : lw_At p s m meth c b 6 xs) (dC : Nat → ClassId) (dI : Nat → Nat → Nat) (cy : Nat → ClassId) (ad : Nat → Nat) (ai : Nat → Nat → Int32) (al : Nat → Nat → Int64) (aq : Nat → Nat → Option Nat) (am : Nat → Nat) (mi : Nat → Nat → Int32) (ml : Nat → Nat → Int64) (qo : Nat) (hX : OkX ad ai aq) (hM : OkM mi) (hEX : EnvX (FA s) s) (hK : va_K (dC, dI) vwCl (TY cy) s) {H : Heap} {locs : List Loc} (hP : va_P (dC, dI) vwCl (FX cy ad ai al aq ++ FM cy am mi ml) H) (hD : va_D (FA s) (FX cy ad ai al aq ++ FM cy am mi ml)) (hS : va_S (FA s) s.heap H locs) {ls : Array Slot} (hl : lv_has ls 7 [(4, .int 0), (3, .ref qo), (2, .ref (am 0)), (1, .ref (ad 0)), (0, .ref b)]) : W p l e room_1 s m #[Value.ref b] below meth c H locs 237 23836 (lw_Z below #[Value.ref b] s) (F0 m 585 ls []) := by
  obtain ⟨hx, hb, hr, hml, hown, htsL, hXs, hbl, hlocks, hgv⟩ := id C0
  have hown : s.vm.findClass RL = some m.cls := hown
  have hts : ∀ w ∈ GW, w.before #[Value.ref b] s = true := fun w hw => htsL w (List.mem_filter.mp hw).1
  have hA : ∀ q : Nat, s.heap.size ≤ q → FA s q := fun _ h => h
  have hbA : ¬ FA s b := Nat.not_le.mpr hbl
  refine lv_aload_n hx hb dL_law_585 rfl (lv_at hl 3 rfl) ?_
  refine lv_aload_n hx hb dL_law_586 rfl (lv_at hl 4 rfl) ?_
  refine lv_iload hx hb dL_law_587 (lv_at hl 0 rfl) ?_
  refine lv_iconst (v := 1) hx hb dL_law_589 (by decide) ?_
  refine lv_iadd hx hb dL_law_590 ?_
  refine as_i 1 (by decide) ?_
  refine va_sld hx hb hXs hbl hbA hS (show vp_in 1 6 from vp_in_nI (n := 1) (by decide) (by decide)) dL_law_591 ?_
  refine as_i (xs 1) rfl ?_
  refine lv_aload_n hx hb dL_law_592 rfl (lv_at hl 4 rfl) ?_
  refine lv_iload hx hb dL_law_593 (lv_at hl 0 rfl) ?_
  refine lv_iconst (v := 2) hx hb dL_law_595 (by decide) ?_
  refine lv_iadd hx hb dL_law_596 ?_
  refine as_i 2 (by decide) ?_
  refine va_sld hx hb hXs hbl hbA hS (show vp_in 2 6 from vp_in_nI (n := 2) (by decide) (by decide)) dL_law_597 ?_
  refine as_i (xs 2) rfl ?_
  refine jr_i (rVr (As := [.int (xs 1), .int (xs 2)]) (rest := []) (ci := 11) ⟨hx, hb, hml, hown, hts⟩ (k_kept l dC dI cy ad (xs 1) (xs 2) ) (cw_L_68 hts rfl rfl ⟨Nat.le_of_ble_eq_true rfl, Nat.le_of_ble_eq_true rfl⟩) hP hK [0, 22, 23] rfl rfl rfl rfl hl.1 rfl (Nat.le_of_ble_eq_true rfl) dL_law_598 ⟨Nat.le_of_ble_eq_true rfl, Nat.le_of_ble_eq_true rfl⟩) hP hS (fun r_1 H locs hp_2 hP hS => ?_)
  refine as_i (-1) hp_2 ?_
  refine lv_aload_n hx hb dL_law_601 rfl (lv_at hl 2 rfl) ?_
  refine lv_aload_n hx hb dL_law_602 rfl (lv_at hl 4 rfl) ?_
  refine lv_iload hx hb dL_law_603 (lv_at hl 0 rfl) ?_
  refine lv_iconst (v := 1) hx hb dL_law_605 (by decide) ?_
  refine lv_iadd hx hb dL_law_606 ?_
  refine as_i 1 (by decide) ?_
  refine va_sld hx hb hXs hbl hbA hS (show vp_in 1 6 from vp_in_nI (n := 1) (by decide) (by decide)) dL_law_607 ?_
  refine as_i (xs 1) rfl ?_
  refine lv_aload_n hx hb dL_law_608 rfl (lv_at hl 4 rfl) ?_
  refine lv_iload hx hb dL_law_609 (lv_at hl 0 rfl) ?_
  refine lv_iconst (v := 2) hx hb dL_law_611 (by decide) ?_
  refine lv_iadd hx hb dL_law_612 ?_
  refine as_i 2 (by decide) ?_
  refine va_sld hx hb hXs hbl hbA hS (show vp_in 2 6 from vp_in_nI (n := 2) (by decide) (by decide)) dL_law_613 ?_
  refine as_i (xs 2) rfl ?_
  refine jn_i (wr := []) (rV (As := [.int (xs 1), .int (xs 2)]) (rest := [.int (-1)]) (ci := 12) ⟨hx, hb, hml, hown, hts⟩ (m_kept l dC dI cy _ am mi (xs 1) (xs 2) hM.1) (cw_L_71 hts rfl rfl ⟨Nat.le_of_ble_eq_true rfl, Nat.le_of_ble_eq_true rfl⟩) hP hD hK [114, 116] rfl rfl rfl rfl bl0 e0 rfl hl.1 rfl (Nat.le_of_ble_eq_true rfl) dL_law_614 ⟨Nat.le_of_ble_eq_true rfl, Nat.le_of_ble_eq_true rfl⟩) hP hD hS hA [114, 116] [] rfl rfl rfl (by decide) (fun r_3 u_5 H locs hp_4 hP hD hS => ?_)
  have hp_4 : r_3 = (-1) := hp_4
  have hP : va_P (dC, dI) vwCl [] H := hP
  have hD : va_D (FA s) [] := hD
  refine as_i (-1) hp_4 ?_
  refine lv_icmp_eq (tgt := 1457) hx hb dL_law_617 (by decide) (fun _ => ?_) (fun c9 => absurd (by decide) c9)
  exact law_end C0 hS (lv_sub hl [0, 4] rfl) (by decide) (by decide)
theorem dL_law_622 : decode cL_law 622 = .ok (.aload_n 1, 1) := by decide +kernel
theorem dL_law_623 : decode cL_law 623 = .ok (.aload_n 0, 1) := by decide +kernel
theorem dL_law_624 : decode cL_law 624 = .ok (.iload 4, 2) := by decide +kernel
theorem dL_law_626 : decode cL_law 626 = .ok (.iconst 1, 1) := by decide +kernel
theorem dL_law_627 : decode cL_law 627 = .ok (.iadd, 1) := by decide +kernel
theorem dL_law_628 : decode cL_law 628 = .ok (.iaload, 1) := by decide +kernel
theorem dL_law_629 : decode cL_law 629 = .ok (.invokevirtual 72, 3) := by decide +kernel
theorem t721 : Cond.methodLink RL 72 yX10_now ∈ GW := gw_mem 835 (by decide +kernel) (by decide +kernel)
theorem t722 : Cond.instanceMethod yX10_now ∈ GW := gw_mem 836 (by decide +kernel) (by decide +kernel)
theorem t723 : Cond.selects RX10 yX10_now yX10_now ∈ GW := gw_mem 837 (by decide +kernel) (by decide +kernel)
theorem cw_L_72 {R : Room} {s : State} {args : Array Value} {rm : Room} {mc ms : Nat} (hts : ∀ w ∈ GW, w.before args s = true) (hrc : rm.cells = mc) (hrs : rm.slots = ms) (hR : rm.frames + 1 ≤ R.frames ∧ 8 + (2 + 11) + rm.locals ≤ R.locals) : CallW R s args RL RX10 72 yX10_now cX10_now 2 (some .int) (wl yX10_now cX10_now 2 (some .int)) rm mc ms 1 := cwV 1 hts (gi_V t721 t722 t723 t1 t724) rfl hrc hrs (by decide +kernel) hR
theorem dL_law_632 : decode cL_law 632 = .ok (.aload_n 2, 1) := by decide +kernel
theorem dL_law_633 : decode cL_law 633 = .ok (.aload_n 0, 1) := by decide +kernel
theorem dL_law_634 : decode cL_law 634 = .ok (.iload 4, 2) := by decide +kernel
theorem dL_law_636 : decode cL_law 636 = .ok (.iconst 1, 1) := by decide +kernel
theorem dL_law_637 : decode cL_law 637 = .ok (.iadd, 1) := by decide +kernel
theorem dL_law_638 : decode cL_law 638 = .ok (.iaload, 1) := by decide +kernel
theorem dL_law_639 : decode cL_law 639 = .ok (.invokevirtual 75, 3) := by decide +kernel
theorem t1779 : Cond.methodLink RL 75 yX11_now ∈ GW := gw_mem 1893 (by decide +kernel) (by decide +kernel)
theorem t1780 : Cond.instanceMethod yX11_now ∈ GW := gw_mem 1894 (by decide +kernel) (by decide +kernel)
theorem t1781 : Cond.selects RX11 yX11_now yX11_now ∈ GW := gw_mem 1895 (by decide +kernel) (by decide +kernel)
theorem cw_L_75 {R : Room} {s : State} {args : Array Value} {rm : Room} {mc ms : Nat} (hts : ∀ w ∈ GW, w.before args s = true) (hrc : rm.cells = mc) (hrs : rm.slots = ms) (hR : rm.frames + 1 ≤ R.frames ∧ 8 + (4 + 11) + rm.locals ≤ R.locals) : CallW R s args RL RX11 75 yX11_now cX11_now 4 (some .int) (wl yX11_now cX11_now 4 (some .int)) rm mc ms 1 := cwV 1 hts (gi_V t1779 t1780 t1781 t18 t1782) rfl hrc hrs (by decide +kernel) hR
theorem dL_law_642 : decode cL_law 642 = .ok (.if_icmp .eq 815, 3) := by decide +kernel
set_option maxHeartbeats 4000000 in
set_option maxRecDepth 100000 in
theorem lc_11 {p : Program} {l : Launch} {e : Env} {s : State} {m : MethodId} {below : List Frame} {meth : Method} {c : Code} {b : Nat} {xs : Nat → Int32} (hl0 : l.stackTraces = false) (C0 : lw_At p s m meth c b 6 xs) (dC : Nat → ClassId) (dI : Nat → Nat → Nat) (cy : Nat → ClassId) (ad : Nat → Nat) (ai : Nat → Nat → Int32) (al : Nat → Nat → Int64) (aq : Nat → Nat → Option Nat) (am : Nat → Nat) (mi : Nat → Nat → Int32) (ml : Nat → Nat → Int64) (qo : Nat) (hX : OkX ad ai aq) (hM : OkM mi) (hEX : EnvX (FA s) s) (hK : va_K (dC, dI) vwCl (TY cy) s) {H : Heap} {locs : List Loc} (hP : va_P (dC, dI) vwCl (FX cy ad ai al aq ++ FM cy am mi ml) H) (hD : va_D (FA s) (FX cy ad ai al aq ++ FM cy am mi ml)) (hS : va_S (FA s) s.heap H locs) {ls : Array Slot} (hl : lv_has ls 7 [(4, .int 0), (3, .ref qo), (2, .ref (am 0)), (1, .ref (ad 0)), (0, .ref b)]) : W p l e room_1 s m #[Value.ref b] below meth c H locs 237 23836 (lw_Z below #[Value.ref b] s) (F0 m 622 ls []) := by
  obtain ⟨hx, hb, hr, hml, hown, htsL, hXs, hbl, hlocks, hgv⟩ := id C0
  have hown : s.vm.findClass RL = some m.cls := hown
  have hts : ∀ w ∈ GW, w.before #[Value.ref b] s = true := fun w hw => htsL w (List.mem_filter.mp hw).1
  have hA : ∀ q : Nat, s.heap.size ≤ q → FA s q := fun _ h => h
  have hbA : ¬ FA s b := Nat.not_le.mpr hbl
  refine lv_aload_n hx hb dL_law_622 rfl (lv_at hl 3 rfl) ?_
  refine lv_aload_n hx hb dL_law_623 rfl (lv_at hl 4 rfl) ?_
  refine lv_iload hx hb dL_law_624 (lv_at hl 0 rfl) ?_
  refine lv_iconst (v := 1) hx hb dL_law_626 (by decide) ?_
  refine lv_iadd hx hb dL_law_627 ?_
  refine as_i 1 (by decide) ?_
  refine va_sld hx hb hXs hbl hbA hS (show vp_in 1 6 from vp_in_nI (n := 1) (by decide) (by decide)) dL_law_628 ?_
  refine as_i (xs 1) rfl ?_
  refine jr_i (rVr (As := [.int (xs 1)]) (rest := []) (ci := 11) ⟨hx, hb, hml, hown, hts⟩ (k_now l dC dI cy ad ai (xs 1) hX.1) (cw_L_72 hts rfl rfl ⟨Nat.le_of_ble_eq_true rfl, Nat.le_of_ble_eq_true rfl⟩) hP hK [0, 22, 23, 29, 35] rfl rfl rfl rfl hl.1 rfl (Nat.le_of_ble_eq_true rfl) dL_law_629 ⟨Nat.le_of_ble_eq_true rfl, Nat.le_of_ble_eq_true rfl⟩) hP hS (fun r_1 H locs hp_2 hP hS => ?_)
  refine as_i (nowF (xs 1)) hp_2 ?_
  refine lv_aload_n hx hb dL_law_632 rfl (lv_at hl 2 rfl) ?_
  refine lv_aload_n hx hb dL_law_633 rfl (lv_at hl 4 rfl) ?_
  refine lv_iload hx hb dL_law_634 (lv_at hl 0 rfl) ?_
  refine lv_iconst (v := 1) hx hb dL_law_636 (by decide) ?_
  refine lv_iadd hx hb dL_law_637 ?_
  refine as_i 1 (by decide) ?_
  refine va_sld hx hb hXs hbl hbA hS (show vp_in 1 6 from vp_in_nI (n := 1) (by decide) (by decide)) dL_law_638 ?_
  refine as_i (xs 1) rfl ?_
  refine jn_i (wr := []) (rV (As := [.int (xs 1)]) (rest := [.int (nowF (xs 1))]) (ci := 12) ⟨hx, hb, hml, hown, hts⟩ (m_now l dC dI cy _ am mi (xs 1) hM.1) (cw_L_75 hts rfl rfl ⟨Nat.le_of_ble_eq_true rfl, Nat.le_of_ble_eq_true rfl⟩) hP hD hK [114, 116] rfl rfl rfl rfl bl0 e0 rfl hl.1 rfl (Nat.le_of_ble_eq_true rfl) dL_law_639 ⟨Nat.le_of_ble_eq_true rfl, Nat.le_of_ble_eq_true rfl⟩) hP hD hS hA [114, 116] [] rfl rfl rfl (by decide) (fun r_3 u_5 H locs hp_4 hP hD hS => ?_)
  have hp_4 : r_3 = nowF (xs 1) := hp_4
  have hP : va_P (dC, dI) vwCl [] H := hP
  have hD : va_D (FA s) [] := hD
  refine as_i (nowF (xs 1)) hp_4 ?_
  refine lv_icmp_eq (tgt := 1457) hx hb dL_law_642 (by decide) (fun _ => ?_) (fun c9 => absurd rfl c9)
  exact law_end C0 hS (lv_sub hl [0, 4] rfl) (by decide) (by decide)
theorem dL_law_647 : decode cL_law 647 = .ok (.aload_n 1, 1) := by decide +kernel
theorem dL_law_648 : decode cL_law 648 = .ok (.aload_n 0, 1) := by decide +kernel
theorem dL_law_649 : decode cL_law 649 = .ok (.iload 4, 2) := by decide +kernel
theorem dL_law_651 : decode cL_law 651 = .ok (.iconst 1, 1) := by decide +kernel
theorem dL_law_652 : decode cL_law 652 = .ok (.iadd, 1) := by decide +kernel
theorem dL_law_653 : decode cL_law 653 = .ok (.iaload, 1) := by decide +kernel
theorem dL_law_654 : decode cL_law 654 = .ok (.aload_n 0, 1) := by decide +kernel
theorem dL_law_655 : decode cL_law 655 = .ok (.iload 4, 2) := by decide +kernel
theorem dL_law_657 : decode cL_law 657 = .ok (.iconst 2, 1) := by decide +kernel
theorem dL_law_658 : decode cL_law 658 = .ok (.iadd, 1) := by decide +kernel
theorem dL_law_659 : decode cL_law 659 = .ok (.iaload, 1) := by decide +kernel
theorem dL_law_660 : decode cL_law 660 = .ok (.invokevirtual 76, 3) := by decide +kernel
theorem t755 : Cond.methodLink RL 76 yX10_act ∈ GW := gw_mem 869 (by decide +kernel) (by decide +kernel)
theorem t756 : Cond.instanceMethod yX10_act ∈ GW := gw_mem 870 (by decide +kernel) (by decide +kernel)
theorem t757 : Cond.selects RX10 yX10_act yX10_act ∈ GW := gw_mem 871 (by decide +kernel) (by decide +kernel)
theorem cw_L_76 {R : Room} {s : State} {args : Array Value} {rm : Room} {mc ms : Nat} (hts : ∀ w ∈ GW, w.before args s = true) (hrc : rm.cells = mc) (hrs : rm.slots = ms) (hR : rm.frames + 1 ≤ R.frames ∧ 8 + (3 + 11) + rm.locals ≤ R.locals) : CallW R s args RL RX10 76 yX10_act cX10_act 3 (some .int) (wl yX10_act cX10_act 3 (some .int)) rm mc ms 2 := cwV 2 hts (gi_V t755 t756 t757 t1 t758) rfl hrc hrs (by decide +kernel) hR
theorem dL_law_663 : decode cL_law 663 = .ok (.aload_n 2, 1) := by decide +kernel
theorem dL_law_664 : decode cL_law 664 = .ok (.aload_n 0, 1) := by decide +kernel
theorem dL_law_665 : decode cL_law 665 = .ok (.iload 4, 2) := by decide +kernel
theorem dL_law_667 : decode cL_law 667 = .ok (.iconst 1, 1) := by decide +kernel
theorem dL_law_668 : decode cL_law 668 = .ok (.iadd, 1) := by decide +kernel
theorem dL_law_669 : decode cL_law 669 = .ok (.iaload, 1) := by decide +kernel
theorem dL_law_670 : decode cL_law 670 = .ok (.aload_n 0, 1) := by decide +kernel
theorem dL_law_671 : decode cL_law 671 = .ok (.iload 4, 2) := by decide +kernel
theorem dL_law_673 : decode cL_law 673 = .ok (.iconst 2, 1) := by decide +kernel
theorem dL_law_674 : decode cL_law 674 = .ok (.iadd, 1) := by decide +kernel
theorem dL_law_675 : decode cL_law 675 = .ok (.iaload, 1) := by decide +kernel
theorem dL_law_676 : decode cL_law 676 = .ok (.invokevirtual 79, 3) := by decide +kernel
theorem t1791 : Cond.methodLink RL 79 yX11_act ∈ GW := gw_mem 1905 (by decide +kernel) (by decide +kernel)
theorem t1792 : Cond.instanceMethod yX11_act ∈ GW := gw_mem 1906 (by decide +kernel) (by decide +kernel)
theorem t1793 : Cond.selects RX11 yX11_act yX11_act ∈ GW := gw_mem 1907 (by decide +kernel) (by decide +kernel)
theorem cw_L_79 {R : Room} {s : State} {args : Array Value} {rm : Room} {mc ms : Nat} (hts : ∀ w ∈ GW, w.before args s = true) (hrc : rm.cells = mc) (hrs : rm.slots = ms) (hR : rm.frames + 1 ≤ R.frames ∧ 8 + (3 + 11) + rm.locals ≤ R.locals) : CallW R s args RL RX11 79 yX11_act cX11_act 3 (some .int) (wl yX11_act cX11_act 3 (some .int)) rm mc ms 2 := cwV 2 hts (gi_V t1791 t1792 t1793 t18 t1794) rfl hrc hrs (by decide +kernel) hR
theorem dL_law_679 : decode cL_law 679 = .ok (.if_icmp .eq 778, 3) := by decide +kernel
set_option maxHeartbeats 4000000 in
set_option maxRecDepth 100000 in
theorem lc_12 {p : Program} {l : Launch} {e : Env} {s : State} {m : MethodId} {below : List Frame} {meth : Method} {c : Code} {b : Nat} {xs : Nat → Int32} (hl0 : l.stackTraces = false) (C0 : lw_At p s m meth c b 6 xs) (dC : Nat → ClassId) (dI : Nat → Nat → Nat) (cy : Nat → ClassId) (ad : Nat → Nat) (ai : Nat → Nat → Int32) (al : Nat → Nat → Int64) (aq : Nat → Nat → Option Nat) (am : Nat → Nat) (mi : Nat → Nat → Int32) (ml : Nat → Nat → Int64) (qo : Nat) (hX : OkX ad ai aq) (hM : OkM mi) (hEX : EnvX (FA s) s) (hK : va_K (dC, dI) vwCl (TY cy) s) {H : Heap} {locs : List Loc} (hP : va_P (dC, dI) vwCl (FX cy ad ai al aq ++ FM cy am mi ml) H) (hD : va_D (FA s) (FX cy ad ai al aq ++ FM cy am mi ml)) (hS : va_S (FA s) s.heap H locs) {ls : Array Slot} (hl : lv_has ls 7 [(4, .int 0), (3, .ref qo), (2, .ref (am 0)), (1, .ref (ad 0)), (0, .ref b)]) : W p l e room_1 s m #[Value.ref b] below meth c H locs 237 23836 (lw_Z below #[Value.ref b] s) (F0 m 647 ls []) := by
  obtain ⟨hx, hb, hr, hml, hown, htsL, hXs, hbl, hlocks, hgv⟩ := id C0
  have hown : s.vm.findClass RL = some m.cls := hown
  have hts : ∀ w ∈ GW, w.before #[Value.ref b] s = true := fun w hw => htsL w (List.mem_filter.mp hw).1
  have hA : ∀ q : Nat, s.heap.size ≤ q → FA s q := fun _ h => h
  have hbA : ¬ FA s b := Nat.not_le.mpr hbl
  refine lv_aload_n hx hb dL_law_647 rfl (lv_at hl 3 rfl) ?_
  refine lv_aload_n hx hb dL_law_648 rfl (lv_at hl 4 rfl) ?_
  refine lv_iload hx hb dL_law_649 (lv_at hl 0 rfl) ?_
  refine lv_iconst (v := 1) hx hb dL_law_651 (by decide) ?_
  refine lv_iadd hx hb dL_law_652 ?_
  refine as_i 1 (by decide) ?_
  refine va_sld hx hb hXs hbl hbA hS (show vp_in 1 6 from vp_in_nI (n := 1) (by decide) (by decide)) dL_law_653 ?_
  refine as_i (xs 1) rfl ?_
  refine lv_aload_n hx hb dL_law_654 rfl (lv_at hl 4 rfl) ?_
  refine lv_iload hx hb dL_law_655 (lv_at hl 0 rfl) ?_
  refine lv_iconst (v := 2) hx hb dL_law_657 (by decide) ?_
  refine lv_iadd hx hb dL_law_658 ?_
  refine as_i 2 (by decide) ?_
  refine va_sld hx hb hXs hbl hbA hS (show vp_in 2 6 from vp_in_nI (n := 2) (by decide) (by decide)) dL_law_659 ?_
  refine as_i (xs 2) rfl ?_
  refine jr_i (rVr (As := [.int (xs 1), .int (xs 2)]) (rest := []) (ci := 11) ⟨hx, hb, hml, hown, hts⟩ (k_act l dC dI cy ad (xs 1) (xs 2) ) (cw_L_76 hts rfl rfl ⟨Nat.le_of_ble_eq_true rfl, Nat.le_of_ble_eq_true rfl⟩) hP hK [0, 22, 23] rfl rfl rfl rfl hl.1 rfl (Nat.le_of_ble_eq_true rfl) dL_law_660 ⟨Nat.le_of_ble_eq_true rfl, Nat.le_of_ble_eq_true rfl⟩) hP hS (fun r_1 H locs hp_2 hP hS => ?_)
  refine as_i (-1) hp_2 ?_
  refine lv_aload_n hx hb dL_law_663 rfl (lv_at hl 2 rfl) ?_
  refine lv_aload_n hx hb dL_law_664 rfl (lv_at hl 4 rfl) ?_
  refine lv_iload hx hb dL_law_665 (lv_at hl 0 rfl) ?_
  refine lv_iconst (v := 1) hx hb dL_law_667 (by decide) ?_
  refine lv_iadd hx hb dL_law_668 ?_
  refine as_i 1 (by decide) ?_
  refine va_sld hx hb hXs hbl hbA hS (show vp_in 1 6 from vp_in_nI (n := 1) (by decide) (by decide)) dL_law_669 ?_
  refine as_i (xs 1) rfl ?_
  refine lv_aload_n hx hb dL_law_670 rfl (lv_at hl 4 rfl) ?_
  refine lv_iload hx hb dL_law_671 (lv_at hl 0 rfl) ?_
  refine lv_iconst (v := 2) hx hb dL_law_673 (by decide) ?_
  refine lv_iadd hx hb dL_law_674 ?_
  refine as_i 2 (by decide) ?_
  refine va_sld hx hb hXs hbl hbA hS (show vp_in 2 6 from vp_in_nI (n := 2) (by decide) (by decide)) dL_law_675 ?_
  refine as_i (xs 2) rfl ?_
  refine jn_i (wr := []) (rV (As := [.int (xs 1), .int (xs 2)]) (rest := [.int (-1)]) (ci := 12) ⟨hx, hb, hml, hown, hts⟩ (m_act l dC dI cy _ am mi (xs 1) (xs 2) hM.1) (cw_L_79 hts rfl rfl ⟨Nat.le_of_ble_eq_true rfl, Nat.le_of_ble_eq_true rfl⟩) hP hD hK [114, 116] rfl rfl rfl rfl bl0 e0 rfl hl.1 rfl (Nat.le_of_ble_eq_true rfl) dL_law_676 ⟨Nat.le_of_ble_eq_true rfl, Nat.le_of_ble_eq_true rfl⟩) hP hD hS hA [114, 116] [] rfl rfl rfl (by decide) (fun r_3 u_5 H locs hp_4 hP hD hS => ?_)
  have hp_4 : r_3 = (-1) := hp_4
  have hP : va_P (dC, dI) vwCl [] H := hP
  have hD : va_D (FA s) [] := hD
  refine as_i (-1) hp_4 ?_
  refine lv_icmp_eq (tgt := 1457) hx hb dL_law_679 (by decide) (fun _ => ?_) (fun c9 => absurd (by decide) c9)
  exact law_end C0 hS (lv_sub hl [0, 4] rfl) (by decide) (by decide)
theorem dL_law_684 : decode cL_law 684 = .ok (.aload_n 1, 1) := by decide +kernel
theorem dL_law_685 : decode cL_law 685 = .ok (.aload_n 0, 1) := by decide +kernel
theorem dL_law_686 : decode cL_law 686 = .ok (.iload 4, 2) := by decide +kernel
theorem dL_law_688 : decode cL_law 688 = .ok (.iconst 1, 1) := by decide +kernel
theorem dL_law_689 : decode cL_law 689 = .ok (.iadd, 1) := by decide +kernel
theorem dL_law_690 : decode cL_law 690 = .ok (.iaload, 1) := by decide +kernel
theorem dL_law_691 : decode cL_law 691 = .ok (.aload_n 0, 1) := by decide +kernel
theorem dL_law_692 : decode cL_law 692 = .ok (.iload 4, 2) := by decide +kernel
theorem dL_law_694 : decode cL_law 694 = .ok (.iconst 2, 1) := by decide +kernel
theorem dL_law_695 : decode cL_law 695 = .ok (.iadd, 1) := by decide +kernel
theorem dL_law_696 : decode cL_law 696 = .ok (.iaload, 1) := by decide +kernel
theorem dL_law_697 : decode cL_law 697 = .ok (.aload_n 0, 1) := by decide +kernel
theorem dL_law_698 : decode cL_law 698 = .ok (.iload 4, 2) := by decide +kernel
theorem dL_law_700 : decode cL_law 700 = .ok (.iconst 3, 1) := by decide +kernel
theorem dL_law_701 : decode cL_law 701 = .ok (.iadd, 1) := by decide +kernel
theorem dL_law_702 : decode cL_law 702 = .ok (.iaload, 1) := by decide +kernel
theorem dL_law_703 : decode cL_law 703 = .ok (.invokevirtual 80, 3) := by decide +kernel
theorem t785 : Cond.methodLink RL 80 yX10_lend ∈ GW := gw_mem 899 (by decide +kernel) (by decide +kernel)
theorem t786 : Cond.instanceMethod yX10_lend ∈ GW := gw_mem 900 (by decide +kernel) (by decide +kernel)
theorem t787 : Cond.selects RX10 yX10_lend yX10_lend ∈ GW := gw_mem 901 (by decide +kernel) (by decide +kernel)
theorem cw_L_80 {R : Room} {s : State} {args : Array Value} {rm : Room} {mc ms : Nat} (hts : ∀ w ∈ GW, w.before args s = true) (hrc : rm.cells = mc) (hrs : rm.slots = ms) (hR : rm.frames + 1 ≤ R.frames ∧ 8 + (4 + 11) + rm.locals ≤ R.locals) : CallW R s args RL RX10 80 yX10_lend cX10_lend 4 (some .int) (wl yX10_lend cX10_lend 4 (some .int)) rm mc ms 3 := cwV 3 hts (gi_V t785 t786 t787 t1 t788) rfl hrc hrs (by decide +kernel) hR
theorem dL_law_706 : decode cL_law 706 = .ok (.aload_n 2, 1) := by decide +kernel
theorem dL_law_707 : decode cL_law 707 = .ok (.aload_n 0, 1) := by decide +kernel
theorem dL_law_708 : decode cL_law 708 = .ok (.iload 4, 2) := by decide +kernel
theorem dL_law_710 : decode cL_law 710 = .ok (.iconst 1, 1) := by decide +kernel
theorem dL_law_711 : decode cL_law 711 = .ok (.iadd, 1) := by decide +kernel
theorem dL_law_712 : decode cL_law 712 = .ok (.iaload, 1) := by decide +kernel
theorem dL_law_713 : decode cL_law 713 = .ok (.aload_n 0, 1) := by decide +kernel
theorem dL_law_714 : decode cL_law 714 = .ok (.iload 4, 2) := by decide +kernel
theorem dL_law_716 : decode cL_law 716 = .ok (.iconst 2, 1) := by decide +kernel
theorem dL_law_717 : decode cL_law 717 = .ok (.iadd, 1) := by decide +kernel
theorem dL_law_718 : decode cL_law 718 = .ok (.iaload, 1) := by decide +kernel
theorem dL_law_719 : decode cL_law 719 = .ok (.aload_n 0, 1) := by decide +kernel
theorem dL_law_720 : decode cL_law 720 = .ok (.iload 4, 2) := by decide +kernel
theorem dL_law_722 : decode cL_law 722 = .ok (.iconst 3, 1) := by decide +kernel
theorem dL_law_723 : decode cL_law 723 = .ok (.iadd, 1) := by decide +kernel
theorem dL_law_724 : decode cL_law 724 = .ok (.iaload, 1) := by decide +kernel
theorem dL_law_725 : decode cL_law 725 = .ok (.invokevirtual 84, 3) := by decide +kernel
theorem t1819 : Cond.methodLink RL 84 yX11_lend ∈ GW := gw_mem 1933 (by decide +kernel) (by decide +kernel)
theorem t1820 : Cond.instanceMethod yX11_lend ∈ GW := gw_mem 1934 (by decide +kernel) (by decide +kernel)
theorem t1821 : Cond.selects RX11 yX11_lend yX11_lend ∈ GW := gw_mem 1935 (by decide +kernel) (by decide +kernel)
theorem cw_L_84 {R : Room} {s : State} {args : Array Value} {rm : Room} {mc ms : Nat} (hts : ∀ w ∈ GW, w.before args s = true) (hrc : rm.cells = mc) (hrs : rm.slots = ms) (hR : rm.frames + 1 ≤ R.frames ∧ 8 + (4 + 11) + rm.locals ≤ R.locals) : CallW R s args RL RX11 84 yX11_lend cX11_lend 4 (some .int) (wl yX11_lend cX11_lend 4 (some .int)) rm mc ms 3 := cwV 3 hts (gi_V t1819 t1820 t1821 t18 t1822) rfl hrc hrs (by decide +kernel) hR
theorem dL_law_728 : decode cL_law 728 = .ok (.if_icmp .eq 729, 3) := by decide +kernel
set_option maxHeartbeats 4000000 in
set_option maxRecDepth 100000 in
theorem lc_13 {p : Program} {l : Launch} {e : Env} {s : State} {m : MethodId} {below : List Frame} {meth : Method} {c : Code} {b : Nat} {xs : Nat → Int32} (hl0 : l.stackTraces = false) (C0 : lw_At p s m meth c b 6 xs) (dC : Nat → ClassId) (dI : Nat → Nat → Nat) (cy : Nat → ClassId) (ad : Nat → Nat) (ai : Nat → Nat → Int32) (al : Nat → Nat → Int64) (aq : Nat → Nat → Option Nat) (am : Nat → Nat) (mi : Nat → Nat → Int32) (ml : Nat → Nat → Int64) (qo : Nat) (hX : OkX ad ai aq) (hM : OkM mi) (hEX : EnvX (FA s) s) (hK : va_K (dC, dI) vwCl (TY cy) s) {H : Heap} {locs : List Loc} (hP : va_P (dC, dI) vwCl (FX cy ad ai al aq ++ FM cy am mi ml) H) (hD : va_D (FA s) (FX cy ad ai al aq ++ FM cy am mi ml)) (hS : va_S (FA s) s.heap H locs) {ls : Array Slot} (hl : lv_has ls 7 [(4, .int 0), (3, .ref qo), (2, .ref (am 0)), (1, .ref (ad 0)), (0, .ref b)]) : W p l e room_1 s m #[Value.ref b] below meth c H locs 237 23836 (lw_Z below #[Value.ref b] s) (F0 m 684 ls []) := by
  obtain ⟨hx, hb, hr, hml, hown, htsL, hXs, hbl, hlocks, hgv⟩ := id C0
  have hown : s.vm.findClass RL = some m.cls := hown
  have hts : ∀ w ∈ GW, w.before #[Value.ref b] s = true := fun w hw => htsL w (List.mem_filter.mp hw).1
  have hA : ∀ q : Nat, s.heap.size ≤ q → FA s q := fun _ h => h
  have hbA : ¬ FA s b := Nat.not_le.mpr hbl
  refine lv_aload_n hx hb dL_law_684 rfl (lv_at hl 3 rfl) ?_
  refine lv_aload_n hx hb dL_law_685 rfl (lv_at hl 4 rfl) ?_
  refine lv_iload hx hb dL_law_686 (lv_at hl 0 rfl) ?_
  refine lv_iconst (v := 1) hx hb dL_law_688 (by decide) ?_
  refine lv_iadd hx hb dL_law_689 ?_
  refine as_i 1 (by decide) ?_
  refine va_sld hx hb hXs hbl hbA hS (show vp_in 1 6 from vp_in_nI (n := 1) (by decide) (by decide)) dL_law_690 ?_
  refine as_i (xs 1) rfl ?_
  refine lv_aload_n hx hb dL_law_691 rfl (lv_at hl 4 rfl) ?_
  refine lv_iload hx hb dL_law_692 (lv_at hl 0 rfl) ?_
  refine lv_iconst (v := 2) hx hb dL_law_694 (by decide) ?_
  refine lv_iadd hx hb dL_law_695 ?_
  refine as_i 2 (by decide) ?_
  refine va_sld hx hb hXs hbl hbA hS (show vp_in 2 6 from vp_in_nI (n := 2) (by decide) (by decide)) dL_law_696 ?_
  refine as_i (xs 2) rfl ?_
  refine lv_aload_n hx hb dL_law_697 rfl (lv_at hl 4 rfl) ?_
  refine lv_iload hx hb dL_law_698 (lv_at hl 0 rfl) ?_
  refine lv_iconst (v := 3) hx hb dL_law_700 (by decide) ?_
  refine lv_iadd hx hb dL_law_701 ?_
  refine as_i 3 (by decide) ?_
  refine va_sld hx hb hXs hbl hbA hS (show vp_in 3 6 from vp_in_nI (n := 3) (by decide) (by decide)) dL_law_702 ?_
  refine as_i (xs 3) rfl ?_
  refine jr_i (rVr (As := [.int (xs 1), .int (xs 2), .int (xs 3)]) (rest := []) (ci := 11) ⟨hx, hb, hml, hown, hts⟩ (k_lend l dC dI cy ad (xs 1) (xs 2) (xs 3) ) (cw_L_80 hts rfl rfl ⟨Nat.le_of_ble_eq_true rfl, Nat.le_of_ble_eq_true rfl⟩) hP hK [0, 22, 23] rfl rfl rfl rfl hl.1 rfl (Nat.le_of_ble_eq_true rfl) dL_law_703 ⟨Nat.le_of_ble_eq_true rfl, Nat.le_of_ble_eq_true rfl⟩) hP hS (fun r_1 H locs hp_2 hP hS => ?_)
  refine as_i (-1) hp_2 ?_
  refine lv_aload_n hx hb dL_law_706 rfl (lv_at hl 2 rfl) ?_
  refine lv_aload_n hx hb dL_law_707 rfl (lv_at hl 4 rfl) ?_
  refine lv_iload hx hb dL_law_708 (lv_at hl 0 rfl) ?_
  refine lv_iconst (v := 1) hx hb dL_law_710 (by decide) ?_
  refine lv_iadd hx hb dL_law_711 ?_
  refine as_i 1 (by decide) ?_
  refine va_sld hx hb hXs hbl hbA hS (show vp_in 1 6 from vp_in_nI (n := 1) (by decide) (by decide)) dL_law_712 ?_
  refine as_i (xs 1) rfl ?_
  refine lv_aload_n hx hb dL_law_713 rfl (lv_at hl 4 rfl) ?_
  refine lv_iload hx hb dL_law_714 (lv_at hl 0 rfl) ?_
  refine lv_iconst (v := 2) hx hb dL_law_716 (by decide) ?_
  refine lv_iadd hx hb dL_law_717 ?_
  refine as_i 2 (by decide) ?_
  refine va_sld hx hb hXs hbl hbA hS (show vp_in 2 6 from vp_in_nI (n := 2) (by decide) (by decide)) dL_law_718 ?_
  refine as_i (xs 2) rfl ?_
  refine lv_aload_n hx hb dL_law_719 rfl (lv_at hl 4 rfl) ?_
  refine lv_iload hx hb dL_law_720 (lv_at hl 0 rfl) ?_
  refine lv_iconst (v := 3) hx hb dL_law_722 (by decide) ?_
  refine lv_iadd hx hb dL_law_723 ?_
  refine as_i 3 (by decide) ?_
  refine va_sld hx hb hXs hbl hbA hS (show vp_in 3 6 from vp_in_nI (n := 3) (by decide) (by decide)) dL_law_724 ?_
  refine as_i (xs 3) rfl ?_
  refine jn_i (wr := []) (rV (As := [.int (xs 1), .int (xs 2), .int (xs 3)]) (rest := [.int (-1)]) (ci := 12) ⟨hx, hb, hml, hown, hts⟩ (m_lend l dC dI cy _ am mi (xs 1) (xs 2) (xs 3) hM.1) (cw_L_84 hts rfl rfl ⟨Nat.le_of_ble_eq_true rfl, Nat.le_of_ble_eq_true rfl⟩) hP hD hK [114, 116] rfl rfl rfl rfl bl0 e0 rfl hl.1 rfl (Nat.le_of_ble_eq_true rfl) dL_law_725 ⟨Nat.le_of_ble_eq_true rfl, Nat.le_of_ble_eq_true rfl⟩) hP hD hS hA [114, 116] [] rfl rfl rfl (by decide) (fun r_3 u_5 H locs hp_4 hP hD hS => ?_)
  have hp_4 : r_3 = (-1) := hp_4
  have hP : va_P (dC, dI) vwCl [] H := hP
  have hD : va_D (FA s) [] := hD
  refine as_i (-1) hp_4 ?_
  refine lv_icmp_eq (tgt := 1457) hx hb dL_law_728 (by decide) (fun _ => ?_) (fun c9 => absurd (by decide) c9)
  exact law_end C0 hS (lv_sub hl [0, 4] rfl) (by decide) (by decide)
theorem dL_law_733 : decode cL_law 733 = .ok (.aload_n 1, 1) := by decide +kernel
theorem dL_law_734 : decode cL_law 734 = .ok (.aload_n 0, 1) := by decide +kernel
theorem dL_law_735 : decode cL_law 735 = .ok (.iload 4, 2) := by decide +kernel
theorem dL_law_737 : decode cL_law 737 = .ok (.iconst 1, 1) := by decide +kernel
theorem dL_law_738 : decode cL_law 738 = .ok (.iadd, 1) := by decide +kernel
theorem dL_law_739 : decode cL_law 739 = .ok (.iaload, 1) := by decide +kernel
theorem dL_law_740 : decode cL_law 740 = .ok (.invokevirtual 85, 3) := by decide +kernel
theorem t794 : Cond.methodLink RL 85 yX10_back ∈ GW := gw_mem 908 (by decide +kernel) (by decide +kernel)
theorem t795 : Cond.instanceMethod yX10_back ∈ GW := gw_mem 909 (by decide +kernel) (by decide +kernel)
theorem t796 : Cond.selects RX10 yX10_back yX10_back ∈ GW := gw_mem 910 (by decide +kernel) (by decide +kernel)
theorem cw_L_85 {R : Room} {s : State} {args : Array Value} {rm : Room} {mc ms : Nat} (hts : ∀ w ∈ GW, w.before args s = true) (hrc : rm.cells = mc) (hrs : rm.slots = ms) (hR : rm.frames + 1 ≤ R.frames ∧ 8 + (2 + 11) + rm.locals ≤ R.locals) : CallW R s args RL RX10 85 yX10_back cX10_back 2 (some .int) (wl yX10_back cX10_back 2 (some .int)) rm mc ms 1 := cwV 1 hts (gi_V t794 t795 t796 t1 t797) rfl hrc hrs (by decide +kernel) hR
theorem dL_law_743 : decode cL_law 743 = .ok (.aload_n 2, 1) := by decide +kernel
theorem dL_law_744 : decode cL_law 744 = .ok (.aload_n 0, 1) := by decide +kernel
theorem dL_law_745 : decode cL_law 745 = .ok (.iload 4, 2) := by decide +kernel
theorem dL_law_747 : decode cL_law 747 = .ok (.iconst 1, 1) := by decide +kernel
theorem dL_law_748 : decode cL_law 748 = .ok (.iadd, 1) := by decide +kernel
theorem dL_law_749 : decode cL_law 749 = .ok (.iaload, 1) := by decide +kernel
theorem dL_law_750 : decode cL_law 750 = .ok (.invokevirtual 88, 3) := by decide +kernel
theorem t1823 : Cond.methodLink RL 88 yX11_back ∈ GW := gw_mem 1937 (by decide +kernel) (by decide +kernel)
theorem t1824 : Cond.instanceMethod yX11_back ∈ GW := gw_mem 1938 (by decide +kernel) (by decide +kernel)
theorem t1825 : Cond.selects RX11 yX11_back yX11_back ∈ GW := gw_mem 1939 (by decide +kernel) (by decide +kernel)
theorem cw_L_88 {R : Room} {s : State} {args : Array Value} {rm : Room} {mc ms : Nat} (hts : ∀ w ∈ GW, w.before args s = true) (hrc : rm.cells = mc) (hrs : rm.slots = ms) (hR : rm.frames + 1 ≤ R.frames ∧ 8 + (2 + 11) + rm.locals ≤ R.locals) : CallW R s args RL RX11 88 yX11_back cX11_back 2 (some .int) (wl yX11_back cX11_back 2 (some .int)) rm mc ms 1 := cwV 1 hts (gi_V t1823 t1824 t1825 t18 t1826) rfl hrc hrs (by decide +kernel) hR
theorem dL_law_753 : decode cL_law 753 = .ok (.if_icmp .eq 704, 3) := by decide +kernel
set_option maxHeartbeats 4000000 in
set_option maxRecDepth 100000 in
theorem lc_14 {p : Program} {l : Launch} {e : Env} {s : State} {m : MethodId} {below : List Frame} {meth : Method} {c : Code} {b : Nat} {xs : Nat → Int32} (hl0 : l.stackTraces = false) (C0 : lw_At p s m meth c b 6 xs) (dC : Nat → ClassId) (dI : Nat → Nat → Nat) (cy : Nat → ClassId) (ad : Nat → Nat) (ai : Nat → Nat → Int32) (al : Nat → Nat → Int64) (aq : Nat → Nat → Option Nat) (am : Nat → Nat) (mi : Nat → Nat → Int32) (ml : Nat → Nat → Int64) (qo : Nat) (hX : OkX ad ai aq) (hM : OkM mi) (hEX : EnvX (FA s) s) (hK : va_K (dC, dI) vwCl (TY cy) s) {H : Heap} {locs : List Loc} (hP : va_P (dC, dI) vwCl (FX cy ad ai al aq ++ FM cy am mi ml) H) (hD : va_D (FA s) (FX cy ad ai al aq ++ FM cy am mi ml)) (hS : va_S (FA s) s.heap H locs) {ls : Array Slot} (hl : lv_has ls 7 [(4, .int 0), (3, .ref qo), (2, .ref (am 0)), (1, .ref (ad 0)), (0, .ref b)]) : W p l e room_1 s m #[Value.ref b] below meth c H locs 237 23836 (lw_Z below #[Value.ref b] s) (F0 m 733 ls []) := by
  obtain ⟨hx, hb, hr, hml, hown, htsL, hXs, hbl, hlocks, hgv⟩ := id C0
  have hown : s.vm.findClass RL = some m.cls := hown
  have hts : ∀ w ∈ GW, w.before #[Value.ref b] s = true := fun w hw => htsL w (List.mem_filter.mp hw).1
  have hA : ∀ q : Nat, s.heap.size ≤ q → FA s q := fun _ h => h
  have hbA : ¬ FA s b := Nat.not_le.mpr hbl
  refine lv_aload_n hx hb dL_law_733 rfl (lv_at hl 3 rfl) ?_
  refine lv_aload_n hx hb dL_law_734 rfl (lv_at hl 4 rfl) ?_
  refine lv_iload hx hb dL_law_735 (lv_at hl 0 rfl) ?_
  refine lv_iconst (v := 1) hx hb dL_law_737 (by decide) ?_
  refine lv_iadd hx hb dL_law_738 ?_
  refine as_i 1 (by decide) ?_
  refine va_sld hx hb hXs hbl hbA hS (show vp_in 1 6 from vp_in_nI (n := 1) (by decide) (by decide)) dL_law_739 ?_
  refine as_i (xs 1) rfl ?_
  refine jr_i (rVr (As := [.int (xs 1)]) (rest := []) (ci := 11) ⟨hx, hb, hml, hown, hts⟩ (k_back l dC dI cy ad (xs 1) ) (cw_L_85 hts rfl rfl ⟨Nat.le_of_ble_eq_true rfl, Nat.le_of_ble_eq_true rfl⟩) hP hK [0, 22, 23] rfl rfl rfl rfl hl.1 rfl (Nat.le_of_ble_eq_true rfl) dL_law_740 ⟨Nat.le_of_ble_eq_true rfl, Nat.le_of_ble_eq_true rfl⟩) hP hS (fun r_1 H locs hp_2 hP hS => ?_)
  refine as_i (-1) hp_2 ?_
  refine lv_aload_n hx hb dL_law_743 rfl (lv_at hl 2 rfl) ?_
  refine lv_aload_n hx hb dL_law_744 rfl (lv_at hl 4 rfl) ?_
  refine lv_iload hx hb dL_law_745 (lv_at hl 0 rfl) ?_
  refine lv_iconst (v := 1) hx hb dL_law_747 (by decide) ?_
  refine lv_iadd hx hb dL_law_748 ?_
  refine as_i 1 (by decide) ?_
  refine va_sld hx hb hXs hbl hbA hS (show vp_in 1 6 from vp_in_nI (n := 1) (by decide) (by decide)) dL_law_749 ?_
  refine as_i (xs 1) rfl ?_
  refine jn_i (wr := []) (rV (As := [.int (xs 1)]) (rest := [.int (-1)]) (ci := 12) ⟨hx, hb, hml, hown, hts⟩ (m_back l dC dI cy _ am mi (xs 1) hM.1) (cw_L_88 hts rfl rfl ⟨Nat.le_of_ble_eq_true rfl, Nat.le_of_ble_eq_true rfl⟩) hP hD hK [114, 116] rfl rfl rfl rfl bl0 e0 rfl hl.1 rfl (Nat.le_of_ble_eq_true rfl) dL_law_750 ⟨Nat.le_of_ble_eq_true rfl, Nat.le_of_ble_eq_true rfl⟩) hP hD hS hA [114, 116] [] rfl rfl rfl (by decide) (fun r_3 u_5 H locs hp_4 hP hD hS => ?_)
  have hp_4 : r_3 = (-1) := hp_4
  have hP : va_P (dC, dI) vwCl [] H := hP
  have hD : va_D (FA s) [] := hD
  refine as_i (-1) hp_4 ?_
  refine lv_icmp_eq (tgt := 1457) hx hb dL_law_753 (by decide) (fun _ => ?_) (fun c9 => absurd (by decide) c9)
  exact law_end C0 hS (lv_sub hl [0, 4] rfl) (by decide) (by decide)
theorem dL_law_758 : decode cL_law 758 = .ok (.aload_n 1, 1) := by decide +kernel
theorem dL_law_759 : decode cL_law 759 = .ok (.aload_n 0, 1) := by decide +kernel
theorem dL_law_760 : decode cL_law 760 = .ok (.iload 4, 2) := by decide +kernel
theorem dL_law_762 : decode cL_law 762 = .ok (.iconst 1, 1) := by decide +kernel
theorem dL_law_763 : decode cL_law 763 = .ok (.iadd, 1) := by decide +kernel
theorem dL_law_764 : decode cL_law 764 = .ok (.iaload, 1) := by decide +kernel
theorem dL_law_765 : decode cL_law 765 = .ok (.aload_n 0, 1) := by decide +kernel
theorem dL_law_766 : decode cL_law 766 = .ok (.iload 4, 2) := by decide +kernel
theorem dL_law_768 : decode cL_law 768 = .ok (.iconst 2, 1) := by decide +kernel
theorem dL_law_769 : decode cL_law 769 = .ok (.iadd, 1) := by decide +kernel
theorem dL_law_770 : decode cL_law 770 = .ok (.iaload, 1) := by decide +kernel
theorem dL_law_771 : decode cL_law 771 = .ok (.aload_n 0, 1) := by decide +kernel
theorem dL_law_772 : decode cL_law 772 = .ok (.iload 4, 2) := by decide +kernel
theorem dL_law_774 : decode cL_law 774 = .ok (.iconst 3, 1) := by decide +kernel
theorem dL_law_775 : decode cL_law 775 = .ok (.iadd, 1) := by decide +kernel
theorem dL_law_776 : decode cL_law 776 = .ok (.iaload, 1) := by decide +kernel
theorem dL_law_777 : decode cL_law 777 = .ok (.invokevirtual 89, 3) := by decide +kernel
theorem t802 : Cond.methodLink RL 89 yX10_borrow ∈ GW := gw_mem 916 (by decide +kernel) (by decide +kernel)
theorem t803 : Cond.instanceMethod yX10_borrow ∈ GW := gw_mem 917 (by decide +kernel) (by decide +kernel)
theorem t804 : Cond.selects RX10 yX10_borrow yX10_borrow ∈ GW := gw_mem 918 (by decide +kernel) (by decide +kernel)
theorem cw_L_89 {R : Room} {s : State} {args : Array Value} {rm : Room} {mc ms : Nat} (hts : ∀ w ∈ GW, w.before args s = true) (hrc : rm.cells = mc) (hrs : rm.slots = ms) (hR : rm.frames + 1 ≤ R.frames ∧ 8 + (4 + 11) + rm.locals ≤ R.locals) : CallW R s args RL RX10 89 yX10_borrow cX10_borrow 4 (some .int) (wl yX10_borrow cX10_borrow 4 (some .int)) rm mc ms 3 := cwV 3 hts (gi_V t802 t803 t804 t1 t805) rfl hrc hrs (by decide +kernel) hR
theorem dL_law_780 : decode cL_law 780 = .ok (.aload_n 2, 1) := by decide +kernel
theorem dL_law_781 : decode cL_law 781 = .ok (.aload_n 0, 1) := by decide +kernel
theorem dL_law_782 : decode cL_law 782 = .ok (.iload 4, 2) := by decide +kernel
theorem dL_law_784 : decode cL_law 784 = .ok (.iconst 1, 1) := by decide +kernel
theorem dL_law_785 : decode cL_law 785 = .ok (.iadd, 1) := by decide +kernel
theorem dL_law_786 : decode cL_law 786 = .ok (.iaload, 1) := by decide +kernel
theorem dL_law_787 : decode cL_law 787 = .ok (.aload_n 0, 1) := by decide +kernel
theorem dL_law_788 : decode cL_law 788 = .ok (.iload 4, 2) := by decide +kernel
theorem dL_law_790 : decode cL_law 790 = .ok (.iconst 2, 1) := by decide +kernel
theorem dL_law_791 : decode cL_law 791 = .ok (.iadd, 1) := by decide +kernel
theorem dL_law_792 : decode cL_law 792 = .ok (.iaload, 1) := by decide +kernel
theorem dL_law_793 : decode cL_law 793 = .ok (.aload_n 0, 1) := by decide +kernel
theorem dL_law_794 : decode cL_law 794 = .ok (.iload 4, 2) := by decide +kernel
theorem dL_law_796 : decode cL_law 796 = .ok (.iconst 3, 1) := by decide +kernel
theorem dL_law_797 : decode cL_law 797 = .ok (.iadd, 1) := by decide +kernel
theorem dL_law_798 : decode cL_law 798 = .ok (.iaload, 1) := by decide +kernel
theorem dL_law_799 : decode cL_law 799 = .ok (.invokevirtual 92, 3) := by decide +kernel
theorem t1827 : Cond.methodLink RL 92 yX11_borrow ∈ GW := gw_mem 1941 (by decide +kernel) (by decide +kernel)
theorem t1828 : Cond.instanceMethod yX11_borrow ∈ GW := gw_mem 1942 (by decide +kernel) (by decide +kernel)
theorem t1829 : Cond.selects RX11 yX11_borrow yX11_borrow ∈ GW := gw_mem 1943 (by decide +kernel) (by decide +kernel)
theorem cw_L_92 {R : Room} {s : State} {args : Array Value} {rm : Room} {mc ms : Nat} (hts : ∀ w ∈ GW, w.before args s = true) (hrc : rm.cells = mc) (hrs : rm.slots = ms) (hR : rm.frames + 1 ≤ R.frames ∧ 8 + (4 + 11) + rm.locals ≤ R.locals) : CallW R s args RL RX11 92 yX11_borrow cX11_borrow 4 (some .int) (wl yX11_borrow cX11_borrow 4 (some .int)) rm mc ms 3 := cwV 3 hts (gi_V t1827 t1828 t1829 t18 t1830) rfl hrc hrs (by decide +kernel) hR
theorem dL_law_802 : decode cL_law 802 = .ok (.if_icmp .eq 655, 3) := by decide +kernel
set_option maxHeartbeats 4000000 in
set_option maxRecDepth 100000 in
theorem lc_15 {p : Program} {l : Launch} {e : Env} {s : State} {m : MethodId} {below : List Frame} {meth : Method} {c : Code} {b : Nat} {xs : Nat → Int32} (hl0 : l.stackTraces = false) (C0 : lw_At p s m meth c b 6 xs) (dC : Nat → ClassId) (dI : Nat → Nat → Nat) (cy : Nat → ClassId) (ad : Nat → Nat) (ai : Nat → Nat → Int32) (al : Nat → Nat → Int64) (aq : Nat → Nat → Option Nat) (am : Nat → Nat) (mi : Nat → Nat → Int32) (ml : Nat → Nat → Int64) (qo : Nat) (hX : OkX ad ai aq) (hM : OkM mi) (hEX : EnvX (FA s) s) (hK : va_K (dC, dI) vwCl (TY cy) s) {H : Heap} {locs : List Loc} (hP : va_P (dC, dI) vwCl (FX cy ad ai al aq ++ FM cy am mi ml) H) (hD : va_D (FA s) (FX cy ad ai al aq ++ FM cy am mi ml)) (hS : va_S (FA s) s.heap H locs) {ls : Array Slot} (hl : lv_has ls 7 [(4, .int 0), (3, .ref qo), (2, .ref (am 0)), (1, .ref (ad 0)), (0, .ref b)]) : W p l e room_1 s m #[Value.ref b] below meth c H locs 237 23836 (lw_Z below #[Value.ref b] s) (F0 m 758 ls []) := by
  obtain ⟨hx, hb, hr, hml, hown, htsL, hXs, hbl, hlocks, hgv⟩ := id C0
  have hown : s.vm.findClass RL = some m.cls := hown
  have hts : ∀ w ∈ GW, w.before #[Value.ref b] s = true := fun w hw => htsL w (List.mem_filter.mp hw).1
  have hA : ∀ q : Nat, s.heap.size ≤ q → FA s q := fun _ h => h
  have hbA : ¬ FA s b := Nat.not_le.mpr hbl
  refine lv_aload_n hx hb dL_law_758 rfl (lv_at hl 3 rfl) ?_
  refine lv_aload_n hx hb dL_law_759 rfl (lv_at hl 4 rfl) ?_
  refine lv_iload hx hb dL_law_760 (lv_at hl 0 rfl) ?_
  refine lv_iconst (v := 1) hx hb dL_law_762 (by decide) ?_
  refine lv_iadd hx hb dL_law_763 ?_
  refine as_i 1 (by decide) ?_
  refine va_sld hx hb hXs hbl hbA hS (show vp_in 1 6 from vp_in_nI (n := 1) (by decide) (by decide)) dL_law_764 ?_
  refine as_i (xs 1) rfl ?_
  refine lv_aload_n hx hb dL_law_765 rfl (lv_at hl 4 rfl) ?_
  refine lv_iload hx hb dL_law_766 (lv_at hl 0 rfl) ?_
  refine lv_iconst (v := 2) hx hb dL_law_768 (by decide) ?_
  refine lv_iadd hx hb dL_law_769 ?_
  refine as_i 2 (by decide) ?_
  refine va_sld hx hb hXs hbl hbA hS (show vp_in 2 6 from vp_in_nI (n := 2) (by decide) (by decide)) dL_law_770 ?_
  refine as_i (xs 2) rfl ?_
  refine lv_aload_n hx hb dL_law_771 rfl (lv_at hl 4 rfl) ?_
  refine lv_iload hx hb dL_law_772 (lv_at hl 0 rfl) ?_
  refine lv_iconst (v := 3) hx hb dL_law_774 (by decide) ?_
  refine lv_iadd hx hb dL_law_775 ?_
  refine as_i 3 (by decide) ?_
  refine va_sld hx hb hXs hbl hbA hS (show vp_in 3 6 from vp_in_nI (n := 3) (by decide) (by decide)) dL_law_776 ?_
  refine as_i (xs 3) rfl ?_
  refine jr_i (rVr (As := [.int (xs 1), .int (xs 2), .int (xs 3)]) (rest := []) (ci := 11) ⟨hx, hb, hml, hown, hts⟩ (k_borrow l dC dI cy ad (xs 1) (xs 2) (xs 3) ) (cw_L_89 hts rfl rfl ⟨Nat.le_of_ble_eq_true rfl, Nat.le_of_ble_eq_true rfl⟩) hP hK [0, 22, 23] rfl rfl rfl rfl hl.1 rfl (Nat.le_of_ble_eq_true rfl) dL_law_777 ⟨Nat.le_of_ble_eq_true rfl, Nat.le_of_ble_eq_true rfl⟩) hP hS (fun r_1 H locs hp_2 hP hS => ?_)
  refine as_i (-1) hp_2 ?_
  refine lv_aload_n hx hb dL_law_780 rfl (lv_at hl 2 rfl) ?_
  refine lv_aload_n hx hb dL_law_781 rfl (lv_at hl 4 rfl) ?_
  refine lv_iload hx hb dL_law_782 (lv_at hl 0 rfl) ?_
  refine lv_iconst (v := 1) hx hb dL_law_784 (by decide) ?_
  refine lv_iadd hx hb dL_law_785 ?_
  refine as_i 1 (by decide) ?_
  refine va_sld hx hb hXs hbl hbA hS (show vp_in 1 6 from vp_in_nI (n := 1) (by decide) (by decide)) dL_law_786 ?_
  refine as_i (xs 1) rfl ?_
  refine lv_aload_n hx hb dL_law_787 rfl (lv_at hl 4 rfl) ?_
  refine lv_iload hx hb dL_law_788 (lv_at hl 0 rfl) ?_
  refine lv_iconst (v := 2) hx hb dL_law_790 (by decide) ?_
  refine lv_iadd hx hb dL_law_791 ?_
  refine as_i 2 (by decide) ?_
  refine va_sld hx hb hXs hbl hbA hS (show vp_in 2 6 from vp_in_nI (n := 2) (by decide) (by decide)) dL_law_792 ?_
  refine as_i (xs 2) rfl ?_
  refine lv_aload_n hx hb dL_law_793 rfl (lv_at hl 4 rfl) ?_
  refine lv_iload hx hb dL_law_794 (lv_at hl 0 rfl) ?_
  refine lv_iconst (v := 3) hx hb dL_law_796 (by decide) ?_
  refine lv_iadd hx hb dL_law_797 ?_
  refine as_i 3 (by decide) ?_
  refine va_sld hx hb hXs hbl hbA hS (show vp_in 3 6 from vp_in_nI (n := 3) (by decide) (by decide)) dL_law_798 ?_
  refine as_i (xs 3) rfl ?_
  refine jn_i (wr := []) (rV (As := [.int (xs 1), .int (xs 2), .int (xs 3)]) (rest := [.int (-1)]) (ci := 12) ⟨hx, hb, hml, hown, hts⟩ (m_borrow l dC dI cy _ am mi (xs 1) (xs 2) (xs 3) hM.1) (cw_L_92 hts rfl rfl ⟨Nat.le_of_ble_eq_true rfl, Nat.le_of_ble_eq_true rfl⟩) hP hD hK [114, 116] rfl rfl rfl rfl bl0 e0 rfl hl.1 rfl (Nat.le_of_ble_eq_true rfl) dL_law_799 ⟨Nat.le_of_ble_eq_true rfl, Nat.le_of_ble_eq_true rfl⟩) hP hD hS hA [114, 116] [] rfl rfl rfl (by decide) (fun r_3 u_5 H locs hp_4 hP hD hS => ?_)
  have hp_4 : r_3 = (-1) := hp_4
  have hP : va_P (dC, dI) vwCl [] H := hP
  have hD : va_D (FA s) [] := hD
  refine as_i (-1) hp_4 ?_
  refine lv_icmp_eq (tgt := 1457) hx hb dL_law_802 (by decide) (fun _ => ?_) (fun c9 => absurd (by decide) c9)
  exact law_end C0 hS (lv_sub hl [0, 4] rfl) (by decide) (by decide)
theorem dL_law_807 : decode cL_law 807 = .ok (.aload_n 1, 1) := by decide +kernel
theorem dL_law_808 : decode cL_law 808 = .ok (.aload_n 0, 1) := by decide +kernel
theorem dL_law_809 : decode cL_law 809 = .ok (.iload 4, 2) := by decide +kernel
theorem dL_law_811 : decode cL_law 811 = .ok (.iconst 1, 1) := by decide +kernel
theorem dL_law_812 : decode cL_law 812 = .ok (.iadd, 1) := by decide +kernel
theorem dL_law_813 : decode cL_law 813 = .ok (.iaload, 1) := by decide +kernel
theorem dL_law_814 : decode cL_law 814 = .ok (.aload_n 0, 1) := by decide +kernel
theorem dL_law_815 : decode cL_law 815 = .ok (.iload 4, 2) := by decide +kernel
theorem dL_law_817 : decode cL_law 817 = .ok (.iconst 2, 1) := by decide +kernel
theorem dL_law_818 : decode cL_law 818 = .ok (.iadd, 1) := by decide +kernel
theorem dL_law_819 : decode cL_law 819 = .ok (.iaload, 1) := by decide +kernel
theorem dL_law_820 : decode cL_law 820 = .ok (.aload_n 0, 1) := by decide +kernel
theorem dL_law_821 : decode cL_law 821 = .ok (.iload 4, 2) := by decide +kernel
theorem dL_law_823 : decode cL_law 823 = .ok (.iconst 3, 1) := by decide +kernel
theorem dL_law_824 : decode cL_law 824 = .ok (.iadd, 1) := by decide +kernel
theorem dL_law_825 : decode cL_law 825 = .ok (.iaload, 1) := by decide +kernel
theorem dL_law_826 : decode cL_law 826 = .ok (.invokevirtual 93, 3) := by decide +kernel
theorem t813 : Cond.methodLink RL 93 yX10_pay ∈ GW := gw_mem 927 (by decide +kernel) (by decide +kernel)
theorem t814 : Cond.instanceMethod yX10_pay ∈ GW := gw_mem 928 (by decide +kernel) (by decide +kernel)
theorem t815 : Cond.selects RX10 yX10_pay yX10_pay ∈ GW := gw_mem 929 (by decide +kernel) (by decide +kernel)
theorem cw_L_93 {R : Room} {s : State} {args : Array Value} {rm : Room} {mc ms : Nat} (hts : ∀ w ∈ GW, w.before args s = true) (hrc : rm.cells = mc) (hrs : rm.slots = ms) (hR : rm.frames + 1 ≤ R.frames ∧ 8 + (4 + 11) + rm.locals ≤ R.locals) : CallW R s args RL RX10 93 yX10_pay cX10_pay 4 (some .int) (wl yX10_pay cX10_pay 4 (some .int)) rm mc ms 3 := cwV 3 hts (gi_V t813 t814 t815 t1 t816) rfl hrc hrs (by decide +kernel) hR
theorem dL_law_829 : decode cL_law 829 = .ok (.aload_n 2, 1) := by decide +kernel
theorem dL_law_830 : decode cL_law 830 = .ok (.aload_n 0, 1) := by decide +kernel
theorem dL_law_831 : decode cL_law 831 = .ok (.iload 4, 2) := by decide +kernel
theorem dL_law_833 : decode cL_law 833 = .ok (.iconst 1, 1) := by decide +kernel
theorem dL_law_834 : decode cL_law 834 = .ok (.iadd, 1) := by decide +kernel
theorem dL_law_835 : decode cL_law 835 = .ok (.iaload, 1) := by decide +kernel
theorem dL_law_836 : decode cL_law 836 = .ok (.aload_n 0, 1) := by decide +kernel
theorem dL_law_837 : decode cL_law 837 = .ok (.iload 4, 2) := by decide +kernel
theorem dL_law_839 : decode cL_law 839 = .ok (.iconst 2, 1) := by decide +kernel
theorem dL_law_840 : decode cL_law 840 = .ok (.iadd, 1) := by decide +kernel
theorem dL_law_841 : decode cL_law 841 = .ok (.iaload, 1) := by decide +kernel
theorem dL_law_842 : decode cL_law 842 = .ok (.aload_n 0, 1) := by decide +kernel
theorem dL_law_843 : decode cL_law 843 = .ok (.iload 4, 2) := by decide +kernel
theorem dL_law_845 : decode cL_law 845 = .ok (.iconst 3, 1) := by decide +kernel
theorem dL_law_846 : decode cL_law 846 = .ok (.iadd, 1) := by decide +kernel
theorem dL_law_847 : decode cL_law 847 = .ok (.iaload, 1) := by decide +kernel
theorem dL_law_848 : decode cL_law 848 = .ok (.invokevirtual 96, 3) := by decide +kernel
theorem t1831 : Cond.methodLink RL 96 yX11_pay ∈ GW := gw_mem 1945 (by decide +kernel) (by decide +kernel)
theorem t1832 : Cond.instanceMethod yX11_pay ∈ GW := gw_mem 1946 (by decide +kernel) (by decide +kernel)
theorem t1833 : Cond.selects RX11 yX11_pay yX11_pay ∈ GW := gw_mem 1947 (by decide +kernel) (by decide +kernel)
theorem cw_L_96 {R : Room} {s : State} {args : Array Value} {rm : Room} {mc ms : Nat} (hts : ∀ w ∈ GW, w.before args s = true) (hrc : rm.cells = mc) (hrs : rm.slots = ms) (hR : rm.frames + 1 ≤ R.frames ∧ 8 + (4 + 11) + rm.locals ≤ R.locals) : CallW R s args RL RX11 96 yX11_pay cX11_pay 4 (some .int) (wl yX11_pay cX11_pay 4 (some .int)) rm mc ms 3 := cwV 3 hts (gi_V t1831 t1832 t1833 t18 t1834) rfl hrc hrs (by decide +kernel) hR
theorem dL_law_851 : decode cL_law 851 = .ok (.if_icmp .eq 606, 3) := by decide +kernel
set_option maxHeartbeats 4000000 in
set_option maxRecDepth 100000 in
theorem lc_16 {p : Program} {l : Launch} {e : Env} {s : State} {m : MethodId} {below : List Frame} {meth : Method} {c : Code} {b : Nat} {xs : Nat → Int32} (hl0 : l.stackTraces = false) (C0 : lw_At p s m meth c b 6 xs) (dC : Nat → ClassId) (dI : Nat → Nat → Nat) (cy : Nat → ClassId) (ad : Nat → Nat) (ai : Nat → Nat → Int32) (al : Nat → Nat → Int64) (aq : Nat → Nat → Option Nat) (am : Nat → Nat) (mi : Nat → Nat → Int32) (ml : Nat → Nat → Int64) (qo : Nat) (hX : OkX ad ai aq) (hM : OkM mi) (hEX : EnvX (FA s) s) (hK : va_K (dC, dI) vwCl (TY cy) s) {H : Heap} {locs : List Loc} (hP : va_P (dC, dI) vwCl (FX cy ad ai al aq ++ FM cy am mi ml) H) (hD : va_D (FA s) (FX cy ad ai al aq ++ FM cy am mi ml)) (hS : va_S (FA s) s.heap H locs) {ls : Array Slot} (hl : lv_has ls 7 [(4, .int 0), (3, .ref qo), (2, .ref (am 0)), (1, .ref (ad 0)), (0, .ref b)]) : W p l e room_1 s m #[Value.ref b] below meth c H locs 237 23836 (lw_Z below #[Value.ref b] s) (F0 m 807 ls []) := by
  obtain ⟨hx, hb, hr, hml, hown, htsL, hXs, hbl, hlocks, hgv⟩ := id C0
  have hown : s.vm.findClass RL = some m.cls := hown
  have hts : ∀ w ∈ GW, w.before #[Value.ref b] s = true := fun w hw => htsL w (List.mem_filter.mp hw).1
  have hA : ∀ q : Nat, s.heap.size ≤ q → FA s q := fun _ h => h
  have hbA : ¬ FA s b := Nat.not_le.mpr hbl
  refine lv_aload_n hx hb dL_law_807 rfl (lv_at hl 3 rfl) ?_
  refine lv_aload_n hx hb dL_law_808 rfl (lv_at hl 4 rfl) ?_
  refine lv_iload hx hb dL_law_809 (lv_at hl 0 rfl) ?_
  refine lv_iconst (v := 1) hx hb dL_law_811 (by decide) ?_
  refine lv_iadd hx hb dL_law_812 ?_
  refine as_i 1 (by decide) ?_
  refine va_sld hx hb hXs hbl hbA hS (show vp_in 1 6 from vp_in_nI (n := 1) (by decide) (by decide)) dL_law_813 ?_
  refine as_i (xs 1) rfl ?_
  refine lv_aload_n hx hb dL_law_814 rfl (lv_at hl 4 rfl) ?_
  refine lv_iload hx hb dL_law_815 (lv_at hl 0 rfl) ?_
  refine lv_iconst (v := 2) hx hb dL_law_817 (by decide) ?_
  refine lv_iadd hx hb dL_law_818 ?_
  refine as_i 2 (by decide) ?_
  refine va_sld hx hb hXs hbl hbA hS (show vp_in 2 6 from vp_in_nI (n := 2) (by decide) (by decide)) dL_law_819 ?_
  refine as_i (xs 2) rfl ?_
  refine lv_aload_n hx hb dL_law_820 rfl (lv_at hl 4 rfl) ?_
  refine lv_iload hx hb dL_law_821 (lv_at hl 0 rfl) ?_
  refine lv_iconst (v := 3) hx hb dL_law_823 (by decide) ?_
  refine lv_iadd hx hb dL_law_824 ?_
  refine as_i 3 (by decide) ?_
  refine va_sld hx hb hXs hbl hbA hS (show vp_in 3 6 from vp_in_nI (n := 3) (by decide) (by decide)) dL_law_825 ?_
  refine as_i (xs 3) rfl ?_
  refine jr_i (rVr (As := [.int (xs 1), .int (xs 2), .int (xs 3)]) (rest := []) (ci := 11) ⟨hx, hb, hml, hown, hts⟩ (k_pay l dC dI cy ad (xs 1) (xs 2) (xs 3) ) (cw_L_93 hts rfl rfl ⟨Nat.le_of_ble_eq_true rfl, Nat.le_of_ble_eq_true rfl⟩) hP hK [0, 22, 23] rfl rfl rfl rfl hl.1 rfl (Nat.le_of_ble_eq_true rfl) dL_law_826 ⟨Nat.le_of_ble_eq_true rfl, Nat.le_of_ble_eq_true rfl⟩) hP hS (fun r_1 H locs hp_2 hP hS => ?_)
  refine as_i (-1) hp_2 ?_
  refine lv_aload_n hx hb dL_law_829 rfl (lv_at hl 2 rfl) ?_
  refine lv_aload_n hx hb dL_law_830 rfl (lv_at hl 4 rfl) ?_
  refine lv_iload hx hb dL_law_831 (lv_at hl 0 rfl) ?_
  refine lv_iconst (v := 1) hx hb dL_law_833 (by decide) ?_
  refine lv_iadd hx hb dL_law_834 ?_
  refine as_i 1 (by decide) ?_
  refine va_sld hx hb hXs hbl hbA hS (show vp_in 1 6 from vp_in_nI (n := 1) (by decide) (by decide)) dL_law_835 ?_
  refine as_i (xs 1) rfl ?_
  refine lv_aload_n hx hb dL_law_836 rfl (lv_at hl 4 rfl) ?_
  refine lv_iload hx hb dL_law_837 (lv_at hl 0 rfl) ?_
  refine lv_iconst (v := 2) hx hb dL_law_839 (by decide) ?_
  refine lv_iadd hx hb dL_law_840 ?_
  refine as_i 2 (by decide) ?_
  refine va_sld hx hb hXs hbl hbA hS (show vp_in 2 6 from vp_in_nI (n := 2) (by decide) (by decide)) dL_law_841 ?_
  refine as_i (xs 2) rfl ?_
  refine lv_aload_n hx hb dL_law_842 rfl (lv_at hl 4 rfl) ?_
  refine lv_iload hx hb dL_law_843 (lv_at hl 0 rfl) ?_
  refine lv_iconst (v := 3) hx hb dL_law_845 (by decide) ?_
  refine lv_iadd hx hb dL_law_846 ?_
  refine as_i 3 (by decide) ?_
  refine va_sld hx hb hXs hbl hbA hS (show vp_in 3 6 from vp_in_nI (n := 3) (by decide) (by decide)) dL_law_847 ?_
  refine as_i (xs 3) rfl ?_
  refine jn_i (wr := []) (rV (As := [.int (xs 1), .int (xs 2), .int (xs 3)]) (rest := [.int (-1)]) (ci := 12) ⟨hx, hb, hml, hown, hts⟩ (m_pay l dC dI cy _ am mi (xs 1) (xs 2) (xs 3) hM.1) (cw_L_96 hts rfl rfl ⟨Nat.le_of_ble_eq_true rfl, Nat.le_of_ble_eq_true rfl⟩) hP hD hK [114, 116] rfl rfl rfl rfl bl0 e0 rfl hl.1 rfl (Nat.le_of_ble_eq_true rfl) dL_law_848 ⟨Nat.le_of_ble_eq_true rfl, Nat.le_of_ble_eq_true rfl⟩) hP hD hS hA [114, 116] [] rfl rfl rfl (by decide) (fun r_3 u_5 H locs hp_4 hP hD hS => ?_)
  have hp_4 : r_3 = (-1) := hp_4
  have hP : va_P (dC, dI) vwCl [] H := hP
  have hD : va_D (FA s) [] := hD
  refine as_i (-1) hp_4 ?_
  refine lv_icmp_eq (tgt := 1457) hx hb dL_law_851 (by decide) (fun _ => ?_) (fun c9 => absurd (by decide) c9)
  exact law_end C0 hS (lv_sub hl [0, 4] rfl) (by decide) (by decide)
theorem dL_law_856 : decode cL_law 856 = .ok (.aload_n 1, 1) := by decide +kernel
theorem dL_law_857 : decode cL_law 857 = .ok (.aload_n 0, 1) := by decide +kernel
theorem dL_law_858 : decode cL_law 858 = .ok (.iload 4, 2) := by decide +kernel
theorem dL_law_860 : decode cL_law 860 = .ok (.iconst 1, 1) := by decide +kernel
theorem dL_law_861 : decode cL_law 861 = .ok (.iadd, 1) := by decide +kernel
theorem dL_law_862 : decode cL_law 862 = .ok (.iaload, 1) := by decide +kernel
theorem dL_law_863 : decode cL_law 863 = .ok (.invokevirtual 97, 3) := by decide +kernel
theorem t821 : Cond.methodLink RL 97 yX10_sit ∈ GW := gw_mem 935 (by decide +kernel) (by decide +kernel)
theorem t822 : Cond.instanceMethod yX10_sit ∈ GW := gw_mem 936 (by decide +kernel) (by decide +kernel)
theorem t823 : Cond.selects RX10 yX10_sit yX10_sit ∈ GW := gw_mem 937 (by decide +kernel) (by decide +kernel)
theorem cw_L_97 {R : Room} {s : State} {args : Array Value} {rm : Room} {mc ms : Nat} (hts : ∀ w ∈ GW, w.before args s = true) (hrc : rm.cells = mc) (hrs : rm.slots = ms) (hR : rm.frames + 1 ≤ R.frames ∧ 8 + (2 + 11) + rm.locals ≤ R.locals) : CallW R s args RL RX10 97 yX10_sit cX10_sit 2 (some .int) (wl yX10_sit cX10_sit 2 (some .int)) rm mc ms 1 := cwV 1 hts (gi_V t821 t822 t823 t1 t824) rfl hrc hrs (by decide +kernel) hR
theorem dL_law_866 : decode cL_law 866 = .ok (.aload_n 2, 1) := by decide +kernel
theorem dL_law_867 : decode cL_law 867 = .ok (.aload_n 0, 1) := by decide +kernel
theorem dL_law_868 : decode cL_law 868 = .ok (.iload 4, 2) := by decide +kernel
theorem dL_law_870 : decode cL_law 870 = .ok (.iconst 1, 1) := by decide +kernel
theorem dL_law_871 : decode cL_law 871 = .ok (.iadd, 1) := by decide +kernel
theorem dL_law_872 : decode cL_law 872 = .ok (.iaload, 1) := by decide +kernel
theorem dL_law_873 : decode cL_law 873 = .ok (.invokevirtual 100, 3) := by decide +kernel
theorem t1835 : Cond.methodLink RL 100 yX11_sit ∈ GW := gw_mem 1949 (by decide +kernel) (by decide +kernel)
theorem t1836 : Cond.instanceMethod yX11_sit ∈ GW := gw_mem 1950 (by decide +kernel) (by decide +kernel)
theorem t1837 : Cond.selects RX11 yX11_sit yX11_sit ∈ GW := gw_mem 1951 (by decide +kernel) (by decide +kernel)
theorem cw_L_100 {R : Room} {s : State} {args : Array Value} {rm : Room} {mc ms : Nat} (hts : ∀ w ∈ GW, w.before args s = true) (hrc : rm.cells = mc) (hrs : rm.slots = ms) (hR : rm.frames + 1 ≤ R.frames ∧ 8 + (2 + 11) + rm.locals ≤ R.locals) : CallW R s args RL RX11 100 yX11_sit cX11_sit 2 (some .int) (wl yX11_sit cX11_sit 2 (some .int)) rm mc ms 1 := cwV 1 hts (gi_V t1835 t1836 t1837 t18 t1838) rfl hrc hrs (by decide +kernel) hR
theorem dL_law_876 : decode cL_law 876 = .ok (.if_icmp .eq 581, 3) := by decide +kernel
set_option maxHeartbeats 4000000 in
set_option maxRecDepth 100000 in
theorem lc_17 {p : Program} {l : Launch} {e : Env} {s : State} {m : MethodId} {below : List Frame} {meth : Method} {c : Code} {b : Nat} {xs : Nat → Int32} (hl0 : l.stackTraces = false) (C0 : lw_At p s m meth c b 6 xs) (dC : Nat → ClassId) (dI : Nat → Nat → Nat) (cy : Nat → ClassId) (ad : Nat → Nat) (ai : Nat → Nat → Int32) (al : Nat → Nat → Int64) (aq : Nat → Nat → Option Nat) (am : Nat → Nat) (mi : Nat → Nat → Int32) (ml : Nat → Nat → Int64) (qo : Nat) (hX : OkX ad ai aq) (hM : OkM mi) (hEX : EnvX (FA s) s) (hK : va_K (dC, dI) vwCl (TY cy) s) {H : Heap} {locs : List Loc} (hP : va_P (dC, dI) vwCl (FX cy ad ai al aq ++ FM cy am mi ml) H) (hD : va_D (FA s) (FX cy ad ai al aq ++ FM cy am mi ml)) (hS : va_S (FA s) s.heap H locs) {ls : Array Slot} (hl : lv_has ls 7 [(4, .int 0), (3, .ref qo), (2, .ref (am 0)), (1, .ref (ad 0)), (0, .ref b)]) : W p l e room_1 s m #[Value.ref b] below meth c H locs 237 23836 (lw_Z below #[Value.ref b] s) (F0 m 856 ls []) := by
  obtain ⟨hx, hb, hr, hml, hown, htsL, hXs, hbl, hlocks, hgv⟩ := id C0
  have hown : s.vm.findClass RL = some m.cls := hown
  have hts : ∀ w ∈ GW, w.before #[Value.ref b] s = true := fun w hw => htsL w (List.mem_filter.mp hw).1
  have hA : ∀ q : Nat, s.heap.size ≤ q → FA s q := fun _ h => h
  have hbA : ¬ FA s b := Nat.not_le.mpr hbl
  refine lv_aload_n hx hb dL_law_856 rfl (lv_at hl 3 rfl) ?_
  refine lv_aload_n hx hb dL_law_857 rfl (lv_at hl 4 rfl) ?_
  refine lv_iload hx hb dL_law_858 (lv_at hl 0 rfl) ?_
  refine lv_iconst (v := 1) hx hb dL_law_860 (by decide) ?_
  refine lv_iadd hx hb dL_law_861 ?_
  refine as_i 1 (by decide) ?_
  refine va_sld hx hb hXs hbl hbA hS (show vp_in 1 6 from vp_in_nI (n := 1) (by decide) (by decide)) dL_law_862 ?_
  refine as_i (xs 1) rfl ?_
  refine jr_i (rVr (As := [.int (xs 1)]) (rest := []) (ci := 11) ⟨hx, hb, hml, hown, hts⟩ (k_sit l dC dI cy ad (xs 1) ) (cw_L_97 hts rfl rfl ⟨Nat.le_of_ble_eq_true rfl, Nat.le_of_ble_eq_true rfl⟩) hP hK [0, 22, 23] rfl rfl rfl rfl hl.1 rfl (Nat.le_of_ble_eq_true rfl) dL_law_863 ⟨Nat.le_of_ble_eq_true rfl, Nat.le_of_ble_eq_true rfl⟩) hP hS (fun r_1 H locs hp_2 hP hS => ?_)
  refine as_i (-1) hp_2 ?_
  refine lv_aload_n hx hb dL_law_866 rfl (lv_at hl 2 rfl) ?_
  refine lv_aload_n hx hb dL_law_867 rfl (lv_at hl 4 rfl) ?_
  refine lv_iload hx hb dL_law_868 (lv_at hl 0 rfl) ?_
  refine lv_iconst (v := 1) hx hb dL_law_870 (by decide) ?_
  refine lv_iadd hx hb dL_law_871 ?_
  refine as_i 1 (by decide) ?_
  refine va_sld hx hb hXs hbl hbA hS (show vp_in 1 6 from vp_in_nI (n := 1) (by decide) (by decide)) dL_law_872 ?_
  refine as_i (xs 1) rfl ?_
  refine jn_i (wr := []) (rV (As := [.int (xs 1)]) (rest := [.int (-1)]) (ci := 12) ⟨hx, hb, hml, hown, hts⟩ (m_sit l dC dI cy _ am mi (xs 1) hM.1) (cw_L_100 hts rfl rfl ⟨Nat.le_of_ble_eq_true rfl, Nat.le_of_ble_eq_true rfl⟩) hP hD hK [114, 116] rfl rfl rfl rfl bl0 e0 rfl hl.1 rfl (Nat.le_of_ble_eq_true rfl) dL_law_873 ⟨Nat.le_of_ble_eq_true rfl, Nat.le_of_ble_eq_true rfl⟩) hP hD hS hA [114, 116] [] rfl rfl rfl (by decide) (fun r_3 u_5 H locs hp_4 hP hD hS => ?_)
  have hp_4 : r_3 = (-1) := hp_4
  have hP : va_P (dC, dI) vwCl [] H := hP
  have hD : va_D (FA s) [] := hD
  refine as_i (-1) hp_4 ?_
  refine lv_icmp_eq (tgt := 1457) hx hb dL_law_876 (by decide) (fun _ => ?_) (fun c9 => absurd (by decide) c9)
  exact law_end C0 hS (lv_sub hl [0, 4] rfl) (by decide) (by decide)
theorem dL_law_881 : decode cL_law 881 = .ok (.aload_n 1, 1) := by decide +kernel
theorem dL_law_882 : decode cL_law 882 = .ok (.aload_n 0, 1) := by decide +kernel
theorem dL_law_883 : decode cL_law 883 = .ok (.iload 4, 2) := by decide +kernel
theorem dL_law_885 : decode cL_law 885 = .ok (.iconst 1, 1) := by decide +kernel
theorem dL_law_886 : decode cL_law 886 = .ok (.iadd, 1) := by decide +kernel
theorem dL_law_887 : decode cL_law 887 = .ok (.iaload, 1) := by decide +kernel
theorem dL_law_888 : decode cL_law 888 = .ok (.invokevirtual 101, 3) := by decide +kernel
theorem t829 : Cond.methodLink RL 101 yX10_years ∈ GW := gw_mem 943 (by decide +kernel) (by decide +kernel)
theorem t830 : Cond.instanceMethod yX10_years ∈ GW := gw_mem 944 (by decide +kernel) (by decide +kernel)
theorem t831 : Cond.selects RX10 yX10_years yX10_years ∈ GW := gw_mem 945 (by decide +kernel) (by decide +kernel)
theorem cw_L_101 {R : Room} {s : State} {args : Array Value} {rm : Room} {mc ms : Nat} (hts : ∀ w ∈ GW, w.before args s = true) (hrc : rm.cells = mc) (hrs : rm.slots = ms) (hR : rm.frames + 1 ≤ R.frames ∧ 8 + (3 + 11) + rm.locals ≤ R.locals) : CallW R s args RL RX10 101 yX10_years cX10_years 3 (some .int) (wl yX10_years cX10_years 3 (some .int)) rm mc ms 1 := cwV 1 hts (gi_V t829 t830 t831 t1 t832) rfl hrc hrs (by decide +kernel) hR
theorem dL_law_891 : decode cL_law 891 = .ok (.aload_n 2, 1) := by decide +kernel
theorem dL_law_892 : decode cL_law 892 = .ok (.aload_n 0, 1) := by decide +kernel
theorem dL_law_893 : decode cL_law 893 = .ok (.iload 4, 2) := by decide +kernel
theorem dL_law_895 : decode cL_law 895 = .ok (.iconst 1, 1) := by decide +kernel
theorem dL_law_896 : decode cL_law 896 = .ok (.iadd, 1) := by decide +kernel
theorem dL_law_897 : decode cL_law 897 = .ok (.iaload, 1) := by decide +kernel
theorem dL_law_898 : decode cL_law 898 = .ok (.invokevirtual 104, 3) := by decide +kernel
theorem t1839 : Cond.methodLink RL 104 yX11_years ∈ GW := gw_mem 1953 (by decide +kernel) (by decide +kernel)
theorem t1840 : Cond.instanceMethod yX11_years ∈ GW := gw_mem 1954 (by decide +kernel) (by decide +kernel)
theorem t1841 : Cond.selects RX11 yX11_years yX11_years ∈ GW := gw_mem 1955 (by decide +kernel) (by decide +kernel)
theorem cw_L_104 {R : Room} {s : State} {args : Array Value} {rm : Room} {mc ms : Nat} (hts : ∀ w ∈ GW, w.before args s = true) (hrc : rm.cells = mc) (hrs : rm.slots = ms) (hR : rm.frames + 1 ≤ R.frames ∧ 8 + (2 + 11) + rm.locals ≤ R.locals) : CallW R s args RL RX11 104 yX11_years cX11_years 2 (some .int) (wl yX11_years cX11_years 2 (some .int)) rm mc ms 1 := cwV 1 hts (gi_V t1839 t1840 t1841 t18 t1842) rfl hrc hrs (by decide +kernel) hR
theorem dL_law_901 : decode cL_law 901 = .ok (.if_icmp .eq 556, 3) := by decide +kernel
set_option maxHeartbeats 4000000 in
set_option maxRecDepth 100000 in
theorem lc_18 {p : Program} {l : Launch} {e : Env} {s : State} {m : MethodId} {below : List Frame} {meth : Method} {c : Code} {b : Nat} {xs : Nat → Int32} (hl0 : l.stackTraces = false) (C0 : lw_At p s m meth c b 6 xs) (dC : Nat → ClassId) (dI : Nat → Nat → Nat) (cy : Nat → ClassId) (ad : Nat → Nat) (ai : Nat → Nat → Int32) (al : Nat → Nat → Int64) (aq : Nat → Nat → Option Nat) (am : Nat → Nat) (mi : Nat → Nat → Int32) (ml : Nat → Nat → Int64) (qo : Nat) (hX : OkX ad ai aq) (hM : OkM mi) (hEX : EnvX (FA s) s) (hK : va_K (dC, dI) vwCl (TY cy) s) {H : Heap} {locs : List Loc} (hP : va_P (dC, dI) vwCl (FX cy ad ai al aq ++ FM cy am mi ml) H) (hD : va_D (FA s) (FX cy ad ai al aq ++ FM cy am mi ml)) (hS : va_S (FA s) s.heap H locs) {ls : Array Slot} (hl : lv_has ls 7 [(4, .int 0), (3, .ref qo), (2, .ref (am 0)), (1, .ref (ad 0)), (0, .ref b)]) : W p l e room_1 s m #[Value.ref b] below meth c H locs 237 23836 (lw_Z below #[Value.ref b] s) (F0 m 881 ls []) := by
  obtain ⟨hx, hb, hr, hml, hown, htsL, hXs, hbl, hlocks, hgv⟩ := id C0
  have hown : s.vm.findClass RL = some m.cls := hown
  have hts : ∀ w ∈ GW, w.before #[Value.ref b] s = true := fun w hw => htsL w (List.mem_filter.mp hw).1
  have hA : ∀ q : Nat, s.heap.size ≤ q → FA s q := fun _ h => h
  have hbA : ¬ FA s b := Nat.not_le.mpr hbl
  refine lv_aload_n hx hb dL_law_881 rfl (lv_at hl 3 rfl) ?_
  refine lv_aload_n hx hb dL_law_882 rfl (lv_at hl 4 rfl) ?_
  refine lv_iload hx hb dL_law_883 (lv_at hl 0 rfl) ?_
  refine lv_iconst (v := 1) hx hb dL_law_885 (by decide) ?_
  refine lv_iadd hx hb dL_law_886 ?_
  refine as_i 1 (by decide) ?_
  refine va_sld hx hb hXs hbl hbA hS (show vp_in 1 6 from vp_in_nI (n := 1) (by decide) (by decide)) dL_law_887 ?_
  refine as_i (xs 1) rfl ?_
  refine jn_i (wr := [(am 0, .inr (12, [.int 0, .ref (am 1), .int 0, .int 0, .int 0, .int 0, .int 0, .int 0, .int 0, .int 0, .int 0, .int 0, .long 0, .int 0, .ref (am 2), .ref (am 3), .ref (am 4), .ref (am 5), .ref (am 6), .ref (am 7), .ref (am 8), .ref (am 9), .ref (am 10), .ref (am 11), .int 0, .int (-1), .ref (am 12), .ref (am 13), .ref (am 14), .int 0, .ref (am 15), .ref (am 16), .int 0, .int 0, .int 0, .ref (am 17), .int 0, .int 0, .ref (am 18), .ref (am 19), .int 0, .int 0, .ref (am 20), .int 0, .int 0, .int 0, .int 0])), (am 1, .inl (cy 0, 940, .inl (mi 1))), (am 2, .inl (cy 0, 575, .inl (mi 2))), (am 3, .inl (cy 0, 157, .inl (mi 3))), (am 4, .inl (cy 0, 1150, .inl (mi 4))), (am 5, .inl (cy 0, 1408, .inl (mi 5))), (am 6, .inl (cy 0, 176, .inl (mi 6))), (am 7, .inl (cy 1, 17, .inr (.inl (ml 7)))), (am 8, .inl (cy 1, 17, .inr (.inl (ml 8)))), (am 9, .inl (cy 1, 34, .inr (.inl (ml 9)))), (am 10, .inl (cy 2, 2, .inl (mi 10))), (am 11, .inl (cy 2, 2, .inl (mi 11))), (am 12, .inl (cy 1, 5632, .inr (.inl (ml 12)))), (am 13, .inl (cy 0, 5632, .inl (mi 13))), (am 14, .inl (cy 0, 10, .inl (mi 14))), (am 15, .inl (cy 0, 10, .inl (mi 15))), (am 16, .inl (cy 0, 10, .inl (mi 16))), (am 17, .inl (cy 0, 64, .inl (mi 17))), (am 18, .inl (cy 0, 160, .inl (mi 18))), (am 19, .inl (cy 0, 4, .inl (mi 19))), (am 20, .inl (cy 0, 240, .inl (mi 20)))]) (rV (As := [.int (xs 1)]) (rest := []) (ci := 11) ⟨hx, hb, hml, hown, hts⟩ (k_years l dC dI cy _ ad ai aq (xs 1) hX.2.2.1) (cw_L_101 hts rfl rfl ⟨Nat.le_of_ble_eq_true rfl, Nat.le_of_ble_eq_true rfl⟩) hP hD hK [0, 6, 7, 8, 9, 10, 11, 12, 13, 14, 15, 16, 17, 18, 22, 23, 29, 30, 31, 32, 33, 34, 35, 36, 37, 38, 39] rfl rfl rfl rfl bl0 e0 rfl hl.1 rfl (Nat.le_of_ble_eq_true rfl) dL_law_888 ⟨Nat.le_of_ble_eq_true rfl, Nat.le_of_ble_eq_true rfl⟩) hP hD hS hA [0, 6, 7, 8, 9, 10, 11, 12, 13, 14, 15, 16, 17, 18, 22, 23, 29, 30, 31, 32, 33, 34, 35, 36, 37, 38, 39] [114, 115, 116, 117, 118, 119, 120, 121, 122, 123, 124, 125, 126, 127, 128, 129, 130, 131, 132, 133, 134] rfl rfl rfl (by decide) (fun r_1 u_3 H locs hp_2 hP hD hS => ?_)
  have hp_2 : r_1 = yrF (xs 1) := hp_2
  have hP : va_P (dC, dI) vwCl [(am 0, .inr (12, [.int 0, .ref (am 1), .int 0, .int 0, .int 0, .int 0, .int 0, .int 0, .int 0, .int 0, .int 0, .int 0, .long 0, .int 0, .ref (am 2), .ref (am 3), .ref (am 4), .ref (am 5), .ref (am 6), .ref (am 7), .ref (am 8), .ref (am 9), .ref (am 10), .ref (am 11), .int 0, .int (-1), .ref (am 12), .ref (am 13), .ref (am 14), .int 0, .ref (am 15), .ref (am 16), .int 0, .int 0, .int 0, .ref (am 17), .int 0, .int 0, .ref (am 18), .ref (am 19), .int 0, .int 0, .ref (am 20), .int 0, .int 0, .int 0, .int 0])), (am 1, .inl (cy 0, 940, .inl (mi 1))), (am 2, .inl (cy 0, 575, .inl (mi 2))), (am 3, .inl (cy 0, 157, .inl (mi 3))), (am 4, .inl (cy 0, 1150, .inl (mi 4))), (am 5, .inl (cy 0, 1408, .inl (mi 5))), (am 6, .inl (cy 0, 176, .inl (mi 6))), (am 7, .inl (cy 1, 17, .inr (.inl (ml 7)))), (am 8, .inl (cy 1, 17, .inr (.inl (ml 8)))), (am 9, .inl (cy 1, 34, .inr (.inl (ml 9)))), (am 10, .inl (cy 2, 2, .inl (mi 10))), (am 11, .inl (cy 2, 2, .inl (mi 11))), (am 12, .inl (cy 1, 5632, .inr (.inl (ml 12)))), (am 13, .inl (cy 0, 5632, .inl (mi 13))), (am 14, .inl (cy 0, 10, .inl (mi 14))), (am 15, .inl (cy 0, 10, .inl (mi 15))), (am 16, .inl (cy 0, 10, .inl (mi 16))), (am 17, .inl (cy 0, 64, .inl (mi 17))), (am 18, .inl (cy 0, 160, .inl (mi 18))), (am 19, .inl (cy 0, 4, .inl (mi 19))), (am 20, .inl (cy 0, 240, .inl (mi 20)))] H := hP
  have hD : va_D (FA s) [(am 0, .inr (12, [.int 0, .ref (am 1), .int 0, .int 0, .int 0, .int 0, .int 0, .int 0, .int 0, .int 0, .int 0, .int 0, .long 0, .int 0, .ref (am 2), .ref (am 3), .ref (am 4), .ref (am 5), .ref (am 6), .ref (am 7), .ref (am 8), .ref (am 9), .ref (am 10), .ref (am 11), .int 0, .int (-1), .ref (am 12), .ref (am 13), .ref (am 14), .int 0, .ref (am 15), .ref (am 16), .int 0, .int 0, .int 0, .ref (am 17), .int 0, .int 0, .ref (am 18), .ref (am 19), .int 0, .int 0, .ref (am 20), .int 0, .int 0, .int 0, .int 0])), (am 1, .inl (cy 0, 940, .inl (mi 1))), (am 2, .inl (cy 0, 575, .inl (mi 2))), (am 3, .inl (cy 0, 157, .inl (mi 3))), (am 4, .inl (cy 0, 1150, .inl (mi 4))), (am 5, .inl (cy 0, 1408, .inl (mi 5))), (am 6, .inl (cy 0, 176, .inl (mi 6))), (am 7, .inl (cy 1, 17, .inr (.inl (ml 7)))), (am 8, .inl (cy 1, 17, .inr (.inl (ml 8)))), (am 9, .inl (cy 1, 34, .inr (.inl (ml 9)))), (am 10, .inl (cy 2, 2, .inl (mi 10))), (am 11, .inl (cy 2, 2, .inl (mi 11))), (am 12, .inl (cy 1, 5632, .inr (.inl (ml 12)))), (am 13, .inl (cy 0, 5632, .inl (mi 13))), (am 14, .inl (cy 0, 10, .inl (mi 14))), (am 15, .inl (cy 0, 10, .inl (mi 15))), (am 16, .inl (cy 0, 10, .inl (mi 16))), (am 17, .inl (cy 0, 64, .inl (mi 17))), (am 18, .inl (cy 0, 160, .inl (mi 18))), (am 19, .inl (cy 0, 4, .inl (mi 19))), (am 20, .inl (cy 0, 240, .inl (mi 20)))] := hD
  refine as_i (yrF (xs 1)) hp_2 ?_
  refine lv_aload_n hx hb dL_law_891 rfl (lv_at hl 2 rfl) ?_
  refine lv_aload_n hx hb dL_law_892 rfl (lv_at hl 4 rfl) ?_
  refine lv_iload hx hb dL_law_893 (lv_at hl 0 rfl) ?_
  refine lv_iconst (v := 1) hx hb dL_law_895 (by decide) ?_
  refine lv_iadd hx hb dL_law_896 ?_
  refine as_i 1 (by decide) ?_
  refine va_sld hx hb hXs hbl hbA hS (show vp_in 1 6 from vp_in_nI (n := 1) (by decide) (by decide)) dL_law_897 ?_
  refine as_i (xs 1) rfl ?_
  refine jn_i (wr := []) (rV (As := [.int (xs 1)]) (rest := [.int (yrF (xs 1))]) (ci := 12) ⟨hx, hb, hml, hown, hts⟩ (m_years l dC dI cy _ am mi (xs 1) hM.1) (cw_L_104 hts rfl rfl ⟨Nat.le_of_ble_eq_true rfl, Nat.le_of_ble_eq_true rfl⟩) hP hD hK [0, 2, 5] rfl rfl rfl rfl bl0 e0 rfl hl.1 rfl (Nat.le_of_ble_eq_true rfl) dL_law_898 ⟨Nat.le_of_ble_eq_true rfl, Nat.le_of_ble_eq_true rfl⟩) hP hD hS hA [0, 2, 5] [] rfl rfl rfl (by decide) (fun r_4 u_6 H locs hp_5 hP hD hS => ?_)
  have hp_5 : r_4 = yrF (xs 1) := hp_5
  have hP : va_P (dC, dI) vwCl [] H := hP
  have hD : va_D (FA s) [] := hD
  refine as_i (yrF (xs 1)) hp_5 ?_
  refine lv_icmp_eq (tgt := 1457) hx hb dL_law_901 (by decide) (fun _ => ?_) (fun c9 => absurd rfl c9)
  exact law_end C0 hS (lv_sub hl [0, 4] rfl) (by decide) (by decide)
theorem dL_law_906 : decode cL_law 906 = .ok (.aload_n 1, 1) := by decide +kernel
theorem dL_law_907 : decode cL_law 907 = .ok (.invokevirtual 105, 3) := by decide +kernel
theorem t842 : Cond.methodLink RL 105 yX10_undo ∈ GW := gw_mem 956 (by decide +kernel) (by decide +kernel)
theorem t843 : Cond.instanceMethod yX10_undo ∈ GW := gw_mem 957 (by decide +kernel) (by decide +kernel)
theorem t844 : Cond.selects RX10 yX10_undo yX10_undo ∈ GW := gw_mem 958 (by decide +kernel) (by decide +kernel)
theorem cw_L_105 {R : Room} {s : State} {args : Array Value} {rm : Room} {mc ms : Nat} (hts : ∀ w ∈ GW, w.before args s = true) (hrc : rm.cells = mc) (hrs : rm.slots = ms) (hR : rm.frames + 1 ≤ R.frames ∧ 8 + (1 + 11) + rm.locals ≤ R.locals) : CallW R s args RL RX10 105 yX10_undo cX10_undo 1 (some .int) (wl yX10_undo cX10_undo 1 (some .int)) rm mc ms 0 := cwV 0 hts (gi_V t842 t843 t844 t1 t845) rfl hrc hrs (by decide +kernel) hR
theorem dL_law_910 : decode cL_law 910 = .ok (.aload_n 2, 1) := by decide +kernel
theorem dL_law_911 : decode cL_law 911 = .ok (.invokevirtual 108, 3) := by decide +kernel
theorem t1854 : Cond.methodLink RL 108 yX11_undo ∈ GW := gw_mem 1968 (by decide +kernel) (by decide +kernel)
theorem t1855 : Cond.instanceMethod yX11_undo ∈ GW := gw_mem 1969 (by decide +kernel) (by decide +kernel)
theorem t1856 : Cond.selects RX11 yX11_undo yX11_undo ∈ GW := gw_mem 1970 (by decide +kernel) (by decide +kernel)
theorem cw_L_108 {R : Room} {s : State} {args : Array Value} {rm : Room} {mc ms : Nat} (hts : ∀ w ∈ GW, w.before args s = true) (hrc : rm.cells = mc) (hrs : rm.slots = ms) (hR : rm.frames + 1 ≤ R.frames ∧ 8 + (2 + 11) + rm.locals ≤ R.locals) : CallW R s args RL RX11 108 yX11_undo cX11_undo 2 (some .int) (wl yX11_undo cX11_undo 2 (some .int)) rm mc ms 0 := cwV 0 hts (gi_V t1854 t1855 t1856 t18 t1857) rfl hrc hrs (by decide +kernel) hR
theorem dL_law_914 : decode cL_law 914 = .ok (.if_icmp .eq 543, 3) := by decide +kernel
set_option maxHeartbeats 4000000 in
set_option maxRecDepth 100000 in
theorem lc_19 {p : Program} {l : Launch} {e : Env} {s : State} {m : MethodId} {below : List Frame} {meth : Method} {c : Code} {b : Nat} {xs : Nat → Int32} (hl0 : l.stackTraces = false) (C0 : lw_At p s m meth c b 6 xs) (dC : Nat → ClassId) (dI : Nat → Nat → Nat) (cy : Nat → ClassId) (ad : Nat → Nat) (ai : Nat → Nat → Int32) (al : Nat → Nat → Int64) (aq : Nat → Nat → Option Nat) (am : Nat → Nat) (mi : Nat → Nat → Int32) (ml : Nat → Nat → Int64) (qo : Nat) (hX : OkX ad ai aq) (hM : OkM mi) (hEX : EnvX (FA s) s) (hK : va_K (dC, dI) vwCl (TY cy) s) {H : Heap} {locs : List Loc} (hP : va_P (dC, dI) vwCl (FX cy ad ai al aq ++ FM cy am mi ml) H) (hD : va_D (FA s) (FX cy ad ai al aq ++ FM cy am mi ml)) (hS : va_S (FA s) s.heap H locs) {ls : Array Slot} (hl : lv_has ls 7 [(4, .int 0), (3, .ref qo), (2, .ref (am 0)), (1, .ref (ad 0)), (0, .ref b)]) : W p l e room_1 s m #[Value.ref b] below meth c H locs 237 23836 (lw_Z below #[Value.ref b] s) (F0 m 906 ls []) := by
  obtain ⟨hx, hb, hr, hml, hown, htsL, hXs, hbl, hlocks, hgv⟩ := id C0
  have hown : s.vm.findClass RL = some m.cls := hown
  have hts : ∀ w ∈ GW, w.before #[Value.ref b] s = true := fun w hw => htsL w (List.mem_filter.mp hw).1
  have hA : ∀ q : Nat, s.heap.size ≤ q → FA s q := fun _ h => h
  have hbA : ¬ FA s b := Nat.not_le.mpr hbl
  refine lv_aload_n hx hb dL_law_906 rfl (lv_at hl 3 rfl) ?_
  refine jr_i (rVr (As := []) (rest := []) (ci := 11) ⟨hx, hb, hml, hown, hts⟩ (k_undo l dC dI cy ad ) (cw_L_105 hts rfl rfl ⟨Nat.le_of_ble_eq_true rfl, Nat.le_of_ble_eq_true rfl⟩) hP hK [0, 22, 6] rfl rfl rfl rfl hl.1 rfl (Nat.le_of_ble_eq_true rfl) dL_law_907 ⟨Nat.le_of_ble_eq_true rfl, Nat.le_of_ble_eq_true rfl⟩) hP hS (fun r_1 H locs hp_2 hP hS => ?_)
  refine as_i (-1) hp_2 ?_
  refine lv_aload_n hx hb dL_law_910 rfl (lv_at hl 2 rfl) ?_
  refine jn_i (wr := []) (rV (As := []) (rest := [.int (-1)]) (ci := 12) ⟨hx, hb, hml, hown, hts⟩ (m_undo l dC dI cy _ am ) (cw_L_108 hts rfl rfl ⟨Nat.le_of_ble_eq_true rfl, Nat.le_of_ble_eq_true rfl⟩) hP hD hK [114] rfl rfl rfl rfl bl0 e0 rfl hl.1 rfl (Nat.le_of_ble_eq_true rfl) dL_law_911 ⟨Nat.le_of_ble_eq_true rfl, Nat.le_of_ble_eq_true rfl⟩) hP hD hS hA [114] [] rfl rfl rfl (by decide) (fun r_3 u_5 H locs hp_4 hP hD hS => ?_)
  have hp_4 : r_3 = (-1) := hp_4
  have hP : va_P (dC, dI) vwCl [] H := hP
  have hD : va_D (FA s) [] := hD
  refine as_i (-1) hp_4 ?_
  refine lv_icmp_eq (tgt := 1457) hx hb dL_law_914 (by decide) (fun _ => ?_) (fun c9 => absurd (by decide) c9)
  exact law_end C0 hS (lv_sub hl [0, 4] rfl) (by decide) (by decide)
theorem dL_law_919 : decode cL_law 919 = .ok (.aload_n 1, 1) := by decide +kernel
theorem dL_law_920 : decode cL_law 920 = .ok (.aload_n 0, 1) := by decide +kernel
theorem dL_law_921 : decode cL_law 921 = .ok (.iload 4, 2) := by decide +kernel
theorem dL_law_923 : decode cL_law 923 = .ok (.iconst 1, 1) := by decide +kernel
theorem dL_law_924 : decode cL_law 924 = .ok (.iadd, 1) := by decide +kernel
theorem dL_law_925 : decode cL_law 925 = .ok (.iaload, 1) := by decide +kernel
theorem dL_law_926 : decode cL_law 926 = .ok (.invokevirtual 109, 3) := by decide +kernel
theorem t850 : Cond.methodLink RL 109 yX10_family ∈ GW := gw_mem 964 (by decide +kernel) (by decide +kernel)
theorem t851 : Cond.instanceMethod yX10_family ∈ GW := gw_mem 965 (by decide +kernel) (by decide +kernel)
theorem t852 : Cond.selects RX10 yX10_family yX10_family ∈ GW := gw_mem 966 (by decide +kernel) (by decide +kernel)
theorem cw_L_109 {R : Room} {s : State} {args : Array Value} {rm : Room} {mc ms : Nat} (hts : ∀ w ∈ GW, w.before args s = true) (hrc : rm.cells = mc) (hrs : rm.slots = ms) (hR : rm.frames + 1 ≤ R.frames ∧ 8 + (2 + 11) + rm.locals ≤ R.locals) : CallW R s args RL RX10 109 yX10_family cX10_family 2 (some .int) (wl yX10_family cX10_family 2 (some .int)) rm mc ms 1 := cwV 1 hts (gi_V t850 t851 t852 t1 t853) rfl hrc hrs (by decide +kernel) hR
theorem dL_law_929 : decode cL_law 929 = .ok (.aload_n 2, 1) := by decide +kernel
theorem dL_law_930 : decode cL_law 930 = .ok (.aload_n 0, 1) := by decide +kernel
theorem dL_law_931 : decode cL_law 931 = .ok (.iload 4, 2) := by decide +kernel
theorem dL_law_933 : decode cL_law 933 = .ok (.iconst 1, 1) := by decide +kernel
theorem dL_law_934 : decode cL_law 934 = .ok (.iadd, 1) := by decide +kernel
theorem dL_law_935 : decode cL_law 935 = .ok (.iaload, 1) := by decide +kernel
theorem dL_law_936 : decode cL_law 936 = .ok (.invokevirtual 112, 3) := by decide +kernel
theorem t1858 : Cond.methodLink RL 112 yX11_family ∈ GW := gw_mem 1972 (by decide +kernel) (by decide +kernel)
theorem t1859 : Cond.instanceMethod yX11_family ∈ GW := gw_mem 1973 (by decide +kernel) (by decide +kernel)
theorem t1860 : Cond.selects RX11 yX11_family yX11_family ∈ GW := gw_mem 1974 (by decide +kernel) (by decide +kernel)
theorem cw_L_112 {R : Room} {s : State} {args : Array Value} {rm : Room} {mc ms : Nat} (hts : ∀ w ∈ GW, w.before args s = true) (hrc : rm.cells = mc) (hrs : rm.slots = ms) (hR : rm.frames + 1 ≤ R.frames ∧ 8 + (5 + 11) + rm.locals ≤ R.locals) : CallW R s args RL RX11 112 yX11_family cX11_family 5 (some .int) (wl yX11_family cX11_family 5 (some .int)) rm mc ms 1 := cwV 1 hts (gi_V t1858 t1859 t1860 t18 t1861) rfl hrc hrs (by decide +kernel) hR
theorem dL_law_939 : decode cL_law 939 = .ok (.if_icmp .eq 518, 3) := by decide +kernel
set_option maxHeartbeats 4000000 in
set_option maxRecDepth 100000 in
theorem lc_20 {p : Program} {l : Launch} {e : Env} {s : State} {m : MethodId} {below : List Frame} {meth : Method} {c : Code} {b : Nat} {xs : Nat → Int32} (hl0 : l.stackTraces = false) (C0 : lw_At p s m meth c b 6 xs) (dC : Nat → ClassId) (dI : Nat → Nat → Nat) (cy : Nat → ClassId) (ad : Nat → Nat) (ai : Nat → Nat → Int32) (al : Nat → Nat → Int64) (aq : Nat → Nat → Option Nat) (am : Nat → Nat) (mi : Nat → Nat → Int32) (ml : Nat → Nat → Int64) (qo : Nat) (hX : OkX ad ai aq) (hM : OkM mi) (hEX : EnvX (FA s) s) (hK : va_K (dC, dI) vwCl (TY cy) s) {H : Heap} {locs : List Loc} (hP : va_P (dC, dI) vwCl (FX cy ad ai al aq ++ FM cy am mi ml) H) (hD : va_D (FA s) (FX cy ad ai al aq ++ FM cy am mi ml)) (hS : va_S (FA s) s.heap H locs) {ls : Array Slot} (hl : lv_has ls 7 [(4, .int 0), (3, .ref qo), (2, .ref (am 0)), (1, .ref (ad 0)), (0, .ref b)]) : W p l e room_1 s m #[Value.ref b] below meth c H locs 237 23836 (lw_Z below #[Value.ref b] s) (F0 m 919 ls []) := by
  obtain ⟨hx, hb, hr, hml, hown, htsL, hXs, hbl, hlocks, hgv⟩ := id C0
  have hown : s.vm.findClass RL = some m.cls := hown
  have hts : ∀ w ∈ GW, w.before #[Value.ref b] s = true := fun w hw => htsL w (List.mem_filter.mp hw).1
  have hA : ∀ q : Nat, s.heap.size ≤ q → FA s q := fun _ h => h
  have hbA : ¬ FA s b := Nat.not_le.mpr hbl
  refine lv_aload_n hx hb dL_law_919 rfl (lv_at hl 3 rfl) ?_
  refine lv_aload_n hx hb dL_law_920 rfl (lv_at hl 4 rfl) ?_
  refine lv_iload hx hb dL_law_921 (lv_at hl 0 rfl) ?_
  refine lv_iconst (v := 1) hx hb dL_law_923 (by decide) ?_
  refine lv_iadd hx hb dL_law_924 ?_
  refine as_i 1 (by decide) ?_
  refine va_sld hx hb hXs hbl hbA hS (show vp_in 1 6 from vp_in_nI (n := 1) (by decide) (by decide)) dL_law_925 ?_
  refine as_i (xs 1) rfl ?_
  refine jr_i (rVr (As := [.int (xs 1)]) (rest := []) (ci := 11) ⟨hx, hb, hml, hown, hts⟩ (k_family l dC dI cy ad (xs 1) ) (cw_L_109 hts rfl rfl ⟨Nat.le_of_ble_eq_true rfl, Nat.le_of_ble_eq_true rfl⟩) hP hK [0, 22, 23] rfl rfl rfl rfl hl.1 rfl (Nat.le_of_ble_eq_true rfl) dL_law_926 ⟨Nat.le_of_ble_eq_true rfl, Nat.le_of_ble_eq_true rfl⟩) hP hS (fun r_1 H locs hp_2 hP hS => ?_)
  refine as_i (-1) hp_2 ?_
  refine lv_aload_n hx hb dL_law_929 rfl (lv_at hl 2 rfl) ?_
  refine lv_aload_n hx hb dL_law_930 rfl (lv_at hl 4 rfl) ?_
  refine lv_iload hx hb dL_law_931 (lv_at hl 0 rfl) ?_
  refine lv_iconst (v := 1) hx hb dL_law_933 (by decide) ?_
  refine lv_iadd hx hb dL_law_934 ?_
  refine as_i 1 (by decide) ?_
  refine va_sld hx hb hXs hbl hbA hS (show vp_in 1 6 from vp_in_nI (n := 1) (by decide) (by decide)) dL_law_935 ?_
  refine as_i (xs 1) rfl ?_
  refine jn_i (wr := []) (rV (As := [.int (xs 1)]) (rest := [.int (-1)]) (ci := 12) ⟨hx, hb, hml, hown, hts⟩ (m_family l dC dI cy _ am mi (xs 1) hM.1) (cw_L_112 hts rfl rfl ⟨Nat.le_of_ble_eq_true rfl, Nat.le_of_ble_eq_true rfl⟩) hP hD hK [114, 116] rfl rfl rfl rfl bl0 e0 rfl hl.1 rfl (Nat.le_of_ble_eq_true rfl) dL_law_936 ⟨Nat.le_of_ble_eq_true rfl, Nat.le_of_ble_eq_true rfl⟩) hP hD hS hA [114, 116] [] rfl rfl rfl (by decide) (fun r_3 u_5 H locs hp_4 hP hD hS => ?_)
  have hp_4 : r_3 = (-1) := hp_4
  have hP : va_P (dC, dI) vwCl [] H := hP
  have hD : va_D (FA s) [] := hD
  refine as_i (-1) hp_4 ?_
  refine lv_icmp_eq (tgt := 1457) hx hb dL_law_939 (by decide) (fun _ => ?_) (fun c9 => absurd (by decide) c9)
  exact law_end C0 hS (lv_sub hl [0, 4] rfl) (by decide) (by decide)
theorem dL_law_944 : decode cL_law 944 = .ok (.aload_n 1, 1) := by decide +kernel
theorem dL_law_945 : decode cL_law 945 = .ok (.aload_n 0, 1) := by decide +kernel
theorem dL_law_946 : decode cL_law 946 = .ok (.iload 4, 2) := by decide +kernel
theorem dL_law_948 : decode cL_law 948 = .ok (.iconst 1, 1) := by decide +kernel
theorem dL_law_949 : decode cL_law 949 = .ok (.iadd, 1) := by decide +kernel
theorem dL_law_950 : decode cL_law 950 = .ok (.iaload, 1) := by decide +kernel
theorem dL_law_951 : decode cL_law 951 = .ok (.aload_n 0, 1) := by decide +kernel
theorem dL_law_952 : decode cL_law 952 = .ok (.iload 4, 2) := by decide +kernel
theorem dL_law_954 : decode cL_law 954 = .ok (.iconst 2, 1) := by decide +kernel
theorem dL_law_955 : decode cL_law 955 = .ok (.iadd, 1) := by decide +kernel
theorem dL_law_956 : decode cL_law 956 = .ok (.iaload, 1) := by decide +kernel
theorem dL_law_957 : decode cL_law 957 = .ok (.invokevirtual 113, 3) := by decide +kernel
theorem t858 : Cond.methodLink RL 113 yX10_balance ∈ GW := gw_mem 972 (by decide +kernel) (by decide +kernel)
theorem t859 : Cond.instanceMethod yX10_balance ∈ GW := gw_mem 973 (by decide +kernel) (by decide +kernel)
theorem t860 : Cond.selects RX10 yX10_balance yX10_balance ∈ GW := gw_mem 974 (by decide +kernel) (by decide +kernel)
theorem cw_L_113 {R : Room} {s : State} {args : Array Value} {rm : Room} {mc ms : Nat} (hts : ∀ w ∈ GW, w.before args s = true) (hrc : rm.cells = mc) (hrs : rm.slots = ms) (hR : rm.frames + 1 ≤ R.frames ∧ 8 + (5 + 11) + rm.locals ≤ R.locals) : CallW R s args RL RX10 113 yX10_balance cX10_balance 5 (some .int) (wl yX10_balance cX10_balance 5 (some .int)) rm mc ms 2 := cwV 2 hts (gi_V t858 t859 t860 t1 t861) rfl hrc hrs (by decide +kernel) hR
theorem dL_law_960 : decode cL_law 960 = .ok (.aload_n 2, 1) := by decide +kernel
theorem dL_law_961 : decode cL_law 961 = .ok (.aload_n 0, 1) := by decide +kernel
theorem dL_law_962 : decode cL_law 962 = .ok (.iload 4, 2) := by decide +kernel
theorem dL_law_964 : decode cL_law 964 = .ok (.iconst 1, 1) := by decide +kernel
theorem dL_law_965 : decode cL_law 965 = .ok (.iadd, 1) := by decide +kernel
theorem dL_law_966 : decode cL_law 966 = .ok (.iaload, 1) := by decide +kernel
theorem dL_law_967 : decode cL_law 967 = .ok (.aload_n 0, 1) := by decide +kernel
theorem dL_law_968 : decode cL_law 968 = .ok (.iload 4, 2) := by decide +kernel
theorem dL_law_970 : decode cL_law 970 = .ok (.iconst 2, 1) := by decide +kernel
theorem dL_law_971 : decode cL_law 971 = .ok (.iadd, 1) := by decide +kernel
theorem dL_law_972 : decode cL_law 972 = .ok (.iaload, 1) := by decide +kernel
theorem dL_law_973 : decode cL_law 973 = .ok (.invokevirtual 116, 3) := by decide +kernel
theorem t1862 : Cond.methodLink RL 116 yX11_balance ∈ GW := gw_mem 1976 (by decide +kernel) (by decide +kernel)
theorem t1863 : Cond.instanceMethod yX11_balance ∈ GW := gw_mem 1977 (by decide +kernel) (by decide +kernel)
theorem t1864 : Cond.selects RX11 yX11_balance yX11_balance ∈ GW := gw_mem 1978 (by decide +kernel) (by decide +kernel)
theorem cw_L_116 {R : Room} {s : State} {args : Array Value} {rm : Room} {mc ms : Nat} (hts : ∀ w ∈ GW, w.before args s = true) (hrc : rm.cells = mc) (hrs : rm.slots = ms) (hR : rm.frames + 1 ≤ R.frames ∧ 8 + (6 + 11) + rm.locals ≤ R.locals) : CallW R s args RL RX11 116 yX11_balance cX11_balance 6 (some .int) (wl yX11_balance cX11_balance 6 (some .int)) rm mc ms 2 := cwV 2 hts (gi_V t1862 t1863 t1864 t18 t1865) rfl hrc hrs (by decide +kernel) hR
theorem dL_law_976 : decode cL_law 976 = .ok (.if_icmp .eq 481, 3) := by decide +kernel
set_option maxHeartbeats 4000000 in
set_option maxRecDepth 100000 in
theorem lc_21 {p : Program} {l : Launch} {e : Env} {s : State} {m : MethodId} {below : List Frame} {meth : Method} {c : Code} {b : Nat} {xs : Nat → Int32} (hl0 : l.stackTraces = false) (C0 : lw_At p s m meth c b 6 xs) (dC : Nat → ClassId) (dI : Nat → Nat → Nat) (cy : Nat → ClassId) (ad : Nat → Nat) (ai : Nat → Nat → Int32) (al : Nat → Nat → Int64) (aq : Nat → Nat → Option Nat) (am : Nat → Nat) (mi : Nat → Nat → Int32) (ml : Nat → Nat → Int64) (qo : Nat) (hX : OkX ad ai aq) (hM : OkM mi) (hEX : EnvX (FA s) s) (hK : va_K (dC, dI) vwCl (TY cy) s) {H : Heap} {locs : List Loc} (hP : va_P (dC, dI) vwCl (FX cy ad ai al aq ++ FM cy am mi ml) H) (hD : va_D (FA s) (FX cy ad ai al aq ++ FM cy am mi ml)) (hS : va_S (FA s) s.heap H locs) {ls : Array Slot} (hl : lv_has ls 7 [(4, .int 0), (3, .ref qo), (2, .ref (am 0)), (1, .ref (ad 0)), (0, .ref b)]) : W p l e room_1 s m #[Value.ref b] below meth c H locs 237 23836 (lw_Z below #[Value.ref b] s) (F0 m 944 ls []) := by
  obtain ⟨hx, hb, hr, hml, hown, htsL, hXs, hbl, hlocks, hgv⟩ := id C0
  have hown : s.vm.findClass RL = some m.cls := hown
  have hts : ∀ w ∈ GW, w.before #[Value.ref b] s = true := fun w hw => htsL w (List.mem_filter.mp hw).1
  have hA : ∀ q : Nat, s.heap.size ≤ q → FA s q := fun _ h => h
  have hbA : ¬ FA s b := Nat.not_le.mpr hbl
  refine lv_aload_n hx hb dL_law_944 rfl (lv_at hl 3 rfl) ?_
  refine lv_aload_n hx hb dL_law_945 rfl (lv_at hl 4 rfl) ?_
  refine lv_iload hx hb dL_law_946 (lv_at hl 0 rfl) ?_
  refine lv_iconst (v := 1) hx hb dL_law_948 (by decide) ?_
  refine lv_iadd hx hb dL_law_949 ?_
  refine as_i 1 (by decide) ?_
  refine va_sld hx hb hXs hbl hbA hS (show vp_in 1 6 from vp_in_nI (n := 1) (by decide) (by decide)) dL_law_950 ?_
  refine as_i (xs 1) rfl ?_
  refine lv_aload_n hx hb dL_law_951 rfl (lv_at hl 4 rfl) ?_
  refine lv_iload hx hb dL_law_952 (lv_at hl 0 rfl) ?_
  refine lv_iconst (v := 2) hx hb dL_law_954 (by decide) ?_
  refine lv_iadd hx hb dL_law_955 ?_
  refine as_i 2 (by decide) ?_
  refine va_sld hx hb hXs hbl hbA hS (show vp_in 2 6 from vp_in_nI (n := 2) (by decide) (by decide)) dL_law_956 ?_
  refine as_i (xs 2) rfl ?_
  refine jr_i (rVr (As := [.int (xs 1), .int (xs 2)]) (rest := []) (ci := 11) ⟨hx, hb, hml, hown, hts⟩ (k_balance l dC dI cy ad (xs 1) (xs 2) ) (cw_L_113 hts rfl rfl ⟨Nat.le_of_ble_eq_true rfl, Nat.le_of_ble_eq_true rfl⟩) hP hK [0, 22, 23] rfl rfl rfl rfl hl.1 rfl (Nat.le_of_ble_eq_true rfl) dL_law_957 ⟨Nat.le_of_ble_eq_true rfl, Nat.le_of_ble_eq_true rfl⟩) hP hS (fun r_1 H locs hp_2 hP hS => ?_)
  refine as_i (balF (xs 1) (xs 2)) hp_2 ?_
  refine lv_aload_n hx hb dL_law_960 rfl (lv_at hl 2 rfl) ?_
  refine lv_aload_n hx hb dL_law_961 rfl (lv_at hl 4 rfl) ?_
  refine lv_iload hx hb dL_law_962 (lv_at hl 0 rfl) ?_
  refine lv_iconst (v := 1) hx hb dL_law_964 (by decide) ?_
  refine lv_iadd hx hb dL_law_965 ?_
  refine as_i 1 (by decide) ?_
  refine va_sld hx hb hXs hbl hbA hS (show vp_in 1 6 from vp_in_nI (n := 1) (by decide) (by decide)) dL_law_966 ?_
  refine as_i (xs 1) rfl ?_
  refine lv_aload_n hx hb dL_law_967 rfl (lv_at hl 4 rfl) ?_
  refine lv_iload hx hb dL_law_968 (lv_at hl 0 rfl) ?_
  refine lv_iconst (v := 2) hx hb dL_law_970 (by decide) ?_
  refine lv_iadd hx hb dL_law_971 ?_
  refine as_i 2 (by decide) ?_
  refine va_sld hx hb hXs hbl hbA hS (show vp_in 2 6 from vp_in_nI (n := 2) (by decide) (by decide)) dL_law_972 ?_
  refine as_i (xs 2) rfl ?_
  refine jn_i (wr := []) (rV (As := [.int (xs 1), .int (xs 2)]) (rest := [.int (balF (xs 1) (xs 2))]) (ci := 12) ⟨hx, hb, hml, hown, hts⟩ (m_balance l dC dI cy _ am mi (xs 1) (xs 2) hM.1) (cw_L_116 hts rfl rfl ⟨Nat.le_of_ble_eq_true rfl, Nat.le_of_ble_eq_true rfl⟩) hP hD hK [114, 116] rfl rfl rfl rfl bl0 e0 rfl hl.1 rfl (Nat.le_of_ble_eq_true rfl) dL_law_973 ⟨Nat.le_of_ble_eq_true rfl, Nat.le_of_ble_eq_true rfl⟩) hP hD hS hA [114, 116] [] rfl rfl rfl (by decide) (fun r_3 u_5 H locs hp_4 hP hD hS => ?_)
  have hp_4 : r_3 = balF (xs 1) (xs 2) := hp_4
  have hP : va_P (dC, dI) vwCl [] H := hP
  have hD : va_D (FA s) [] := hD
  refine as_i (balF (xs 1) (xs 2)) hp_4 ?_
  refine lv_icmp_eq (tgt := 1457) hx hb dL_law_976 (by decide) (fun _ => ?_) (fun c9 => absurd rfl c9)
  exact law_end C0 hS (lv_sub hl [0, 4] rfl) (by decide) (by decide)
theorem dL_law_981 : decode cL_law 981 = .ok (.aload_n 1, 1) := by decide +kernel
theorem dL_law_982 : decode cL_law 982 = .ok (.aload_n 0, 1) := by decide +kernel
theorem dL_law_983 : decode cL_law 983 = .ok (.iload 4, 2) := by decide +kernel
theorem dL_law_985 : decode cL_law 985 = .ok (.iconst 1, 1) := by decide +kernel
theorem dL_law_986 : decode cL_law 986 = .ok (.iadd, 1) := by decide +kernel
theorem dL_law_987 : decode cL_law 987 = .ok (.iaload, 1) := by decide +kernel
theorem dL_law_988 : decode cL_law 988 = .ok (.invokevirtual 117, 3) := by decide +kernel
theorem t870 : Cond.methodLink RL 117 yX10_help ∈ GW := gw_mem 984 (by decide +kernel) (by decide +kernel)
theorem t871 : Cond.instanceMethod yX10_help ∈ GW := gw_mem 985 (by decide +kernel) (by decide +kernel)
theorem t872 : Cond.selects RX10 yX10_help yX10_help ∈ GW := gw_mem 986 (by decide +kernel) (by decide +kernel)
theorem cw_L_117 {R : Room} {s : State} {args : Array Value} {rm : Room} {mc ms : Nat} (hts : ∀ w ∈ GW, w.before args s = true) (hrc : rm.cells = mc) (hrs : rm.slots = ms) (hR : rm.frames + 1 ≤ R.frames ∧ 8 + (3 + 11) + rm.locals ≤ R.locals) : CallW R s args RL RX10 117 yX10_help cX10_help 3 (some .int) (wl yX10_help cX10_help 3 (some .int)) rm mc ms 1 := cwV 1 hts (gi_V t870 t871 t872 t1 t873) rfl hrc hrs (by decide +kernel) hR
theorem dL_law_991 : decode cL_law 991 = .ok (.aload_n 2, 1) := by decide +kernel
theorem dL_law_992 : decode cL_law 992 = .ok (.aload_n 0, 1) := by decide +kernel
theorem dL_law_993 : decode cL_law 993 = .ok (.iload 4, 2) := by decide +kernel
theorem dL_law_995 : decode cL_law 995 = .ok (.iconst 1, 1) := by decide +kernel
theorem dL_law_996 : decode cL_law 996 = .ok (.iadd, 1) := by decide +kernel
theorem dL_law_997 : decode cL_law 997 = .ok (.iaload, 1) := by decide +kernel
theorem dL_law_998 : decode cL_law 998 = .ok (.invokevirtual 120, 3) := by decide +kernel
theorem t1870 : Cond.methodLink RL 120 yX11_help ∈ GW := gw_mem 1984 (by decide +kernel) (by decide +kernel)
theorem t1871 : Cond.instanceMethod yX11_help ∈ GW := gw_mem 1985 (by decide +kernel) (by decide +kernel)
theorem t1872 : Cond.selects RX11 yX11_help yX11_help ∈ GW := gw_mem 1986 (by decide +kernel) (by decide +kernel)
theorem cw_L_120 {R : Room} {s : State} {args : Array Value} {rm : Room} {mc ms : Nat} (hts : ∀ w ∈ GW, w.before args s = true) (hrc : rm.cells = mc) (hrs : rm.slots = ms) (hR : rm.frames + 1 ≤ R.frames ∧ 8 + (7 + 11) + rm.locals ≤ R.locals) : CallW R s args RL RX11 120 yX11_help cX11_help 7 (some .int) (wl yX11_help cX11_help 7 (some .int)) rm mc ms 1 := cwV 1 hts (gi_V t1870 t1871 t1872 t18 t1873) rfl hrc hrs (by decide +kernel) hR
theorem dL_law_1001 : decode cL_law 1001 = .ok (.if_icmp .eq 456, 3) := by decide +kernel
set_option maxHeartbeats 4000000 in
set_option maxRecDepth 100000 in
theorem lc_22 {p : Program} {l : Launch} {e : Env} {s : State} {m : MethodId} {below : List Frame} {meth : Method} {c : Code} {b : Nat} {xs : Nat → Int32} (hl0 : l.stackTraces = false) (C0 : lw_At p s m meth c b 6 xs) (dC : Nat → ClassId) (dI : Nat → Nat → Nat) (cy : Nat → ClassId) (ad : Nat → Nat) (ai : Nat → Nat → Int32) (al : Nat → Nat → Int64) (aq : Nat → Nat → Option Nat) (am : Nat → Nat) (mi : Nat → Nat → Int32) (ml : Nat → Nat → Int64) (qo : Nat) (hX : OkX ad ai aq) (hM : OkM mi) (hEX : EnvX (FA s) s) (hK : va_K (dC, dI) vwCl (TY cy) s) {H : Heap} {locs : List Loc} (hP : va_P (dC, dI) vwCl (FX cy ad ai al aq ++ FM cy am mi ml) H) (hD : va_D (FA s) (FX cy ad ai al aq ++ FM cy am mi ml)) (hS : va_S (FA s) s.heap H locs) {ls : Array Slot} (hl : lv_has ls 7 [(4, .int 0), (3, .ref qo), (2, .ref (am 0)), (1, .ref (ad 0)), (0, .ref b)]) : W p l e room_1 s m #[Value.ref b] below meth c H locs 237 23836 (lw_Z below #[Value.ref b] s) (F0 m 981 ls []) := by
  obtain ⟨hx, hb, hr, hml, hown, htsL, hXs, hbl, hlocks, hgv⟩ := id C0
  have hown : s.vm.findClass RL = some m.cls := hown
  have hts : ∀ w ∈ GW, w.before #[Value.ref b] s = true := fun w hw => htsL w (List.mem_filter.mp hw).1
  have hA : ∀ q : Nat, s.heap.size ≤ q → FA s q := fun _ h => h
  have hbA : ¬ FA s b := Nat.not_le.mpr hbl
  refine lv_aload_n hx hb dL_law_981 rfl (lv_at hl 3 rfl) ?_
  refine lv_aload_n hx hb dL_law_982 rfl (lv_at hl 4 rfl) ?_
  refine lv_iload hx hb dL_law_983 (lv_at hl 0 rfl) ?_
  refine lv_iconst (v := 1) hx hb dL_law_985 (by decide) ?_
  refine lv_iadd hx hb dL_law_986 ?_
  refine as_i 1 (by decide) ?_
  refine va_sld hx hb hXs hbl hbA hS (show vp_in 1 6 from vp_in_nI (n := 1) (by decide) (by decide)) dL_law_987 ?_
  refine as_i (xs 1) rfl ?_
  refine jr_i (rVr (As := [.int (xs 1)]) (rest := []) (ci := 11) ⟨hx, hb, hml, hown, hts⟩ (k_help l dC dI cy ad (xs 1) ) (cw_L_117 hts rfl rfl ⟨Nat.le_of_ble_eq_true rfl, Nat.le_of_ble_eq_true rfl⟩) hP hK [0, 22, 23] rfl rfl rfl rfl hl.1 rfl (Nat.le_of_ble_eq_true rfl) dL_law_988 ⟨Nat.le_of_ble_eq_true rfl, Nat.le_of_ble_eq_true rfl⟩) hP hS (fun r_1 H locs hp_2 hP hS => ?_)
  refine as_i (-1) hp_2 ?_
  refine lv_aload_n hx hb dL_law_991 rfl (lv_at hl 2 rfl) ?_
  refine lv_aload_n hx hb dL_law_992 rfl (lv_at hl 4 rfl) ?_
  refine lv_iload hx hb dL_law_993 (lv_at hl 0 rfl) ?_
  refine lv_iconst (v := 1) hx hb dL_law_995 (by decide) ?_
  refine lv_iadd hx hb dL_law_996 ?_
  refine as_i 1 (by decide) ?_
  refine va_sld hx hb hXs hbl hbA hS (show vp_in 1 6 from vp_in_nI (n := 1) (by decide) (by decide)) dL_law_997 ?_
  refine as_i (xs 1) rfl ?_
  refine jn_i (wr := []) (rV (As := [.int (xs 1)]) (rest := [.int (-1)]) (ci := 12) ⟨hx, hb, hml, hown, hts⟩ (m_help l dC dI cy _ am mi (xs 1) hM.1) (cw_L_120 hts rfl rfl ⟨Nat.le_of_ble_eq_true rfl, Nat.le_of_ble_eq_true rfl⟩) hP hD hK [114, 116] rfl rfl rfl rfl bl0 e0 rfl hl.1 rfl (Nat.le_of_ble_eq_true rfl) dL_law_998 ⟨Nat.le_of_ble_eq_true rfl, Nat.le_of_ble_eq_true rfl⟩) hP hD hS hA [114, 116] [] rfl rfl rfl (by decide) (fun r_3 u_5 H locs hp_4 hP hD hS => ?_)
  have hp_4 : r_3 = (-1) := hp_4
  have hP : va_P (dC, dI) vwCl [] H := hP
  have hD : va_D (FA s) [] := hD
  refine as_i (-1) hp_4 ?_
  refine lv_icmp_eq (tgt := 1457) hx hb dL_law_1001 (by decide) (fun _ => ?_) (fun c9 => absurd (by decide) c9)
  exact law_end C0 hS (lv_sub hl [0, 4] rfl) (by decide) (by decide)
theorem dL_law_1006 : decode cL_law 1006 = .ok (.aload_n 1, 1) := by decide +kernel
theorem dL_law_1007 : decode cL_law 1007 = .ok (.invokevirtual 121, 3) := by decide +kernel
theorem t895 : Cond.methodLink RL 121 yX10_helping ∈ GW := gw_mem 1009 (by decide +kernel) (by decide +kernel)
theorem t896 : Cond.instanceMethod yX10_helping ∈ GW := gw_mem 1010 (by decide +kernel) (by decide +kernel)
theorem t897 : Cond.selects RX10 yX10_helping yX10_helping ∈ GW := gw_mem 1011 (by decide +kernel) (by decide +kernel)
theorem cw_L_121 {R : Room} {s : State} {args : Array Value} {rm : Room} {mc ms : Nat} (hts : ∀ w ∈ GW, w.before args s = true) (hrc : rm.cells = mc) (hrs : rm.slots = ms) (hR : rm.frames + 1 ≤ R.frames ∧ 8 + (1 + 11) + rm.locals ≤ R.locals) : CallW R s args RL RX10 121 yX10_helping cX10_helping 1 (some .int) (wl yX10_helping cX10_helping 1 (some .int)) rm mc ms 0 := cwV 0 hts (gi_V t895 t896 t897 t1 t898) rfl hrc hrs (by decide +kernel) hR
theorem dL_law_1010 : decode cL_law 1010 = .ok (.aload_n 2, 1) := by decide +kernel
theorem dL_law_1011 : decode cL_law 1011 = .ok (.invokevirtual 124, 3) := by decide +kernel
theorem t1881 : Cond.methodLink RL 124 yX11_helping ∈ GW := gw_mem 1995 (by decide +kernel) (by decide +kernel)
theorem t1882 : Cond.instanceMethod yX11_helping ∈ GW := gw_mem 1996 (by decide +kernel) (by decide +kernel)
theorem t1883 : Cond.selects RX11 yX11_helping yX11_helping ∈ GW := gw_mem 1997 (by decide +kernel) (by decide +kernel)
theorem cw_L_124 {R : Room} {s : State} {args : Array Value} {rm : Room} {mc ms : Nat} (hts : ∀ w ∈ GW, w.before args s = true) (hrc : rm.cells = mc) (hrs : rm.slots = ms) (hR : rm.frames + 1 ≤ R.frames ∧ 8 + (1 + 11) + rm.locals ≤ R.locals) : CallW R s args RL RX11 124 yX11_helping cX11_helping 1 (some .int) (wl yX11_helping cX11_helping 1 (some .int)) rm mc ms 0 := cwV 0 hts (gi_V t1881 t1882 t1883 t18 t1884) rfl hrc hrs (by decide +kernel) hR
theorem dL_law_1014 : decode cL_law 1014 = .ok (.if_icmp .eq 443, 3) := by decide +kernel
set_option maxHeartbeats 4000000 in
set_option maxRecDepth 100000 in
theorem lc_23 {p : Program} {l : Launch} {e : Env} {s : State} {m : MethodId} {below : List Frame} {meth : Method} {c : Code} {b : Nat} {xs : Nat → Int32} (hl0 : l.stackTraces = false) (C0 : lw_At p s m meth c b 6 xs) (dC : Nat → ClassId) (dI : Nat → Nat → Nat) (cy : Nat → ClassId) (ad : Nat → Nat) (ai : Nat → Nat → Int32) (al : Nat → Nat → Int64) (aq : Nat → Nat → Option Nat) (am : Nat → Nat) (mi : Nat → Nat → Int32) (ml : Nat → Nat → Int64) (qo : Nat) (hX : OkX ad ai aq) (hM : OkM mi) (hEX : EnvX (FA s) s) (hK : va_K (dC, dI) vwCl (TY cy) s) {H : Heap} {locs : List Loc} (hP : va_P (dC, dI) vwCl (FX cy ad ai al aq ++ FM cy am mi ml) H) (hD : va_D (FA s) (FX cy ad ai al aq ++ FM cy am mi ml)) (hS : va_S (FA s) s.heap H locs) {ls : Array Slot} (hl : lv_has ls 7 [(4, .int 0), (3, .ref qo), (2, .ref (am 0)), (1, .ref (ad 0)), (0, .ref b)]) : W p l e room_1 s m #[Value.ref b] below meth c H locs 237 23836 (lw_Z below #[Value.ref b] s) (F0 m 1006 ls []) := by
  obtain ⟨hx, hb, hr, hml, hown, htsL, hXs, hbl, hlocks, hgv⟩ := id C0
  have hown : s.vm.findClass RL = some m.cls := hown
  have hts : ∀ w ∈ GW, w.before #[Value.ref b] s = true := fun w hw => htsL w (List.mem_filter.mp hw).1
  have hA : ∀ q : Nat, s.heap.size ≤ q → FA s q := fun _ h => h
  have hbA : ¬ FA s b := Nat.not_le.mpr hbl
  refine lv_aload_n hx hb dL_law_1006 rfl (lv_at hl 3 rfl) ?_
  refine jr_i (rVr (As := []) (rest := []) (ci := 11) ⟨hx, hb, hml, hown, hts⟩ (k_helping l dC dI cy ad ) (cw_L_121 hts rfl rfl ⟨Nat.le_of_ble_eq_true rfl, Nat.le_of_ble_eq_true rfl⟩) hP hK [0] rfl rfl rfl rfl hl.1 rfl (Nat.le_of_ble_eq_true rfl) dL_law_1007 ⟨Nat.le_of_ble_eq_true rfl, Nat.le_of_ble_eq_true rfl⟩) hP hS (fun r_1 H locs hp_2 hP hS => ?_)
  refine as_i (-1) hp_2 ?_
  refine lv_aload_n hx hb dL_law_1010 rfl (lv_at hl 2 rfl) ?_
  refine jn_i (wr := []) (rV (As := []) (rest := [.int (-1)]) (ci := 12) ⟨hx, hb, hml, hown, hts⟩ (m_helping l dC dI cy _ am ) (cw_L_124 hts rfl rfl ⟨Nat.le_of_ble_eq_true rfl, Nat.le_of_ble_eq_true rfl⟩) hP hD hK [114] rfl rfl rfl rfl bl0 e0 rfl hl.1 rfl (Nat.le_of_ble_eq_true rfl) dL_law_1011 ⟨Nat.le_of_ble_eq_true rfl, Nat.le_of_ble_eq_true rfl⟩) hP hD hS hA [114] [] rfl rfl rfl (by decide) (fun r_3 u_5 H locs hp_4 hP hD hS => ?_)
  have hp_4 : r_3 = (-1) := hp_4
  have hP : va_P (dC, dI) vwCl [] H := hP
  have hD : va_D (FA s) [] := hD
  refine as_i (-1) hp_4 ?_
  refine lv_icmp_eq (tgt := 1457) hx hb dL_law_1014 (by decide) (fun _ => ?_) (fun c9 => absurd (by decide) c9)
  exact law_end C0 hS (lv_sub hl [0, 4] rfl) (by decide) (by decide)
theorem dL_law_1019 : decode cL_law 1019 = .ok (.aload_n 1, 1) := by decide +kernel
theorem dL_law_1020 : decode cL_law 1020 = .ok (.invokevirtual 125, 3) := by decide +kernel
theorem t899 : Cond.methodLink RL 125 yX10_may ∈ GW := gw_mem 1013 (by decide +kernel) (by decide +kernel)
theorem t900 : Cond.instanceMethod yX10_may ∈ GW := gw_mem 1014 (by decide +kernel) (by decide +kernel)
theorem t901 : Cond.selects RX10 yX10_may yX10_may ∈ GW := gw_mem 1015 (by decide +kernel) (by decide +kernel)
theorem cw_L_125 {R : Room} {s : State} {args : Array Value} {rm : Room} {mc ms : Nat} (hts : ∀ w ∈ GW, w.before args s = true) (hrc : rm.cells = mc) (hrs : rm.slots = ms) (hR : rm.frames + 1 ≤ R.frames ∧ 8 + (6 + 11) + rm.locals ≤ R.locals) : CallW R s args RL RX10 125 yX10_may cX10_may 6 (some .long) (wl yX10_may cX10_may 6 (some .long)) rm mc ms 0 := cwV 0 hts (gi_V t899 t900 t901 t1 t902) rfl hrc hrs (by decide +kernel) hR
theorem dL_law_1023 : decode cL_law 1023 = .ok (.aload_n 2, 1) := by decide +kernel
theorem dL_law_1024 : decode cL_law 1024 = .ok (.invokevirtual 129, 3) := by decide +kernel
theorem t1885 : Cond.methodLink RL 129 yX11_may ∈ GW := gw_mem 1999 (by decide +kernel) (by decide +kernel)
theorem t1886 : Cond.instanceMethod yX11_may ∈ GW := gw_mem 2000 (by decide +kernel) (by decide +kernel)
theorem t1887 : Cond.selects RX11 yX11_may yX11_may ∈ GW := gw_mem 2001 (by decide +kernel) (by decide +kernel)
theorem cw_L_129 {R : Room} {s : State} {args : Array Value} {rm : Room} {mc ms : Nat} (hts : ∀ w ∈ GW, w.before args s = true) (hrc : rm.cells = mc) (hrs : rm.slots = ms) (hR : rm.frames + 1 ≤ R.frames ∧ 8 + (7 + 11) + rm.locals ≤ R.locals) : CallW R s args RL RX11 129 yX11_may cX11_may 7 (some .long) (wl yX11_may cX11_may 7 (some .long)) rm mc ms 0 := cwV 0 hts (gi_V t1885 t1886 t1887 t18 t1888) rfl hrc hrs (by decide +kernel) hR
theorem dL_law_1027 : decode cL_law 1027 = .ok (.lcmp, 1) := by decide +kernel
theorem dL_law_1028 : decode cL_law 1028 = .ok (.ifCond .eq 429, 3) := by decide +kernel
set_option maxHeartbeats 4000000 in
set_option maxRecDepth 100000 in
theorem lc_24 {p : Program} {l : Launch} {e : Env} {s : State} {m : MethodId} {below : List Frame} {meth : Method} {c : Code} {b : Nat} {xs : Nat → Int32} (hl0 : l.stackTraces = false) (C0 : lw_At p s m meth c b 6 xs) (dC : Nat → ClassId) (dI : Nat → Nat → Nat) (cy : Nat → ClassId) (ad : Nat → Nat) (ai : Nat → Nat → Int32) (al : Nat → Nat → Int64) (aq : Nat → Nat → Option Nat) (am : Nat → Nat) (mi : Nat → Nat → Int32) (ml : Nat → Nat → Int64) (qo : Nat) (hX : OkX ad ai aq) (hM : OkM mi) (hEX : EnvX (FA s) s) (hK : va_K (dC, dI) vwCl (TY cy) s) {H : Heap} {locs : List Loc} (hP : va_P (dC, dI) vwCl (FX cy ad ai al aq ++ FM cy am mi ml) H) (hD : va_D (FA s) (FX cy ad ai al aq ++ FM cy am mi ml)) (hS : va_S (FA s) s.heap H locs) {ls : Array Slot} (hl : lv_has ls 7 [(4, .int 0), (3, .ref qo), (2, .ref (am 0)), (1, .ref (ad 0)), (0, .ref b)]) : W p l e room_1 s m #[Value.ref b] below meth c H locs 237 23836 (lw_Z below #[Value.ref b] s) (F0 m 1019 ls []) := by
  obtain ⟨hx, hb, hr, hml, hown, htsL, hXs, hbl, hlocks, hgv⟩ := id C0
  have hown : s.vm.findClass RL = some m.cls := hown
  have hts : ∀ w ∈ GW, w.before #[Value.ref b] s = true := fun w hw => htsL w (List.mem_filter.mp hw).1
  have hA : ∀ q : Nat, s.heap.size ≤ q → FA s q := fun _ h => h
  have hbA : ¬ FA s b := Nat.not_le.mpr hbl
  refine lv_aload_n hx hb dL_law_1019 rfl (lv_at hl 3 rfl) ?_
  refine jn_l (wr := [(am 0, .inr (12, [.int 0, .ref (am 1), .int 0, .int 0, .int 0, .int 0, .int 0, .int 0, .int 0, .int 0, .int 0, .int 0, .long 0, .int 0, .ref (am 2), .ref (am 3), .ref (am 4), .ref (am 5), .ref (am 6), .ref (am 7), .ref (am 8), .ref (am 9), .ref (am 10), .ref (am 11), .int 0, .int (-1), .ref (am 12), .ref (am 13), .ref (am 14), .int 0, .ref (am 15), .ref (am 16), .int 0, .int 0, .int 0, .ref (am 17), .int 0, .int 0, .ref (am 18), .ref (am 19), .int 0, .int 0, .ref (am 20), .int 0, .int 0, .int 0, .int 0])), (am 1, .inl (cy 0, 940, .inl (mi 1))), (am 2, .inl (cy 0, 575, .inl (mi 2))), (am 3, .inl (cy 0, 157, .inl (mi 3))), (am 4, .inl (cy 0, 1150, .inl (mi 4))), (am 5, .inl (cy 0, 1408, .inl (mi 5))), (am 6, .inl (cy 0, 176, .inl (mi 6))), (am 7, .inl (cy 1, 17, .inr (.inl (ml 7)))), (am 8, .inl (cy 1, 17, .inr (.inl (ml 8)))), (am 9, .inl (cy 1, 34, .inr (.inl (ml 9)))), (am 10, .inl (cy 2, 2, .inl (mi 10))), (am 11, .inl (cy 2, 2, .inl (mi 11))), (am 12, .inl (cy 1, 5632, .inr (.inl (ml 12)))), (am 13, .inl (cy 0, 5632, .inl (mi 13))), (am 14, .inl (cy 0, 10, .inl (mi 14))), (am 15, .inl (cy 0, 10, .inl (mi 15))), (am 16, .inl (cy 0, 10, .inl (mi 16))), (am 17, .inl (cy 0, 64, .inl (mi 17))), (am 18, .inl (cy 0, 160, .inl (mi 18))), (am 19, .inl (cy 0, 4, .inl (mi 19))), (am 20, .inl (cy 0, 240, .inl (mi 20)))]) (rV (As := []) (rest := []) (ci := 11) ⟨hx, hb, hml, hown, hts⟩ (k_may l dC dI cy _ ad ) (cw_L_125 hts rfl rfl ⟨Nat.le_of_ble_eq_true rfl, Nat.le_of_ble_eq_true rfl⟩) hP hD hK [0, 1] rfl rfl rfl rfl bl0 e0 rfl hl.1 rfl (Nat.le_of_ble_eq_true rfl) dL_law_1020 ⟨Nat.le_of_ble_eq_true rfl, Nat.le_of_ble_eq_true rfl⟩) hP hD hS hA [0, 1] [114, 115, 116, 117, 118, 119, 120, 121, 122, 123, 124, 125, 126, 127, 128, 129, 130, 131, 132, 133, 134] rfl rfl rfl (by decide) (fun r_1 u_3 H locs hp_2 hP hD hS => ?_)
  have hp_2 : r_1 = (-1) := hp_2
  have hP : va_P (dC, dI) vwCl [(am 0, .inr (12, [.int 0, .ref (am 1), .int 0, .int 0, .int 0, .int 0, .int 0, .int 0, .int 0, .int 0, .int 0, .int 0, .long 0, .int 0, .ref (am 2), .ref (am 3), .ref (am 4), .ref (am 5), .ref (am 6), .ref (am 7), .ref (am 8), .ref (am 9), .ref (am 10), .ref (am 11), .int 0, .int (-1), .ref (am 12), .ref (am 13), .ref (am 14), .int 0, .ref (am 15), .ref (am 16), .int 0, .int 0, .int 0, .ref (am 17), .int 0, .int 0, .ref (am 18), .ref (am 19), .int 0, .int 0, .ref (am 20), .int 0, .int 0, .int 0, .int 0])), (am 1, .inl (cy 0, 940, .inl (mi 1))), (am 2, .inl (cy 0, 575, .inl (mi 2))), (am 3, .inl (cy 0, 157, .inl (mi 3))), (am 4, .inl (cy 0, 1150, .inl (mi 4))), (am 5, .inl (cy 0, 1408, .inl (mi 5))), (am 6, .inl (cy 0, 176, .inl (mi 6))), (am 7, .inl (cy 1, 17, .inr (.inl (ml 7)))), (am 8, .inl (cy 1, 17, .inr (.inl (ml 8)))), (am 9, .inl (cy 1, 34, .inr (.inl (ml 9)))), (am 10, .inl (cy 2, 2, .inl (mi 10))), (am 11, .inl (cy 2, 2, .inl (mi 11))), (am 12, .inl (cy 1, 5632, .inr (.inl (ml 12)))), (am 13, .inl (cy 0, 5632, .inl (mi 13))), (am 14, .inl (cy 0, 10, .inl (mi 14))), (am 15, .inl (cy 0, 10, .inl (mi 15))), (am 16, .inl (cy 0, 10, .inl (mi 16))), (am 17, .inl (cy 0, 64, .inl (mi 17))), (am 18, .inl (cy 0, 160, .inl (mi 18))), (am 19, .inl (cy 0, 4, .inl (mi 19))), (am 20, .inl (cy 0, 240, .inl (mi 20)))] H := hP
  have hD : va_D (FA s) [(am 0, .inr (12, [.int 0, .ref (am 1), .int 0, .int 0, .int 0, .int 0, .int 0, .int 0, .int 0, .int 0, .int 0, .int 0, .long 0, .int 0, .ref (am 2), .ref (am 3), .ref (am 4), .ref (am 5), .ref (am 6), .ref (am 7), .ref (am 8), .ref (am 9), .ref (am 10), .ref (am 11), .int 0, .int (-1), .ref (am 12), .ref (am 13), .ref (am 14), .int 0, .ref (am 15), .ref (am 16), .int 0, .int 0, .int 0, .ref (am 17), .int 0, .int 0, .ref (am 18), .ref (am 19), .int 0, .int 0, .ref (am 20), .int 0, .int 0, .int 0, .int 0])), (am 1, .inl (cy 0, 940, .inl (mi 1))), (am 2, .inl (cy 0, 575, .inl (mi 2))), (am 3, .inl (cy 0, 157, .inl (mi 3))), (am 4, .inl (cy 0, 1150, .inl (mi 4))), (am 5, .inl (cy 0, 1408, .inl (mi 5))), (am 6, .inl (cy 0, 176, .inl (mi 6))), (am 7, .inl (cy 1, 17, .inr (.inl (ml 7)))), (am 8, .inl (cy 1, 17, .inr (.inl (ml 8)))), (am 9, .inl (cy 1, 34, .inr (.inl (ml 9)))), (am 10, .inl (cy 2, 2, .inl (mi 10))), (am 11, .inl (cy 2, 2, .inl (mi 11))), (am 12, .inl (cy 1, 5632, .inr (.inl (ml 12)))), (am 13, .inl (cy 0, 5632, .inl (mi 13))), (am 14, .inl (cy 0, 10, .inl (mi 14))), (am 15, .inl (cy 0, 10, .inl (mi 15))), (am 16, .inl (cy 0, 10, .inl (mi 16))), (am 17, .inl (cy 0, 64, .inl (mi 17))), (am 18, .inl (cy 0, 160, .inl (mi 18))), (am 19, .inl (cy 0, 4, .inl (mi 19))), (am 20, .inl (cy 0, 240, .inl (mi 20)))] := hD
  refine as_l (-1) hp_2 ?_
  refine lv_aload_n hx hb dL_law_1023 rfl (lv_at hl 2 rfl) ?_
  refine jn_l (wr := []) (rV (As := []) (rest := [.long (-1)]) (ci := 12) ⟨hx, hb, hml, hown, hts⟩ (m_may l dC dI cy _ am ) (cw_L_129 hts rfl rfl ⟨Nat.le_of_ble_eq_true rfl, Nat.le_of_ble_eq_true rfl⟩) hP hD hK [0] rfl rfl rfl rfl bl0 e0 rfl hl.1 rfl (Nat.le_of_ble_eq_true rfl) dL_law_1024 ⟨Nat.le_of_ble_eq_true rfl, Nat.le_of_ble_eq_true rfl⟩) hP hD hS hA [0] [] rfl rfl rfl (by decide) (fun r_4 u_6 H locs hp_5 hP hD hS => ?_)
  have hp_5 : r_4 = (-1) := hp_5
  have hP : va_P (dC, dI) vwCl [] H := hP
  have hD : va_D (FA s) [] := hD
  refine as_l (-1) hp_5 ?_
  refine W.lcmp hx hb dL_law_1027 ?_
  refine as_i 0 (by decide) ?_
  refine lv_if_eq (tgt := 1457) hx hb dL_law_1028 (by decide) (fun _ => ?_) (fun c9 => absurd (by decide) c9)
  exact law_end C0 hS (lv_sub hl [0, 4] rfl) (by decide) (by decide)
theorem dL_law_1033 : decode cL_law 1033 = .ok (.aload_n 1, 1) := by decide +kernel
theorem dL_law_1034 : decode cL_law 1034 = .ok (.aload_n 0, 1) := by decide +kernel
theorem dL_law_1035 : decode cL_law 1035 = .ok (.iload 4, 2) := by decide +kernel
theorem dL_law_1037 : decode cL_law 1037 = .ok (.iconst 1, 1) := by decide +kernel
theorem dL_law_1038 : decode cL_law 1038 = .ok (.iadd, 1) := by decide +kernel
theorem dL_law_1039 : decode cL_law 1039 = .ok (.iaload, 1) := by decide +kernel
theorem dL_law_1040 : decode cL_law 1040 = .ok (.invokevirtual 130, 3) := by decide +kernel
theorem t944 : Cond.methodLink RL 130 yX10_mayBe ∈ GW := gw_mem 1058 (by decide +kernel) (by decide +kernel)
theorem t945 : Cond.instanceMethod yX10_mayBe ∈ GW := gw_mem 1059 (by decide +kernel) (by decide +kernel)
theorem t946 : Cond.selects RX10 yX10_mayBe yX10_mayBe ∈ GW := gw_mem 1060 (by decide +kernel) (by decide +kernel)
theorem cw_L_130 {R : Room} {s : State} {args : Array Value} {rm : Room} {mc ms : Nat} (hts : ∀ w ∈ GW, w.before args s = true) (hrc : rm.cells = mc) (hrs : rm.slots = ms) (hR : rm.frames + 1 ≤ R.frames ∧ 8 + (2 + 11) + rm.locals ≤ R.locals) : CallW R s args RL RX10 130 yX10_mayBe cX10_mayBe 2 (some .int) (wl yX10_mayBe cX10_mayBe 2 (some .int)) rm mc ms 1 := cwV 1 hts (gi_V t944 t945 t946 t1 t947) rfl hrc hrs (by decide +kernel) hR
theorem dL_law_1043 : decode cL_law 1043 = .ok (.aload_n 2, 1) := by decide +kernel
theorem dL_law_1044 : decode cL_law 1044 = .ok (.aload_n 0, 1) := by decide +kernel
theorem dL_law_1045 : decode cL_law 1045 = .ok (.iload 4, 2) := by decide +kernel
theorem dL_law_1047 : decode cL_law 1047 = .ok (.iconst 1, 1) := by decide +kernel
theorem dL_law_1048 : decode cL_law 1048 = .ok (.iadd, 1) := by decide +kernel
theorem dL_law_1049 : decode cL_law 1049 = .ok (.iaload, 1) := by decide +kernel
theorem dL_law_1050 : decode cL_law 1050 = .ok (.invokevirtual 133, 3) := by decide +kernel
theorem t1902 : Cond.methodLink RL 133 yX11_mayBe ∈ GW := gw_mem 2016 (by decide +kernel) (by decide +kernel)
theorem t1903 : Cond.instanceMethod yX11_mayBe ∈ GW := gw_mem 2017 (by decide +kernel) (by decide +kernel)
theorem t1904 : Cond.selects RX11 yX11_mayBe yX11_mayBe ∈ GW := gw_mem 2018 (by decide +kernel) (by decide +kernel)
theorem cw_L_133 {R : Room} {s : State} {args : Array Value} {rm : Room} {mc ms : Nat} (hts : ∀ w ∈ GW, w.before args s = true) (hrc : rm.cells = mc) (hrs : rm.slots = ms) (hR : rm.frames + 1 ≤ R.frames ∧ 8 + (2 + 11) + rm.locals ≤ R.locals) : CallW R s args RL RX11 133 yX11_mayBe cX11_mayBe 2 (some .int) (wl yX11_mayBe cX11_mayBe 2 (some .int)) rm mc ms 1 := cwV 1 hts (gi_V t1902 t1903 t1904 t18 t1905) rfl hrc hrs (by decide +kernel) hR
theorem dL_law_1053 : decode cL_law 1053 = .ok (.if_icmp .eq 404, 3) := by decide +kernel
set_option maxHeartbeats 4000000 in
set_option maxRecDepth 100000 in
theorem lc_25 {p : Program} {l : Launch} {e : Env} {s : State} {m : MethodId} {below : List Frame} {meth : Method} {c : Code} {b : Nat} {xs : Nat → Int32} (hl0 : l.stackTraces = false) (C0 : lw_At p s m meth c b 6 xs) (dC : Nat → ClassId) (dI : Nat → Nat → Nat) (cy : Nat → ClassId) (ad : Nat → Nat) (ai : Nat → Nat → Int32) (al : Nat → Nat → Int64) (aq : Nat → Nat → Option Nat) (am : Nat → Nat) (mi : Nat → Nat → Int32) (ml : Nat → Nat → Int64) (qo : Nat) (hX : OkX ad ai aq) (hM : OkM mi) (hEX : EnvX (FA s) s) (hK : va_K (dC, dI) vwCl (TY cy) s) {H : Heap} {locs : List Loc} (hP : va_P (dC, dI) vwCl (FX cy ad ai al aq ++ FM cy am mi ml) H) (hD : va_D (FA s) (FX cy ad ai al aq ++ FM cy am mi ml)) (hS : va_S (FA s) s.heap H locs) {ls : Array Slot} (hl : lv_has ls 7 [(4, .int 0), (3, .ref qo), (2, .ref (am 0)), (1, .ref (ad 0)), (0, .ref b)]) : W p l e room_1 s m #[Value.ref b] below meth c H locs 237 23836 (lw_Z below #[Value.ref b] s) (F0 m 1033 ls []) := by
  obtain ⟨hx, hb, hr, hml, hown, htsL, hXs, hbl, hlocks, hgv⟩ := id C0
  have hown : s.vm.findClass RL = some m.cls := hown
  have hts : ∀ w ∈ GW, w.before #[Value.ref b] s = true := fun w hw => htsL w (List.mem_filter.mp hw).1
  have hA : ∀ q : Nat, s.heap.size ≤ q → FA s q := fun _ h => h
  have hbA : ¬ FA s b := Nat.not_le.mpr hbl
  refine lv_aload_n hx hb dL_law_1033 rfl (lv_at hl 3 rfl) ?_
  refine lv_aload_n hx hb dL_law_1034 rfl (lv_at hl 4 rfl) ?_
  refine lv_iload hx hb dL_law_1035 (lv_at hl 0 rfl) ?_
  refine lv_iconst (v := 1) hx hb dL_law_1037 (by decide) ?_
  refine lv_iadd hx hb dL_law_1038 ?_
  refine as_i 1 (by decide) ?_
  refine va_sld hx hb hXs hbl hbA hS (show vp_in 1 6 from vp_in_nI (n := 1) (by decide) (by decide)) dL_law_1039 ?_
  refine as_i (xs 1) rfl ?_
  refine jr_i (rVr (As := [.int (xs 1)]) (rest := []) (ci := 11) ⟨hx, hb, hml, hown, hts⟩ (k_mayBe l dC dI cy ad (xs 1) ) (cw_L_130 hts rfl rfl ⟨Nat.le_of_ble_eq_true rfl, Nat.le_of_ble_eq_true rfl⟩) hP hK [0] rfl rfl rfl rfl hl.1 rfl (Nat.le_of_ble_eq_true rfl) dL_law_1040 ⟨Nat.le_of_ble_eq_true rfl, Nat.le_of_ble_eq_true rfl⟩) hP hS (fun r_1 H locs hp_2 hP hS => ?_)
  refine as_i (-1) hp_2 ?_
  refine lv_aload_n hx hb dL_law_1043 rfl (lv_at hl 2 rfl) ?_
  refine lv_aload_n hx hb dL_law_1044 rfl (lv_at hl 4 rfl) ?_
  refine lv_iload hx hb dL_law_1045 (lv_at hl 0 rfl) ?_
  refine lv_iconst (v := 1) hx hb dL_law_1047 (by decide) ?_
  refine lv_iadd hx hb dL_law_1048 ?_
  refine as_i 1 (by decide) ?_
  refine va_sld hx hb hXs hbl hbA hS (show vp_in 1 6 from vp_in_nI (n := 1) (by decide) (by decide)) dL_law_1049 ?_
  refine as_i (xs 1) rfl ?_
  refine jn_i (wr := []) (rV (As := [.int (xs 1)]) (rest := [.int (-1)]) (ci := 12) ⟨hx, hb, hml, hown, hts⟩ (m_mayBe l dC dI cy _ am (xs 1) ) (cw_L_133 hts rfl rfl ⟨Nat.le_of_ble_eq_true rfl, Nat.le_of_ble_eq_true rfl⟩) hP hD hK [114] rfl rfl rfl rfl bl0 e0 rfl hl.1 rfl (Nat.le_of_ble_eq_true rfl) dL_law_1050 ⟨Nat.le_of_ble_eq_true rfl, Nat.le_of_ble_eq_true rfl⟩) hP hD hS hA [114] [] rfl rfl rfl (by decide) (fun r_3 u_5 H locs hp_4 hP hD hS => ?_)
  have hp_4 : r_3 = (-1) := hp_4
  have hP : va_P (dC, dI) vwCl [] H := hP
  have hD : va_D (FA s) [] := hD
  refine as_i (-1) hp_4 ?_
  refine lv_icmp_eq (tgt := 1457) hx hb dL_law_1053 (by decide) (fun _ => ?_) (fun c9 => absurd (by decide) c9)
  exact law_end C0 hS (lv_sub hl [0, 4] rfl) (by decide) (by decide)
theorem dL_law_1058 : decode cL_law 1058 = .ok (.aload_n 1, 1) := by decide +kernel
theorem dL_law_1059 : decode cL_law 1059 = .ok (.aload_n 0, 1) := by decide +kernel
theorem dL_law_1060 : decode cL_law 1060 = .ok (.iload 4, 2) := by decide +kernel
theorem dL_law_1062 : decode cL_law 1062 = .ok (.iconst 1, 1) := by decide +kernel
theorem dL_law_1063 : decode cL_law 1063 = .ok (.iadd, 1) := by decide +kernel
theorem dL_law_1064 : decode cL_law 1064 = .ok (.iaload, 1) := by decide +kernel
theorem dL_law_1065 : decode cL_law 1065 = .ok (.aload_n 0, 1) := by decide +kernel
theorem dL_law_1066 : decode cL_law 1066 = .ok (.iload 4, 2) := by decide +kernel
theorem dL_law_1068 : decode cL_law 1068 = .ok (.iconst 2, 1) := by decide +kernel
theorem dL_law_1069 : decode cL_law 1069 = .ok (.iadd, 1) := by decide +kernel
theorem dL_law_1070 : decode cL_law 1070 = .ok (.iaload, 1) := by decide +kernel
theorem dL_law_1071 : decode cL_law 1071 = .ok (.invokevirtual 134, 3) := by decide +kernel
theorem t948 : Cond.methodLink RL 134 yX10_career ∈ GW := gw_mem 1062 (by decide +kernel) (by decide +kernel)
theorem t949 : Cond.instanceMethod yX10_career ∈ GW := gw_mem 1063 (by decide +kernel) (by decide +kernel)
theorem t950 : Cond.selects RX10 yX10_career yX10_career ∈ GW := gw_mem 1064 (by decide +kernel) (by decide +kernel)
theorem cw_L_134 {R : Room} {s : State} {args : Array Value} {rm : Room} {mc ms : Nat} (hts : ∀ w ∈ GW, w.before args s = true) (hrc : rm.cells = mc) (hrs : rm.slots = ms) (hR : rm.frames + 1 ≤ R.frames ∧ 8 + (6 + 11) + rm.locals ≤ R.locals) : CallW R s args RL RX10 134 yX10_career cX10_career 6 (some .int) (wl yX10_career cX10_career 6 (some .int)) rm mc ms 2 := cwV 2 hts (gi_V t948 t949 t950 t1 t951) rfl hrc hrs (by decide +kernel) hR
theorem dL_law_1074 : decode cL_law 1074 = .ok (.aload_n 2, 1) := by decide +kernel
theorem dL_law_1075 : decode cL_law 1075 = .ok (.aload_n 0, 1) := by decide +kernel
theorem dL_law_1076 : decode cL_law 1076 = .ok (.iload 4, 2) := by decide +kernel
theorem dL_law_1078 : decode cL_law 1078 = .ok (.iconst 1, 1) := by decide +kernel
theorem dL_law_1079 : decode cL_law 1079 = .ok (.iadd, 1) := by decide +kernel
theorem dL_law_1080 : decode cL_law 1080 = .ok (.iaload, 1) := by decide +kernel
theorem dL_law_1081 : decode cL_law 1081 = .ok (.aload_n 0, 1) := by decide +kernel
theorem dL_law_1082 : decode cL_law 1082 = .ok (.iload 4, 2) := by decide +kernel
theorem dL_law_1084 : decode cL_law 1084 = .ok (.iconst 2, 1) := by decide +kernel
theorem dL_law_1085 : decode cL_law 1085 = .ok (.iadd, 1) := by decide +kernel
theorem dL_law_1086 : decode cL_law 1086 = .ok (.iaload, 1) := by decide +kernel
theorem dL_law_1087 : decode cL_law 1087 = .ok (.invokevirtual 137, 3) := by decide +kernel
theorem t1906 : Cond.methodLink RL 137 yX11_career ∈ GW := gw_mem 2020 (by decide +kernel) (by decide +kernel)
theorem t1907 : Cond.instanceMethod yX11_career ∈ GW := gw_mem 2021 (by decide +kernel) (by decide +kernel)
theorem t1908 : Cond.selects RX11 yX11_career yX11_career ∈ GW := gw_mem 2022 (by decide +kernel) (by decide +kernel)
theorem cw_L_137 {R : Room} {s : State} {args : Array Value} {rm : Room} {mc ms : Nat} (hts : ∀ w ∈ GW, w.before args s = true) (hrc : rm.cells = mc) (hrs : rm.slots = ms) (hR : rm.frames + 1 ≤ R.frames ∧ 8 + (3 + 11) + rm.locals ≤ R.locals) : CallW R s args RL RX11 137 yX11_career cX11_career 3 (some .int) (wl yX11_career cX11_career 3 (some .int)) rm mc ms 2 := cwV 2 hts (gi_V t1906 t1907 t1908 t18 t1909) rfl hrc hrs (by decide +kernel) hR
theorem dL_law_1090 : decode cL_law 1090 = .ok (.if_icmp .eq 367, 3) := by decide +kernel
set_option maxHeartbeats 4000000 in
set_option maxRecDepth 100000 in
theorem lc_26 {p : Program} {l : Launch} {e : Env} {s : State} {m : MethodId} {below : List Frame} {meth : Method} {c : Code} {b : Nat} {xs : Nat → Int32} (hl0 : l.stackTraces = false) (C0 : lw_At p s m meth c b 6 xs) (dC : Nat → ClassId) (dI : Nat → Nat → Nat) (cy : Nat → ClassId) (ad : Nat → Nat) (ai : Nat → Nat → Int32) (al : Nat → Nat → Int64) (aq : Nat → Nat → Option Nat) (am : Nat → Nat) (mi : Nat → Nat → Int32) (ml : Nat → Nat → Int64) (qo : Nat) (hX : OkX ad ai aq) (hM : OkM mi) (hEX : EnvX (FA s) s) (hK : va_K (dC, dI) vwCl (TY cy) s) {H : Heap} {locs : List Loc} (hP : va_P (dC, dI) vwCl (FX cy ad ai al aq ++ FM cy am mi ml) H) (hD : va_D (FA s) (FX cy ad ai al aq ++ FM cy am mi ml)) (hS : va_S (FA s) s.heap H locs) {ls : Array Slot} (hl : lv_has ls 7 [(4, .int 0), (3, .ref qo), (2, .ref (am 0)), (1, .ref (ad 0)), (0, .ref b)]) : W p l e room_1 s m #[Value.ref b] below meth c H locs 237 23836 (lw_Z below #[Value.ref b] s) (F0 m 1058 ls []) := by
  obtain ⟨hx, hb, hr, hml, hown, htsL, hXs, hbl, hlocks, hgv⟩ := id C0
  have hown : s.vm.findClass RL = some m.cls := hown
  have hts : ∀ w ∈ GW, w.before #[Value.ref b] s = true := fun w hw => htsL w (List.mem_filter.mp hw).1
  have hA : ∀ q : Nat, s.heap.size ≤ q → FA s q := fun _ h => h
  have hbA : ¬ FA s b := Nat.not_le.mpr hbl
  refine lv_aload_n hx hb dL_law_1058 rfl (lv_at hl 3 rfl) ?_
  refine lv_aload_n hx hb dL_law_1059 rfl (lv_at hl 4 rfl) ?_
  refine lv_iload hx hb dL_law_1060 (lv_at hl 0 rfl) ?_
  refine lv_iconst (v := 1) hx hb dL_law_1062 (by decide) ?_
  refine lv_iadd hx hb dL_law_1063 ?_
  refine as_i 1 (by decide) ?_
  refine va_sld hx hb hXs hbl hbA hS (show vp_in 1 6 from vp_in_nI (n := 1) (by decide) (by decide)) dL_law_1064 ?_
  refine as_i (xs 1) rfl ?_
  refine lv_aload_n hx hb dL_law_1065 rfl (lv_at hl 4 rfl) ?_
  refine lv_iload hx hb dL_law_1066 (lv_at hl 0 rfl) ?_
  refine lv_iconst (v := 2) hx hb dL_law_1068 (by decide) ?_
  refine lv_iadd hx hb dL_law_1069 ?_
  refine as_i 2 (by decide) ?_
  refine va_sld hx hb hXs hbl hbA hS (show vp_in 2 6 from vp_in_nI (n := 2) (by decide) (by decide)) dL_law_1070 ?_
  refine as_i (xs 2) rfl ?_
  refine jr_i (rVr (As := [.int (xs 1), .int (xs 2)]) (rest := []) (ci := 11) ⟨hx, hb, hml, hown, hts⟩ (k_career l dC dI cy ad (xs 1) (xs 2) ) (cw_L_134 hts rfl rfl ⟨Nat.le_of_ble_eq_true rfl, Nat.le_of_ble_eq_true rfl⟩) hP hK [0, 22, 23] rfl rfl rfl rfl hl.1 rfl (Nat.le_of_ble_eq_true rfl) dL_law_1071 ⟨Nat.le_of_ble_eq_true rfl, Nat.le_of_ble_eq_true rfl⟩) hP hS (fun r_1 H locs hp_2 hP hS => ?_)
  refine as_i (-1) hp_2 ?_
  refine lv_aload_n hx hb dL_law_1074 rfl (lv_at hl 2 rfl) ?_
  refine lv_aload_n hx hb dL_law_1075 rfl (lv_at hl 4 rfl) ?_
  refine lv_iload hx hb dL_law_1076 (lv_at hl 0 rfl) ?_
  refine lv_iconst (v := 1) hx hb dL_law_1078 (by decide) ?_
  refine lv_iadd hx hb dL_law_1079 ?_
  refine as_i 1 (by decide) ?_
  refine va_sld hx hb hXs hbl hbA hS (show vp_in 1 6 from vp_in_nI (n := 1) (by decide) (by decide)) dL_law_1080 ?_
  refine as_i (xs 1) rfl ?_
  refine lv_aload_n hx hb dL_law_1081 rfl (lv_at hl 4 rfl) ?_
  refine lv_iload hx hb dL_law_1082 (lv_at hl 0 rfl) ?_
  refine lv_iconst (v := 2) hx hb dL_law_1084 (by decide) ?_
  refine lv_iadd hx hb dL_law_1085 ?_
  refine as_i 2 (by decide) ?_
  refine va_sld hx hb hXs hbl hbA hS (show vp_in 2 6 from vp_in_nI (n := 2) (by decide) (by decide)) dL_law_1086 ?_
  refine as_i (xs 2) rfl ?_
  refine jn_i (wr := []) (rV (As := [.int (xs 1), .int (xs 2)]) (rest := [.int (-1)]) (ci := 12) ⟨hx, hb, hml, hown, hts⟩ (m_career l dC dI cy _ am mi (xs 1) (xs 2) hM.1) (cw_L_137 hts rfl rfl ⟨Nat.le_of_ble_eq_true rfl, Nat.le_of_ble_eq_true rfl⟩) hP hD hK [114, 116] rfl rfl rfl rfl bl0 e0 rfl hl.1 rfl (Nat.le_of_ble_eq_true rfl) dL_law_1087 ⟨Nat.le_of_ble_eq_true rfl, Nat.le_of_ble_eq_true rfl⟩) hP hD hS hA [114, 116] [] rfl rfl rfl (by decide) (fun r_3 u_5 H locs hp_4 hP hD hS => ?_)
  have hp_4 : r_3 = (-1) := hp_4
  have hP : va_P (dC, dI) vwCl [] H := hP
  have hD : va_D (FA s) [] := hD
  refine as_i (-1) hp_4 ?_
  refine lv_icmp_eq (tgt := 1457) hx hb dL_law_1090 (by decide) (fun _ => ?_) (fun c9 => absurd (by decide) c9)
  exact law_end C0 hS (lv_sub hl [0, 4] rfl) (by decide) (by decide)
theorem dL_law_1095 : decode cL_law 1095 = .ok (.aload_n 1, 1) := by decide +kernel
theorem dL_law_1096 : decode cL_law 1096 = .ok (.aload_n 0, 1) := by decide +kernel
theorem dL_law_1097 : decode cL_law 1097 = .ok (.iload 4, 2) := by decide +kernel
theorem dL_law_1099 : decode cL_law 1099 = .ok (.iconst 1, 1) := by decide +kernel
theorem dL_law_1100 : decode cL_law 1100 = .ok (.iadd, 1) := by decide +kernel
theorem dL_law_1101 : decode cL_law 1101 = .ok (.iaload, 1) := by decide +kernel
theorem dL_law_1102 : decode cL_law 1102 = .ok (.invokevirtual 138, 3) := by decide +kernel
theorem t957 : Cond.methodLink RL 138 yX10_careerOf ∈ GW := gw_mem 1071 (by decide +kernel) (by decide +kernel)
theorem t958 : Cond.instanceMethod yX10_careerOf ∈ GW := gw_mem 1072 (by decide +kernel) (by decide +kernel)
theorem t959 : Cond.selects RX10 yX10_careerOf yX10_careerOf ∈ GW := gw_mem 1073 (by decide +kernel) (by decide +kernel)
theorem cw_L_138 {R : Room} {s : State} {args : Array Value} {rm : Room} {mc ms : Nat} (hts : ∀ w ∈ GW, w.before args s = true) (hrc : rm.cells = mc) (hrs : rm.slots = ms) (hR : rm.frames + 1 ≤ R.frames ∧ 8 + (2 + 11) + rm.locals ≤ R.locals) : CallW R s args RL RX10 138 yX10_careerOf cX10_careerOf 2 (some .int) (wl yX10_careerOf cX10_careerOf 2 (some .int)) rm mc ms 1 := cwV 1 hts (gi_V t957 t958 t959 t1 t960) rfl hrc hrs (by decide +kernel) hR
theorem dL_law_1105 : decode cL_law 1105 = .ok (.aload_n 2, 1) := by decide +kernel
theorem dL_law_1106 : decode cL_law 1106 = .ok (.aload_n 0, 1) := by decide +kernel
theorem dL_law_1107 : decode cL_law 1107 = .ok (.iload 4, 2) := by decide +kernel
theorem dL_law_1109 : decode cL_law 1109 = .ok (.iconst 1, 1) := by decide +kernel
theorem dL_law_1110 : decode cL_law 1110 = .ok (.iadd, 1) := by decide +kernel
theorem dL_law_1111 : decode cL_law 1111 = .ok (.iaload, 1) := by decide +kernel
theorem dL_law_1112 : decode cL_law 1112 = .ok (.invokevirtual 141, 3) := by decide +kernel
theorem t1914 : Cond.methodLink RL 141 yX11_careerOf ∈ GW := gw_mem 2028 (by decide +kernel) (by decide +kernel)
theorem t1915 : Cond.instanceMethod yX11_careerOf ∈ GW := gw_mem 2029 (by decide +kernel) (by decide +kernel)
theorem t1916 : Cond.selects RX11 yX11_careerOf yX11_careerOf ∈ GW := gw_mem 2030 (by decide +kernel) (by decide +kernel)
theorem cw_L_141 {R : Room} {s : State} {args : Array Value} {rm : Room} {mc ms : Nat} (hts : ∀ w ∈ GW, w.before args s = true) (hrc : rm.cells = mc) (hrs : rm.slots = ms) (hR : rm.frames + 1 ≤ R.frames ∧ 8 + (2 + 11) + rm.locals ≤ R.locals) : CallW R s args RL RX11 141 yX11_careerOf cX11_careerOf 2 (some .int) (wl yX11_careerOf cX11_careerOf 2 (some .int)) rm mc ms 1 := cwV 1 hts (gi_V t1914 t1915 t1916 t18 t1917) rfl hrc hrs (by decide +kernel) hR
theorem dL_law_1115 : decode cL_law 1115 = .ok (.if_icmp .eq 342, 3) := by decide +kernel
set_option maxHeartbeats 4000000 in
set_option maxRecDepth 100000 in
theorem lc_27 {p : Program} {l : Launch} {e : Env} {s : State} {m : MethodId} {below : List Frame} {meth : Method} {c : Code} {b : Nat} {xs : Nat → Int32} (hl0 : l.stackTraces = false) (C0 : lw_At p s m meth c b 6 xs) (dC : Nat → ClassId) (dI : Nat → Nat → Nat) (cy : Nat → ClassId) (ad : Nat → Nat) (ai : Nat → Nat → Int32) (al : Nat → Nat → Int64) (aq : Nat → Nat → Option Nat) (am : Nat → Nat) (mi : Nat → Nat → Int32) (ml : Nat → Nat → Int64) (qo : Nat) (hX : OkX ad ai aq) (hM : OkM mi) (hEX : EnvX (FA s) s) (hK : va_K (dC, dI) vwCl (TY cy) s) {H : Heap} {locs : List Loc} (hP : va_P (dC, dI) vwCl (FX cy ad ai al aq ++ FM cy am mi ml) H) (hD : va_D (FA s) (FX cy ad ai al aq ++ FM cy am mi ml)) (hS : va_S (FA s) s.heap H locs) {ls : Array Slot} (hl : lv_has ls 7 [(4, .int 0), (3, .ref qo), (2, .ref (am 0)), (1, .ref (ad 0)), (0, .ref b)]) : W p l e room_1 s m #[Value.ref b] below meth c H locs 237 23836 (lw_Z below #[Value.ref b] s) (F0 m 1095 ls []) := by
  obtain ⟨hx, hb, hr, hml, hown, htsL, hXs, hbl, hlocks, hgv⟩ := id C0
  have hown : s.vm.findClass RL = some m.cls := hown
  have hts : ∀ w ∈ GW, w.before #[Value.ref b] s = true := fun w hw => htsL w (List.mem_filter.mp hw).1
  have hA : ∀ q : Nat, s.heap.size ≤ q → FA s q := fun _ h => h
  have hbA : ¬ FA s b := Nat.not_le.mpr hbl
  refine lv_aload_n hx hb dL_law_1095 rfl (lv_at hl 3 rfl) ?_
  refine lv_aload_n hx hb dL_law_1096 rfl (lv_at hl 4 rfl) ?_
  refine lv_iload hx hb dL_law_1097 (lv_at hl 0 rfl) ?_
  refine lv_iconst (v := 1) hx hb dL_law_1099 (by decide) ?_
  refine lv_iadd hx hb dL_law_1100 ?_
  refine as_i 1 (by decide) ?_
  refine va_sld hx hb hXs hbl hbA hS (show vp_in 1 6 from vp_in_nI (n := 1) (by decide) (by decide)) dL_law_1101 ?_
  refine as_i (xs 1) rfl ?_
  refine jr_i (rVr (As := [.int (xs 1)]) (rest := []) (ci := 11) ⟨hx, hb, hml, hown, hts⟩ (k_careerOf l dC dI cy ad (xs 1) ) (cw_L_138 hts rfl rfl ⟨Nat.le_of_ble_eq_true rfl, Nat.le_of_ble_eq_true rfl⟩) hP hK [0] rfl rfl rfl rfl hl.1 rfl (Nat.le_of_ble_eq_true rfl) dL_law_1102 ⟨Nat.le_of_ble_eq_true rfl, Nat.le_of_ble_eq_true rfl⟩) hP hS (fun r_1 H locs hp_2 hP hS => ?_)
  refine as_i (-1) hp_2 ?_
  refine lv_aload_n hx hb dL_law_1105 rfl (lv_at hl 2 rfl) ?_
  refine lv_aload_n hx hb dL_law_1106 rfl (lv_at hl 4 rfl) ?_
  refine lv_iload hx hb dL_law_1107 (lv_at hl 0 rfl) ?_
  refine lv_iconst (v := 1) hx hb dL_law_1109 (by decide) ?_
  refine lv_iadd hx hb dL_law_1110 ?_
  refine as_i 1 (by decide) ?_
  refine va_sld hx hb hXs hbl hbA hS (show vp_in 1 6 from vp_in_nI (n := 1) (by decide) (by decide)) dL_law_1111 ?_
  refine as_i (xs 1) rfl ?_
  refine jn_i (wr := []) (rV (As := [.int (xs 1)]) (rest := [.int (-1)]) (ci := 12) ⟨hx, hb, hml, hown, hts⟩ (m_careerOf l dC dI cy _ am (xs 1) ) (cw_L_141 hts rfl rfl ⟨Nat.le_of_ble_eq_true rfl, Nat.le_of_ble_eq_true rfl⟩) hP hD hK [114] rfl rfl rfl rfl bl0 e0 rfl hl.1 rfl (Nat.le_of_ble_eq_true rfl) dL_law_1112 ⟨Nat.le_of_ble_eq_true rfl, Nat.le_of_ble_eq_true rfl⟩) hP hD hS hA [114] [] rfl rfl rfl (by decide) (fun r_3 u_5 H locs hp_4 hP hD hS => ?_)
  have hp_4 : r_3 = (-1) := hp_4
  have hP : va_P (dC, dI) vwCl [] H := hP
  have hD : va_D (FA s) [] := hD
  refine as_i (-1) hp_4 ?_
  refine lv_icmp_eq (tgt := 1457) hx hb dL_law_1115 (by decide) (fun _ => ?_) (fun c9 => absurd (by decide) c9)
  exact law_end C0 hS (lv_sub hl [0, 4] rfl) (by decide) (by decide)
theorem dL_law_1120 : decode cL_law 1120 = .ok (.aload_n 1, 1) := by decide +kernel
theorem dL_law_1121 : decode cL_law 1121 = .ok (.aload_n 0, 1) := by decide +kernel
theorem dL_law_1122 : decode cL_law 1122 = .ok (.iload 4, 2) := by decide +kernel
theorem dL_law_1124 : decode cL_law 1124 = .ok (.iconst 1, 1) := by decide +kernel
theorem dL_law_1125 : decode cL_law 1125 = .ok (.iadd, 1) := by decide +kernel
theorem dL_law_1126 : decode cL_law 1126 = .ok (.iaload, 1) := by decide +kernel
theorem dL_law_1127 : decode cL_law 1127 = .ok (.invokevirtual 142, 3) := by decide +kernel
theorem t961 : Cond.methodLink RL 142 yX10_hide ∈ GW := gw_mem 1075 (by decide +kernel) (by decide +kernel)
theorem t962 : Cond.instanceMethod yX10_hide ∈ GW := gw_mem 1076 (by decide +kernel) (by decide +kernel)
theorem t963 : Cond.selects RX10 yX10_hide yX10_hide ∈ GW := gw_mem 1077 (by decide +kernel) (by decide +kernel)
theorem cw_L_142 {R : Room} {s : State} {args : Array Value} {rm : Room} {mc ms : Nat} (hts : ∀ w ∈ GW, w.before args s = true) (hrc : rm.cells = mc) (hrs : rm.slots = ms) (hR : rm.frames + 1 ≤ R.frames ∧ 8 + (3 + 11) + rm.locals ≤ R.locals) : CallW R s args RL RX10 142 yX10_hide cX10_hide 3 (some .int) (wl yX10_hide cX10_hide 3 (some .int)) rm mc ms 1 := cwV 1 hts (gi_V t961 t962 t963 t1 t964) rfl hrc hrs (by decide +kernel) hR
theorem dL_law_1130 : decode cL_law 1130 = .ok (.aload_n 2, 1) := by decide +kernel
theorem dL_law_1131 : decode cL_law 1131 = .ok (.aload_n 0, 1) := by decide +kernel
theorem dL_law_1132 : decode cL_law 1132 = .ok (.iload 4, 2) := by decide +kernel
theorem dL_law_1134 : decode cL_law 1134 = .ok (.iconst 1, 1) := by decide +kernel
theorem dL_law_1135 : decode cL_law 1135 = .ok (.iadd, 1) := by decide +kernel
theorem dL_law_1136 : decode cL_law 1136 = .ok (.iaload, 1) := by decide +kernel
theorem dL_law_1137 : decode cL_law 1137 = .ok (.invokevirtual 145, 3) := by decide +kernel
theorem t1918 : Cond.methodLink RL 145 yX11_hide ∈ GW := gw_mem 2032 (by decide +kernel) (by decide +kernel)
theorem t1919 : Cond.instanceMethod yX11_hide ∈ GW := gw_mem 2033 (by decide +kernel) (by decide +kernel)
theorem t1920 : Cond.selects RX11 yX11_hide yX11_hide ∈ GW := gw_mem 2034 (by decide +kernel) (by decide +kernel)
theorem cw_L_145 {R : Room} {s : State} {args : Array Value} {rm : Room} {mc ms : Nat} (hts : ∀ w ∈ GW, w.before args s = true) (hrc : rm.cells = mc) (hrs : rm.slots = ms) (hR : rm.frames + 1 ≤ R.frames ∧ 8 + (7 + 11) + rm.locals ≤ R.locals) : CallW R s args RL RX11 145 yX11_hide cX11_hide 7 (some .int) (wl yX11_hide cX11_hide 7 (some .int)) rm mc ms 1 := cwV 1 hts (gi_V t1918 t1919 t1920 t18 t1921) rfl hrc hrs (by decide +kernel) hR
theorem dL_law_1140 : decode cL_law 1140 = .ok (.if_icmp .eq 317, 3) := by decide +kernel
set_option maxHeartbeats 4000000 in
set_option maxRecDepth 100000 in
theorem lc_28 {p : Program} {l : Launch} {e : Env} {s : State} {m : MethodId} {below : List Frame} {meth : Method} {c : Code} {b : Nat} {xs : Nat → Int32} (hl0 : l.stackTraces = false) (C0 : lw_At p s m meth c b 6 xs) (dC : Nat → ClassId) (dI : Nat → Nat → Nat) (cy : Nat → ClassId) (ad : Nat → Nat) (ai : Nat → Nat → Int32) (al : Nat → Nat → Int64) (aq : Nat → Nat → Option Nat) (am : Nat → Nat) (mi : Nat → Nat → Int32) (ml : Nat → Nat → Int64) (qo : Nat) (hX : OkX ad ai aq) (hM : OkM mi) (hEX : EnvX (FA s) s) (hK : va_K (dC, dI) vwCl (TY cy) s) {H : Heap} {locs : List Loc} (hP : va_P (dC, dI) vwCl (FX cy ad ai al aq ++ FM cy am mi ml) H) (hD : va_D (FA s) (FX cy ad ai al aq ++ FM cy am mi ml)) (hS : va_S (FA s) s.heap H locs) {ls : Array Slot} (hl : lv_has ls 7 [(4, .int 0), (3, .ref qo), (2, .ref (am 0)), (1, .ref (ad 0)), (0, .ref b)]) : W p l e room_1 s m #[Value.ref b] below meth c H locs 237 23836 (lw_Z below #[Value.ref b] s) (F0 m 1120 ls []) := by
  obtain ⟨hx, hb, hr, hml, hown, htsL, hXs, hbl, hlocks, hgv⟩ := id C0
  have hown : s.vm.findClass RL = some m.cls := hown
  have hts : ∀ w ∈ GW, w.before #[Value.ref b] s = true := fun w hw => htsL w (List.mem_filter.mp hw).1
  have hA : ∀ q : Nat, s.heap.size ≤ q → FA s q := fun _ h => h
  have hbA : ¬ FA s b := Nat.not_le.mpr hbl
  refine lv_aload_n hx hb dL_law_1120 rfl (lv_at hl 3 rfl) ?_
  refine lv_aload_n hx hb dL_law_1121 rfl (lv_at hl 4 rfl) ?_
  refine lv_iload hx hb dL_law_1122 (lv_at hl 0 rfl) ?_
  refine lv_iconst (v := 1) hx hb dL_law_1124 (by decide) ?_
  refine lv_iadd hx hb dL_law_1125 ?_
  refine as_i 1 (by decide) ?_
  refine va_sld hx hb hXs hbl hbA hS (show vp_in 1 6 from vp_in_nI (n := 1) (by decide) (by decide)) dL_law_1126 ?_
  refine as_i (xs 1) rfl ?_
  refine jr_i (rVr (As := [.int (xs 1)]) (rest := []) (ci := 11) ⟨hx, hb, hml, hown, hts⟩ (k_hide l dC dI cy ad (xs 1) ) (cw_L_142 hts rfl rfl ⟨Nat.le_of_ble_eq_true rfl, Nat.le_of_ble_eq_true rfl⟩) hP hK [0, 22, 23] rfl rfl rfl rfl hl.1 rfl (Nat.le_of_ble_eq_true rfl) dL_law_1127 ⟨Nat.le_of_ble_eq_true rfl, Nat.le_of_ble_eq_true rfl⟩) hP hS (fun r_1 H locs hp_2 hP hS => ?_)
  refine as_i (-1) hp_2 ?_
  refine lv_aload_n hx hb dL_law_1130 rfl (lv_at hl 2 rfl) ?_
  refine lv_aload_n hx hb dL_law_1131 rfl (lv_at hl 4 rfl) ?_
  refine lv_iload hx hb dL_law_1132 (lv_at hl 0 rfl) ?_
  refine lv_iconst (v := 1) hx hb dL_law_1134 (by decide) ?_
  refine lv_iadd hx hb dL_law_1135 ?_
  refine as_i 1 (by decide) ?_
  refine va_sld hx hb hXs hbl hbA hS (show vp_in 1 6 from vp_in_nI (n := 1) (by decide) (by decide)) dL_law_1136 ?_
  refine as_i (xs 1) rfl ?_
  refine jn_i (wr := []) (rV (As := [.int (xs 1)]) (rest := [.int (-1)]) (ci := 12) ⟨hx, hb, hml, hown, hts⟩ (m_hide l dC dI cy _ am mi (xs 1) hM.1) (cw_L_145 hts rfl rfl ⟨Nat.le_of_ble_eq_true rfl, Nat.le_of_ble_eq_true rfl⟩) hP hD hK [114, 116] rfl rfl rfl rfl bl0 e0 rfl hl.1 rfl (Nat.le_of_ble_eq_true rfl) dL_law_1137 ⟨Nat.le_of_ble_eq_true rfl, Nat.le_of_ble_eq_true rfl⟩) hP hD hS hA [114, 116] [] rfl rfl rfl (by decide) (fun r_3 u_5 H locs hp_4 hP hD hS => ?_)
  have hp_4 : r_3 = (-1) := hp_4
  have hP : va_P (dC, dI) vwCl [] H := hP
  have hD : va_D (FA s) [] := hD
  refine as_i (-1) hp_4 ?_
  refine lv_icmp_eq (tgt := 1457) hx hb dL_law_1140 (by decide) (fun _ => ?_) (fun c9 => absurd (by decide) c9)
  exact law_end C0 hS (lv_sub hl [0, 4] rfl) (by decide) (by decide)
theorem dL_law_1145 : decode cL_law 1145 = .ok (.aload_n 1, 1) := by decide +kernel
theorem dL_law_1146 : decode cL_law 1146 = .ok (.invokevirtual 146, 3) := by decide +kernel
theorem t969 : Cond.methodLink RL 146 yX10_heaviest ∈ GW := gw_mem 1083 (by decide +kernel) (by decide +kernel)
theorem t970 : Cond.instanceMethod yX10_heaviest ∈ GW := gw_mem 1084 (by decide +kernel) (by decide +kernel)
theorem t971 : Cond.selects RX10 yX10_heaviest yX10_heaviest ∈ GW := gw_mem 1085 (by decide +kernel) (by decide +kernel)
theorem cw_L_146 {R : Room} {s : State} {args : Array Value} {rm : Room} {mc ms : Nat} (hts : ∀ w ∈ GW, w.before args s = true) (hrc : rm.cells = mc) (hrs : rm.slots = ms) (hR : rm.frames + 1 ≤ R.frames ∧ 8 + (5 + 11) + rm.locals ≤ R.locals) : CallW R s args RL RX10 146 yX10_heaviest cX10_heaviest 5 (some .int) (wl yX10_heaviest cX10_heaviest 5 (some .int)) rm mc ms 0 := cwV 0 hts (gi_V t969 t970 t971 t1 t972) rfl hrc hrs (by decide +kernel) hR
theorem dL_law_1149 : decode cL_law 1149 = .ok (.aload_n 2, 1) := by decide +kernel
theorem dL_law_1150 : decode cL_law 1150 = .ok (.invokevirtual 149, 3) := by decide +kernel
theorem t1922 : Cond.methodLink RL 149 yX11_heaviest ∈ GW := gw_mem 2036 (by decide +kernel) (by decide +kernel)
theorem t1923 : Cond.instanceMethod yX11_heaviest ∈ GW := gw_mem 2037 (by decide +kernel) (by decide +kernel)
theorem t1924 : Cond.selects RX11 yX11_heaviest yX11_heaviest ∈ GW := gw_mem 2038 (by decide +kernel) (by decide +kernel)
theorem cw_L_149 {R : Room} {s : State} {args : Array Value} {rm : Room} {mc ms : Nat} (hts : ∀ w ∈ GW, w.before args s = true) (hrc : rm.cells = mc) (hrs : rm.slots = ms) (hR : rm.frames + 1 ≤ R.frames ∧ 8 + (3 + 11) + rm.locals ≤ R.locals) : CallW R s args RL RX11 149 yX11_heaviest cX11_heaviest 3 (some .int) (wl yX11_heaviest cX11_heaviest 3 (some .int)) rm mc ms 0 := cwV 0 hts (gi_V t1922 t1923 t1924 t18 t1925) rfl hrc hrs (by decide +kernel) hR
theorem dL_law_1153 : decode cL_law 1153 = .ok (.if_icmp .eq 304, 3) := by decide +kernel
set_option maxHeartbeats 4000000 in
set_option maxRecDepth 100000 in
theorem lc_29 {p : Program} {l : Launch} {e : Env} {s : State} {m : MethodId} {below : List Frame} {meth : Method} {c : Code} {b : Nat} {xs : Nat → Int32} (hl0 : l.stackTraces = false) (C0 : lw_At p s m meth c b 6 xs) (dC : Nat → ClassId) (dI : Nat → Nat → Nat) (cy : Nat → ClassId) (ad : Nat → Nat) (ai : Nat → Nat → Int32) (al : Nat → Nat → Int64) (aq : Nat → Nat → Option Nat) (am : Nat → Nat) (mi : Nat → Nat → Int32) (ml : Nat → Nat → Int64) (qo : Nat) (hX : OkX ad ai aq) (hM : OkM mi) (hEX : EnvX (FA s) s) (hK : va_K (dC, dI) vwCl (TY cy) s) {H : Heap} {locs : List Loc} (hP : va_P (dC, dI) vwCl (FX cy ad ai al aq ++ FM cy am mi ml) H) (hD : va_D (FA s) (FX cy ad ai al aq ++ FM cy am mi ml)) (hS : va_S (FA s) s.heap H locs) {ls : Array Slot} (hl : lv_has ls 7 [(4, .int 0), (3, .ref qo), (2, .ref (am 0)), (1, .ref (ad 0)), (0, .ref b)]) : W p l e room_1 s m #[Value.ref b] below meth c H locs 237 23836 (lw_Z below #[Value.ref b] s) (F0 m 1145 ls []) := by
  obtain ⟨hx, hb, hr, hml, hown, htsL, hXs, hbl, hlocks, hgv⟩ := id C0
  have hown : s.vm.findClass RL = some m.cls := hown
  have hts : ∀ w ∈ GW, w.before #[Value.ref b] s = true := fun w hw => htsL w (List.mem_filter.mp hw).1
  have hA : ∀ q : Nat, s.heap.size ≤ q → FA s q := fun _ h => h
  have hbA : ¬ FA s b := Nat.not_le.mpr hbl
  refine lv_aload_n hx hb dL_law_1145 rfl (lv_at hl 3 rfl) ?_
  refine jr_i (rVr (As := []) (rest := []) (ci := 11) ⟨hx, hb, hml, hown, hts⟩ (k_heaviest l dC dI cy ad ) (cw_L_146 hts rfl rfl ⟨Nat.le_of_ble_eq_true rfl, Nat.le_of_ble_eq_true rfl⟩) hP hK [0, 22, 23] rfl rfl rfl rfl hl.1 rfl (Nat.le_of_ble_eq_true rfl) dL_law_1146 ⟨Nat.le_of_ble_eq_true rfl, Nat.le_of_ble_eq_true rfl⟩) hP hS (fun r_1 H locs hp_2 hP hS => ?_)
  refine as_i (-1) hp_2 ?_
  refine lv_aload_n hx hb dL_law_1149 rfl (lv_at hl 2 rfl) ?_
  refine jn_i (wr := []) (rV (As := []) (rest := [.int (-1)]) (ci := 12) ⟨hx, hb, hml, hown, hts⟩ (m_heaviest l dC dI cy _ am mi hM.1) (cw_L_149 hts rfl rfl ⟨Nat.le_of_ble_eq_true rfl, Nat.le_of_ble_eq_true rfl⟩) hP hD hK [114, 116] rfl rfl rfl rfl bl0 e0 rfl hl.1 rfl (Nat.le_of_ble_eq_true rfl) dL_law_1150 ⟨Nat.le_of_ble_eq_true rfl, Nat.le_of_ble_eq_true rfl⟩) hP hD hS hA [114, 116] [] rfl rfl rfl (by decide) (fun r_3 u_5 H locs hp_4 hP hD hS => ?_)
  have hp_4 : r_3 = (-1) := hp_4
  have hP : va_P (dC, dI) vwCl [] H := hP
  have hD : va_D (FA s) [] := hD
  refine as_i (-1) hp_4 ?_
  refine lv_icmp_eq (tgt := 1457) hx hb dL_law_1153 (by decide) (fun _ => ?_) (fun c9 => absurd (by decide) c9)
  exact law_end C0 hS (lv_sub hl [0, 4] rfl) (by decide) (by decide)
theorem dL_law_1158 : decode cL_law 1158 = .ok (.aload_n 1, 1) := by decide +kernel
theorem dL_law_1159 : decode cL_law 1159 = .ok (.aload_n 0, 1) := by decide +kernel
theorem dL_law_1160 : decode cL_law 1160 = .ok (.iload 4, 2) := by decide +kernel
theorem dL_law_1162 : decode cL_law 1162 = .ok (.iconst 1, 1) := by decide +kernel
theorem dL_law_1163 : decode cL_law 1163 = .ok (.iadd, 1) := by decide +kernel
theorem dL_law_1164 : decode cL_law 1164 = .ok (.iaload, 1) := by decide +kernel
theorem dL_law_1165 : decode cL_law 1165 = .ok (.invokevirtual 150, 3) := by decide +kernel
theorem t973 : Cond.methodLink RL 150 yX10_caption ∈ GW := gw_mem 1087 (by decide +kernel) (by decide +kernel)
theorem t974 : Cond.instanceMethod yX10_caption ∈ GW := gw_mem 1088 (by decide +kernel) (by decide +kernel)
theorem t975 : Cond.selects RX10 yX10_caption yX10_caption ∈ GW := gw_mem 1089 (by decide +kernel) (by decide +kernel)
theorem cw_L_150 {R : Room} {s : State} {args : Array Value} {rm : Room} {mc ms : Nat} (hts : ∀ w ∈ GW, w.before args s = true) (hrc : rm.cells = mc) (hrs : rm.slots = ms) (hR : rm.frames + 1 ≤ R.frames ∧ 8 + (3 + 11) + rm.locals ≤ R.locals) : CallW R s args RL RX10 150 yX10_caption cX10_caption 3 (some .int) (wl yX10_caption cX10_caption 3 (some .int)) rm mc ms 1 := cwV 1 hts (gi_V t973 t974 t975 t1 t976) rfl hrc hrs (by decide +kernel) hR
theorem dL_law_1168 : decode cL_law 1168 = .ok (.aload_n 2, 1) := by decide +kernel
theorem dL_law_1169 : decode cL_law 1169 = .ok (.aload_n 0, 1) := by decide +kernel
theorem dL_law_1170 : decode cL_law 1170 = .ok (.iload 4, 2) := by decide +kernel
theorem dL_law_1172 : decode cL_law 1172 = .ok (.iconst 1, 1) := by decide +kernel
theorem dL_law_1173 : decode cL_law 1173 = .ok (.iadd, 1) := by decide +kernel
theorem dL_law_1174 : decode cL_law 1174 = .ok (.iaload, 1) := by decide +kernel
theorem dL_law_1175 : decode cL_law 1175 = .ok (.invokevirtual 153, 3) := by decide +kernel
theorem t1926 : Cond.methodLink RL 153 yX11_caption ∈ GW := gw_mem 2040 (by decide +kernel) (by decide +kernel)
theorem t1927 : Cond.instanceMethod yX11_caption ∈ GW := gw_mem 2041 (by decide +kernel) (by decide +kernel)
theorem t1928 : Cond.selects RX11 yX11_caption yX11_caption ∈ GW := gw_mem 2042 (by decide +kernel) (by decide +kernel)
theorem cw_L_153 {R : Room} {s : State} {args : Array Value} {rm : Room} {mc ms : Nat} (hts : ∀ w ∈ GW, w.before args s = true) (hrc : rm.cells = mc) (hrs : rm.slots = ms) (hR : rm.frames + 1 ≤ R.frames ∧ 8 + (2 + 11) + rm.locals ≤ R.locals) : CallW R s args RL RX11 153 yX11_caption cX11_caption 2 (some .int) (wl yX11_caption cX11_caption 2 (some .int)) rm mc ms 1 := cwV 1 hts (gi_V t1926 t1927 t1928 t18 t1929) rfl hrc hrs (by decide +kernel) hR
theorem dL_law_1178 : decode cL_law 1178 = .ok (.if_icmp .eq 279, 3) := by decide +kernel
set_option maxHeartbeats 4000000 in
set_option maxRecDepth 100000 in
theorem lc_30 {p : Program} {l : Launch} {e : Env} {s : State} {m : MethodId} {below : List Frame} {meth : Method} {c : Code} {b : Nat} {xs : Nat → Int32} (hl0 : l.stackTraces = false) (C0 : lw_At p s m meth c b 6 xs) (dC : Nat → ClassId) (dI : Nat → Nat → Nat) (cy : Nat → ClassId) (ad : Nat → Nat) (ai : Nat → Nat → Int32) (al : Nat → Nat → Int64) (aq : Nat → Nat → Option Nat) (am : Nat → Nat) (mi : Nat → Nat → Int32) (ml : Nat → Nat → Int64) (qo : Nat) (hX : OkX ad ai aq) (hM : OkM mi) (hEX : EnvX (FA s) s) (hK : va_K (dC, dI) vwCl (TY cy) s) {H : Heap} {locs : List Loc} (hP : va_P (dC, dI) vwCl (FX cy ad ai al aq ++ FM cy am mi ml) H) (hD : va_D (FA s) (FX cy ad ai al aq ++ FM cy am mi ml)) (hS : va_S (FA s) s.heap H locs) {ls : Array Slot} (hl : lv_has ls 7 [(4, .int 0), (3, .ref qo), (2, .ref (am 0)), (1, .ref (ad 0)), (0, .ref b)]) : W p l e room_1 s m #[Value.ref b] below meth c H locs 237 23836 (lw_Z below #[Value.ref b] s) (F0 m 1158 ls []) := by
  obtain ⟨hx, hb, hr, hml, hown, htsL, hXs, hbl, hlocks, hgv⟩ := id C0
  have hown : s.vm.findClass RL = some m.cls := hown
  have hts : ∀ w ∈ GW, w.before #[Value.ref b] s = true := fun w hw => htsL w (List.mem_filter.mp hw).1
  have hA : ∀ q : Nat, s.heap.size ≤ q → FA s q := fun _ h => h
  have hbA : ¬ FA s b := Nat.not_le.mpr hbl
  refine lv_aload_n hx hb dL_law_1158 rfl (lv_at hl 3 rfl) ?_
  refine lv_aload_n hx hb dL_law_1159 rfl (lv_at hl 4 rfl) ?_
  refine lv_iload hx hb dL_law_1160 (lv_at hl 0 rfl) ?_
  refine lv_iconst (v := 1) hx hb dL_law_1162 (by decide) ?_
  refine lv_iadd hx hb dL_law_1163 ?_
  refine as_i 1 (by decide) ?_
  refine va_sld hx hb hXs hbl hbA hS (show vp_in 1 6 from vp_in_nI (n := 1) (by decide) (by decide)) dL_law_1164 ?_
  refine as_i (xs 1) rfl ?_
  refine jr_i (rVr (As := [.int (xs 1)]) (rest := []) (ci := 11) ⟨hx, hb, hml, hown, hts⟩ (k_caption l dC dI cy ad (xs 1) ) (cw_L_150 hts rfl rfl ⟨Nat.le_of_ble_eq_true rfl, Nat.le_of_ble_eq_true rfl⟩) hP hK [0, 22, 23] rfl rfl rfl rfl hl.1 rfl (Nat.le_of_ble_eq_true rfl) dL_law_1165 ⟨Nat.le_of_ble_eq_true rfl, Nat.le_of_ble_eq_true rfl⟩) hP hS (fun r_1 H locs hp_2 hP hS => ?_)
  refine as_i (-1) hp_2 ?_
  refine lv_aload_n hx hb dL_law_1168 rfl (lv_at hl 2 rfl) ?_
  refine lv_aload_n hx hb dL_law_1169 rfl (lv_at hl 4 rfl) ?_
  refine lv_iload hx hb dL_law_1170 (lv_at hl 0 rfl) ?_
  refine lv_iconst (v := 1) hx hb dL_law_1172 (by decide) ?_
  refine lv_iadd hx hb dL_law_1173 ?_
  refine as_i 1 (by decide) ?_
  refine va_sld hx hb hXs hbl hbA hS (show vp_in 1 6 from vp_in_nI (n := 1) (by decide) (by decide)) dL_law_1174 ?_
  refine as_i (xs 1) rfl ?_
  refine jn_i (wr := []) (rV (As := [.int (xs 1)]) (rest := [.int (-1)]) (ci := 12) ⟨hx, hb, hml, hown, hts⟩ (m_caption l dC dI cy _ am mi (xs 1) hM.1) (cw_L_153 hts rfl rfl ⟨Nat.le_of_ble_eq_true rfl, Nat.le_of_ble_eq_true rfl⟩) hP hD hK [114, 116] rfl rfl rfl rfl bl0 e0 rfl hl.1 rfl (Nat.le_of_ble_eq_true rfl) dL_law_1175 ⟨Nat.le_of_ble_eq_true rfl, Nat.le_of_ble_eq_true rfl⟩) hP hD hS hA [114, 116] [] rfl rfl rfl (by decide) (fun r_3 u_5 H locs hp_4 hP hD hS => ?_)
  have hp_4 : r_3 = (-1) := hp_4
  have hP : va_P (dC, dI) vwCl [] H := hP
  have hD : va_D (FA s) [] := hD
  refine as_i (-1) hp_4 ?_
  refine lv_icmp_eq (tgt := 1457) hx hb dL_law_1178 (by decide) (fun _ => ?_) (fun c9 => absurd (by decide) c9)
  exact law_end C0 hS (lv_sub hl [0, 4] rfl) (by decide) (by decide)
theorem dL_law_1183 : decode cL_law 1183 = .ok (.aload_n 1, 1) := by decide +kernel
theorem dL_law_1184 : decode cL_law 1184 = .ok (.aload_n 0, 1) := by decide +kernel
theorem dL_law_1185 : decode cL_law 1185 = .ok (.iload 4, 2) := by decide +kernel
theorem dL_law_1187 : decode cL_law 1187 = .ok (.iconst 1, 1) := by decide +kernel
theorem dL_law_1188 : decode cL_law 1188 = .ok (.iadd, 1) := by decide +kernel
theorem dL_law_1189 : decode cL_law 1189 = .ok (.iaload, 1) := by decide +kernel
theorem dL_law_1190 : decode cL_law 1190 = .ok (.invokevirtual 154, 3) := by decide +kernel
theorem t1149 : Cond.methodLink RL 154 yX10_byteAt ∈ GW := gw_mem 1263 (by decide +kernel) (by decide +kernel)
theorem t1150 : Cond.instanceMethod yX10_byteAt ∈ GW := gw_mem 1264 (by decide +kernel) (by decide +kernel)
theorem t1151 : Cond.selects RX10 yX10_byteAt yX10_byteAt ∈ GW := gw_mem 1265 (by decide +kernel) (by decide +kernel)
theorem cw_L_154 {R : Room} {s : State} {args : Array Value} {rm : Room} {mc ms : Nat} (hts : ∀ w ∈ GW, w.before args s = true) (hrc : rm.cells = mc) (hrs : rm.slots = ms) (hR : rm.frames + 1 ≤ R.frames ∧ 8 + (2 + 11) + rm.locals ≤ R.locals) : CallW R s args RL RX10 154 yX10_byteAt cX10_byteAt 2 (some .int) (wl yX10_byteAt cX10_byteAt 2 (some .int)) rm mc ms 1 := cwV 1 hts (gi_V t1149 t1150 t1151 t1 t1152) rfl hrc hrs (by decide +kernel) hR
theorem dL_law_1193 : decode cL_law 1193 = .ok (.aload_n 2, 1) := by decide +kernel
theorem dL_law_1194 : decode cL_law 1194 = .ok (.aload_n 0, 1) := by decide +kernel
theorem dL_law_1195 : decode cL_law 1195 = .ok (.iload 4, 2) := by decide +kernel
theorem dL_law_1197 : decode cL_law 1197 = .ok (.iconst 1, 1) := by decide +kernel
theorem dL_law_1198 : decode cL_law 1198 = .ok (.iadd, 1) := by decide +kernel
theorem dL_law_1199 : decode cL_law 1199 = .ok (.iaload, 1) := by decide +kernel
theorem dL_law_1200 : decode cL_law 1200 = .ok (.invokevirtual 157, 3) := by decide +kernel
theorem t1946 : Cond.methodLink RL 157 yX11_byteAt ∈ GW := gw_mem 2060 (by decide +kernel) (by decide +kernel)
theorem t1947 : Cond.instanceMethod yX11_byteAt ∈ GW := gw_mem 2061 (by decide +kernel) (by decide +kernel)
theorem t1948 : Cond.selects RX11 yX11_byteAt yX11_byteAt ∈ GW := gw_mem 2062 (by decide +kernel) (by decide +kernel)
theorem cw_L_157 {R : Room} {s : State} {args : Array Value} {rm : Room} {mc ms : Nat} (hts : ∀ w ∈ GW, w.before args s = true) (hrc : rm.cells = mc) (hrs : rm.slots = ms) (hR : rm.frames + 1 ≤ R.frames ∧ 8 + (2 + 11) + rm.locals ≤ R.locals) : CallW R s args RL RX11 157 yX11_byteAt cX11_byteAt 2 (some .int) (wl yX11_byteAt cX11_byteAt 2 (some .int)) rm mc ms 1 := cwV 1 hts (gi_V t1946 t1947 t1948 t18 t1949) rfl hrc hrs (by decide +kernel) hR
theorem dL_law_1203 : decode cL_law 1203 = .ok (.if_icmp .eq 254, 3) := by decide +kernel
set_option maxHeartbeats 4000000 in
set_option maxRecDepth 100000 in
theorem lc_31 {p : Program} {l : Launch} {e : Env} {s : State} {m : MethodId} {below : List Frame} {meth : Method} {c : Code} {b : Nat} {xs : Nat → Int32} (hl0 : l.stackTraces = false) (C0 : lw_At p s m meth c b 6 xs) (dC : Nat → ClassId) (dI : Nat → Nat → Nat) (cy : Nat → ClassId) (ad : Nat → Nat) (ai : Nat → Nat → Int32) (al : Nat → Nat → Int64) (aq : Nat → Nat → Option Nat) (am : Nat → Nat) (mi : Nat → Nat → Int32) (ml : Nat → Nat → Int64) (qo : Nat) (hX : OkX ad ai aq) (hM : OkM mi) (hEX : EnvX (FA s) s) (hK : va_K (dC, dI) vwCl (TY cy) s) {H : Heap} {locs : List Loc} (hP : va_P (dC, dI) vwCl (FX cy ad ai al aq ++ FM cy am mi ml) H) (hD : va_D (FA s) (FX cy ad ai al aq ++ FM cy am mi ml)) (hS : va_S (FA s) s.heap H locs) {ls : Array Slot} (hl : lv_has ls 7 [(4, .int 0), (3, .ref qo), (2, .ref (am 0)), (1, .ref (ad 0)), (0, .ref b)]) : W p l e room_1 s m #[Value.ref b] below meth c H locs 237 23836 (lw_Z below #[Value.ref b] s) (F0 m 1183 ls []) := by
  obtain ⟨hx, hb, hr, hml, hown, htsL, hXs, hbl, hlocks, hgv⟩ := id C0
  have hown : s.vm.findClass RL = some m.cls := hown
  have hts : ∀ w ∈ GW, w.before #[Value.ref b] s = true := fun w hw => htsL w (List.mem_filter.mp hw).1
  have hA : ∀ q : Nat, s.heap.size ≤ q → FA s q := fun _ h => h
  have hbA : ¬ FA s b := Nat.not_le.mpr hbl
  refine lv_aload_n hx hb dL_law_1183 rfl (lv_at hl 3 rfl) ?_
  refine lv_aload_n hx hb dL_law_1184 rfl (lv_at hl 4 rfl) ?_
  refine lv_iload hx hb dL_law_1185 (lv_at hl 0 rfl) ?_
  refine lv_iconst (v := 1) hx hb dL_law_1187 (by decide) ?_
  refine lv_iadd hx hb dL_law_1188 ?_
  refine as_i 1 (by decide) ?_
  refine va_sld hx hb hXs hbl hbA hS (show vp_in 1 6 from vp_in_nI (n := 1) (by decide) (by decide)) dL_law_1189 ?_
  refine as_i (xs 1) rfl ?_
  refine jr_i (rVr (As := [.int (xs 1)]) (rest := []) (ci := 11) ⟨hx, hb, hml, hown, hts⟩ (k_byteAt l dC dI cy ad (xs 1) ) (cw_L_154 hts rfl rfl ⟨Nat.le_of_ble_eq_true rfl, Nat.le_of_ble_eq_true rfl⟩) hP hK [0, 19] rfl rfl rfl rfl hl.1 rfl (Nat.le_of_ble_eq_true rfl) dL_law_1190 ⟨Nat.le_of_ble_eq_true rfl, Nat.le_of_ble_eq_true rfl⟩) hP hS (fun r_1 H locs hp_2 hP hS => ?_)
  refine as_i (-1) hp_2 ?_
  refine lv_aload_n hx hb dL_law_1193 rfl (lv_at hl 2 rfl) ?_
  refine lv_aload_n hx hb dL_law_1194 rfl (lv_at hl 4 rfl) ?_
  refine lv_iload hx hb dL_law_1195 (lv_at hl 0 rfl) ?_
  refine lv_iconst (v := 1) hx hb dL_law_1197 (by decide) ?_
  refine lv_iadd hx hb dL_law_1198 ?_
  refine as_i 1 (by decide) ?_
  refine va_sld hx hb hXs hbl hbA hS (show vp_in 1 6 from vp_in_nI (n := 1) (by decide) (by decide)) dL_law_1199 ?_
  refine as_i (xs 1) rfl ?_
  refine jn_i (wr := []) (rV (As := [.int (xs 1)]) (rest := [.int (-1)]) (ci := 12) ⟨hx, hb, hml, hown, hts⟩ (m_byteAt l dC dI cy _ am (xs 1) ) (cw_L_157 hts rfl rfl ⟨Nat.le_of_ble_eq_true rfl, Nat.le_of_ble_eq_true rfl⟩) hP hD hK [114] rfl rfl rfl rfl bl0 e0 rfl hl.1 rfl (Nat.le_of_ble_eq_true rfl) dL_law_1200 ⟨Nat.le_of_ble_eq_true rfl, Nat.le_of_ble_eq_true rfl⟩) hP hD hS hA [114] [] rfl rfl rfl (by decide) (fun r_3 u_5 H locs hp_4 hP hD hS => ?_)
  have hp_4 : r_3 = (-1) := hp_4
  have hP : va_P (dC, dI) vwCl [] H := hP
  have hD : va_D (FA s) [] := hD
  refine as_i (-1) hp_4 ?_
  refine lv_icmp_eq (tgt := 1457) hx hb dL_law_1203 (by decide) (fun _ => ?_) (fun c9 => absurd (by decide) c9)
  exact law_end C0 hS (lv_sub hl [0, 4] rfl) (by decide) (by decide)
theorem dL_law_1208 : decode cL_law 1208 = .ok (.aload_n 1, 1) := by decide +kernel
theorem dL_law_1209 : decode cL_law 1209 = .ok (.aload_n 0, 1) := by decide +kernel
theorem dL_law_1210 : decode cL_law 1210 = .ok (.iload 4, 2) := by decide +kernel
theorem dL_law_1212 : decode cL_law 1212 = .ok (.iconst 1, 1) := by decide +kernel
theorem dL_law_1213 : decode cL_law 1213 = .ok (.iadd, 1) := by decide +kernel
theorem dL_law_1214 : decode cL_law 1214 = .ok (.iaload, 1) := by decide +kernel
theorem dL_law_1215 : decode cL_law 1215 = .ok (.aload_n 0, 1) := by decide +kernel
theorem dL_law_1216 : decode cL_law 1216 = .ok (.iload 4, 2) := by decide +kernel
theorem dL_law_1218 : decode cL_law 1218 = .ok (.iconst 2, 1) := by decide +kernel
theorem dL_law_1219 : decode cL_law 1219 = .ok (.iadd, 1) := by decide +kernel
theorem dL_law_1220 : decode cL_law 1220 = .ok (.iaload, 1) := by decide +kernel
theorem dL_law_1221 : decode cL_law 1221 = .ok (.invokevirtual 158, 3) := by decide +kernel
theorem t1163 : Cond.methodLink RL 158 yX10_drawn ∈ GW := gw_mem 1277 (by decide +kernel) (by decide +kernel)
theorem t1164 : Cond.instanceMethod yX10_drawn ∈ GW := gw_mem 1278 (by decide +kernel) (by decide +kernel)
theorem t1165 : Cond.selects RX10 yX10_drawn yX10_drawn ∈ GW := gw_mem 1279 (by decide +kernel) (by decide +kernel)
theorem cw_L_158 {R : Room} {s : State} {args : Array Value} {rm : Room} {mc ms : Nat} (hts : ∀ w ∈ GW, w.before args s = true) (hrc : rm.cells = mc) (hrs : rm.slots = ms) (hR : rm.frames + 1 ≤ R.frames ∧ 8 + (3 + 11) + rm.locals ≤ R.locals) : CallW R s args RL RX10 158 yX10_drawn cX10_drawn 3 (some .int) (wl yX10_drawn cX10_drawn 3 (some .int)) rm mc ms 2 := cwV 2 hts (gi_V t1163 t1164 t1165 t1 t1166) rfl hrc hrs (by decide +kernel) hR
theorem dL_law_1224 : decode cL_law 1224 = .ok (.aload_n 2, 1) := by decide +kernel
theorem dL_law_1225 : decode cL_law 1225 = .ok (.aload_n 0, 1) := by decide +kernel
theorem dL_law_1226 : decode cL_law 1226 = .ok (.iload 4, 2) := by decide +kernel
theorem dL_law_1228 : decode cL_law 1228 = .ok (.iconst 1, 1) := by decide +kernel
theorem dL_law_1229 : decode cL_law 1229 = .ok (.iadd, 1) := by decide +kernel
theorem dL_law_1230 : decode cL_law 1230 = .ok (.iaload, 1) := by decide +kernel
theorem dL_law_1231 : decode cL_law 1231 = .ok (.aload_n 0, 1) := by decide +kernel
theorem dL_law_1232 : decode cL_law 1232 = .ok (.iload 4, 2) := by decide +kernel
theorem dL_law_1234 : decode cL_law 1234 = .ok (.iconst 2, 1) := by decide +kernel
theorem dL_law_1235 : decode cL_law 1235 = .ok (.iadd, 1) := by decide +kernel
theorem dL_law_1236 : decode cL_law 1236 = .ok (.iaload, 1) := by decide +kernel
theorem dL_law_1237 : decode cL_law 1237 = .ok (.invokevirtual 161, 3) := by decide +kernel
theorem t1950 : Cond.methodLink RL 161 yX11_drawn ∈ GW := gw_mem 2064 (by decide +kernel) (by decide +kernel)
theorem t1951 : Cond.instanceMethod yX11_drawn ∈ GW := gw_mem 2065 (by decide +kernel) (by decide +kernel)
theorem t1952 : Cond.selects RX11 yX11_drawn yX11_drawn ∈ GW := gw_mem 2066 (by decide +kernel) (by decide +kernel)
theorem cw_L_161 {R : Room} {s : State} {args : Array Value} {rm : Room} {mc ms : Nat} (hts : ∀ w ∈ GW, w.before args s = true) (hrc : rm.cells = mc) (hrs : rm.slots = ms) (hR : rm.frames + 1 ≤ R.frames ∧ 8 + (3 + 11) + rm.locals ≤ R.locals) : CallW R s args RL RX11 161 yX11_drawn cX11_drawn 3 (some .int) (wl yX11_drawn cX11_drawn 3 (some .int)) rm mc ms 2 := cwV 2 hts (gi_V t1950 t1951 t1952 t18 t1953) rfl hrc hrs (by decide +kernel) hR
theorem dL_law_1240 : decode cL_law 1240 = .ok (.if_icmp .eq 217, 3) := by decide +kernel
set_option maxHeartbeats 4000000 in
set_option maxRecDepth 100000 in
theorem lc_32 {p : Program} {l : Launch} {e : Env} {s : State} {m : MethodId} {below : List Frame} {meth : Method} {c : Code} {b : Nat} {xs : Nat → Int32} (hl0 : l.stackTraces = false) (C0 : lw_At p s m meth c b 6 xs) (dC : Nat → ClassId) (dI : Nat → Nat → Nat) (cy : Nat → ClassId) (ad : Nat → Nat) (ai : Nat → Nat → Int32) (al : Nat → Nat → Int64) (aq : Nat → Nat → Option Nat) (am : Nat → Nat) (mi : Nat → Nat → Int32) (ml : Nat → Nat → Int64) (qo : Nat) (hX : OkX ad ai aq) (hM : OkM mi) (hEX : EnvX (FA s) s) (hK : va_K (dC, dI) vwCl (TY cy) s) {H : Heap} {locs : List Loc} (hP : va_P (dC, dI) vwCl (FX cy ad ai al aq ++ FM cy am mi ml) H) (hD : va_D (FA s) (FX cy ad ai al aq ++ FM cy am mi ml)) (hS : va_S (FA s) s.heap H locs) {ls : Array Slot} (hl : lv_has ls 7 [(4, .int 0), (3, .ref qo), (2, .ref (am 0)), (1, .ref (ad 0)), (0, .ref b)]) : W p l e room_1 s m #[Value.ref b] below meth c H locs 237 23836 (lw_Z below #[Value.ref b] s) (F0 m 1208 ls []) := by
  obtain ⟨hx, hb, hr, hml, hown, htsL, hXs, hbl, hlocks, hgv⟩ := id C0
  have hown : s.vm.findClass RL = some m.cls := hown
  have hts : ∀ w ∈ GW, w.before #[Value.ref b] s = true := fun w hw => htsL w (List.mem_filter.mp hw).1
  have hA : ∀ q : Nat, s.heap.size ≤ q → FA s q := fun _ h => h
  have hbA : ¬ FA s b := Nat.not_le.mpr hbl
  refine lv_aload_n hx hb dL_law_1208 rfl (lv_at hl 3 rfl) ?_
  refine lv_aload_n hx hb dL_law_1209 rfl (lv_at hl 4 rfl) ?_
  refine lv_iload hx hb dL_law_1210 (lv_at hl 0 rfl) ?_
  refine lv_iconst (v := 1) hx hb dL_law_1212 (by decide) ?_
  refine lv_iadd hx hb dL_law_1213 ?_
  refine as_i 1 (by decide) ?_
  refine va_sld hx hb hXs hbl hbA hS (show vp_in 1 6 from vp_in_nI (n := 1) (by decide) (by decide)) dL_law_1214 ?_
  refine as_i (xs 1) rfl ?_
  refine lv_aload_n hx hb dL_law_1215 rfl (lv_at hl 4 rfl) ?_
  refine lv_iload hx hb dL_law_1216 (lv_at hl 0 rfl) ?_
  refine lv_iconst (v := 2) hx hb dL_law_1218 (by decide) ?_
  refine lv_iadd hx hb dL_law_1219 ?_
  refine as_i 2 (by decide) ?_
  refine va_sld hx hb hXs hbl hbA hS (show vp_in 2 6 from vp_in_nI (n := 2) (by decide) (by decide)) dL_law_1220 ?_
  refine as_i (xs 2) rfl ?_
  refine jr_i (rVr (As := [.int (xs 1), .int (xs 2)]) (rest := []) (ci := 11) ⟨hx, hb, hml, hown, hts⟩ (k_drawn l dC dI cy ad (xs 1) (xs 2) ) (cw_L_158 hts rfl rfl ⟨Nat.le_of_ble_eq_true rfl, Nat.le_of_ble_eq_true rfl⟩) hP hK [0, 22, 23] rfl rfl rfl rfl hl.1 rfl (Nat.le_of_ble_eq_true rfl) dL_law_1221 ⟨Nat.le_of_ble_eq_true rfl, Nat.le_of_ble_eq_true rfl⟩) hP hS (fun r_1 H locs hp_2 hP hS => ?_)
  refine as_i (-1) hp_2 ?_
  refine lv_aload_n hx hb dL_law_1224 rfl (lv_at hl 2 rfl) ?_
  refine lv_aload_n hx hb dL_law_1225 rfl (lv_at hl 4 rfl) ?_
  refine lv_iload hx hb dL_law_1226 (lv_at hl 0 rfl) ?_
  refine lv_iconst (v := 1) hx hb dL_law_1228 (by decide) ?_
  refine lv_iadd hx hb dL_law_1229 ?_
  refine as_i 1 (by decide) ?_
  refine va_sld hx hb hXs hbl hbA hS (show vp_in 1 6 from vp_in_nI (n := 1) (by decide) (by decide)) dL_law_1230 ?_
  refine as_i (xs 1) rfl ?_
  refine lv_aload_n hx hb dL_law_1231 rfl (lv_at hl 4 rfl) ?_
  refine lv_iload hx hb dL_law_1232 (lv_at hl 0 rfl) ?_
  refine lv_iconst (v := 2) hx hb dL_law_1234 (by decide) ?_
  refine lv_iadd hx hb dL_law_1235 ?_
  refine as_i 2 (by decide) ?_
  refine va_sld hx hb hXs hbl hbA hS (show vp_in 2 6 from vp_in_nI (n := 2) (by decide) (by decide)) dL_law_1236 ?_
  refine as_i (xs 2) rfl ?_
  refine jn_i (wr := []) (rV (As := [.int (xs 1), .int (xs 2)]) (rest := [.int (-1)]) (ci := 12) ⟨hx, hb, hml, hown, hts⟩ (m_drawn l dC dI cy _ am mi (xs 1) (xs 2) hM.1) (cw_L_161 hts rfl rfl ⟨Nat.le_of_ble_eq_true rfl, Nat.le_of_ble_eq_true rfl⟩) hP hD hK [114, 116] rfl rfl rfl rfl bl0 e0 rfl hl.1 rfl (Nat.le_of_ble_eq_true rfl) dL_law_1237 ⟨Nat.le_of_ble_eq_true rfl, Nat.le_of_ble_eq_true rfl⟩) hP hD hS hA [114, 116] [] rfl rfl rfl (by decide) (fun r_3 u_5 H locs hp_4 hP hD hS => ?_)
  have hp_4 : r_3 = (-1) := hp_4
  have hP : va_P (dC, dI) vwCl [] H := hP
  have hD : va_D (FA s) [] := hD
  refine as_i (-1) hp_4 ?_
  refine lv_icmp_eq (tgt := 1457) hx hb dL_law_1240 (by decide) (fun _ => ?_) (fun c9 => absurd (by decide) c9)
  exact law_end C0 hS (lv_sub hl [0, 4] rfl) (by decide) (by decide)
theorem dL_law_1245 : decode cL_law 1245 = .ok (.aload_n 1, 1) := by decide +kernel
theorem dL_law_1246 : decode cL_law 1246 = .ok (.aload_n 0, 1) := by decide +kernel
theorem dL_law_1247 : decode cL_law 1247 = .ok (.iload 4, 2) := by decide +kernel
theorem dL_law_1249 : decode cL_law 1249 = .ok (.iconst 1, 1) := by decide +kernel
theorem dL_law_1250 : decode cL_law 1250 = .ok (.iadd, 1) := by decide +kernel
theorem dL_law_1251 : decode cL_law 1251 = .ok (.iaload, 1) := by decide +kernel
theorem dL_law_1252 : decode cL_law 1252 = .ok (.aload_n 0, 1) := by decide +kernel
theorem dL_law_1253 : decode cL_law 1253 = .ok (.iload 4, 2) := by decide +kernel
theorem dL_law_1255 : decode cL_law 1255 = .ok (.iconst 2, 1) := by decide +kernel
theorem dL_law_1256 : decode cL_law 1256 = .ok (.iadd, 1) := by decide +kernel
theorem dL_law_1257 : decode cL_law 1257 = .ok (.iaload, 1) := by decide +kernel
theorem dL_law_1258 : decode cL_law 1258 = .ok (.aload_n 0, 1) := by decide +kernel
theorem dL_law_1259 : decode cL_law 1259 = .ok (.iload 4, 2) := by decide +kernel
theorem dL_law_1261 : decode cL_law 1261 = .ok (.iconst 3, 1) := by decide +kernel
theorem dL_law_1262 : decode cL_law 1262 = .ok (.iadd, 1) := by decide +kernel
theorem dL_law_1263 : decode cL_law 1263 = .ok (.iaload, 1) := by decide +kernel
theorem dL_law_1264 : decode cL_law 1264 = .ok (.invokevirtual 162, 3) := by decide +kernel
theorem t1186 : Cond.methodLink RL 162 yX10_odds ∈ GW := gw_mem 1300 (by decide +kernel) (by decide +kernel)
theorem t1187 : Cond.instanceMethod yX10_odds ∈ GW := gw_mem 1301 (by decide +kernel) (by decide +kernel)
theorem t1188 : Cond.selects RX10 yX10_odds yX10_odds ∈ GW := gw_mem 1302 (by decide +kernel) (by decide +kernel)
theorem cw_L_162 {R : Room} {s : State} {args : Array Value} {rm : Room} {mc ms : Nat} (hts : ∀ w ∈ GW, w.before args s = true) (hrc : rm.cells = mc) (hrs : rm.slots = ms) (hR : rm.frames + 1 ≤ R.frames ∧ 8 + (6 + 11) + rm.locals ≤ R.locals) : CallW R s args RL RX10 162 yX10_odds cX10_odds 6 (some .int) (wl yX10_odds cX10_odds 6 (some .int)) rm mc ms 3 := cwV 3 hts (gi_V t1186 t1187 t1188 t1 t1189) rfl hrc hrs (by decide +kernel) hR
theorem dL_law_1267 : decode cL_law 1267 = .ok (.aload_n 2, 1) := by decide +kernel
theorem dL_law_1268 : decode cL_law 1268 = .ok (.aload_n 0, 1) := by decide +kernel
theorem dL_law_1269 : decode cL_law 1269 = .ok (.iload 4, 2) := by decide +kernel
theorem dL_law_1271 : decode cL_law 1271 = .ok (.iconst 1, 1) := by decide +kernel
theorem dL_law_1272 : decode cL_law 1272 = .ok (.iadd, 1) := by decide +kernel
theorem dL_law_1273 : decode cL_law 1273 = .ok (.iaload, 1) := by decide +kernel
theorem dL_law_1274 : decode cL_law 1274 = .ok (.aload_n 0, 1) := by decide +kernel
theorem dL_law_1275 : decode cL_law 1275 = .ok (.iload 4, 2) := by decide +kernel
theorem dL_law_1277 : decode cL_law 1277 = .ok (.iconst 2, 1) := by decide +kernel
theorem dL_law_1278 : decode cL_law 1278 = .ok (.iadd, 1) := by decide +kernel
theorem dL_law_1279 : decode cL_law 1279 = .ok (.iaload, 1) := by decide +kernel
theorem dL_law_1280 : decode cL_law 1280 = .ok (.aload_n 0, 1) := by decide +kernel
theorem dL_law_1281 : decode cL_law 1281 = .ok (.iload 4, 2) := by decide +kernel
theorem dL_law_1283 : decode cL_law 1283 = .ok (.iconst 3, 1) := by decide +kernel
theorem dL_law_1284 : decode cL_law 1284 = .ok (.iadd, 1) := by decide +kernel
theorem dL_law_1285 : decode cL_law 1285 = .ok (.iaload, 1) := by decide +kernel
theorem dL_law_1286 : decode cL_law 1286 = .ok (.invokevirtual 165, 3) := by decide +kernel
theorem t1967 : Cond.methodLink RL 165 yX11_odds ∈ GW := gw_mem 2081 (by decide +kernel) (by decide +kernel)
theorem t1968 : Cond.instanceMethod yX11_odds ∈ GW := gw_mem 2082 (by decide +kernel) (by decide +kernel)
theorem t1969 : Cond.selects RX11 yX11_odds yX11_odds ∈ GW := gw_mem 2083 (by decide +kernel) (by decide +kernel)
theorem cw_L_165 {R : Room} {s : State} {args : Array Value} {rm : Room} {mc ms : Nat} (hts : ∀ w ∈ GW, w.before args s = true) (hrc : rm.cells = mc) (hrs : rm.slots = ms) (hR : rm.frames + 1 ≤ R.frames ∧ 8 + (6 + 11) + rm.locals ≤ R.locals) : CallW R s args RL RX11 165 yX11_odds cX11_odds 6 (some .int) (wl yX11_odds cX11_odds 6 (some .int)) rm mc ms 3 := cwV 3 hts (gi_V t1967 t1968 t1969 t18 t1970) rfl hrc hrs (by decide +kernel) hR
theorem dL_law_1289 : decode cL_law 1289 = .ok (.if_icmp .eq 168, 3) := by decide +kernel
set_option maxHeartbeats 4000000 in
set_option maxRecDepth 100000 in
theorem lc_33 {p : Program} {l : Launch} {e : Env} {s : State} {m : MethodId} {below : List Frame} {meth : Method} {c : Code} {b : Nat} {xs : Nat → Int32} (hl0 : l.stackTraces = false) (C0 : lw_At p s m meth c b 6 xs) (dC : Nat → ClassId) (dI : Nat → Nat → Nat) (cy : Nat → ClassId) (ad : Nat → Nat) (ai : Nat → Nat → Int32) (al : Nat → Nat → Int64) (aq : Nat → Nat → Option Nat) (am : Nat → Nat) (mi : Nat → Nat → Int32) (ml : Nat → Nat → Int64) (qo : Nat) (hX : OkX ad ai aq) (hM : OkM mi) (hEX : EnvX (FA s) s) (hK : va_K (dC, dI) vwCl (TY cy) s) {H : Heap} {locs : List Loc} (hP : va_P (dC, dI) vwCl (FX cy ad ai al aq ++ FM cy am mi ml) H) (hD : va_D (FA s) (FX cy ad ai al aq ++ FM cy am mi ml)) (hS : va_S (FA s) s.heap H locs) {ls : Array Slot} (hl : lv_has ls 7 [(4, .int 0), (3, .ref qo), (2, .ref (am 0)), (1, .ref (ad 0)), (0, .ref b)]) : W p l e room_1 s m #[Value.ref b] below meth c H locs 237 23836 (lw_Z below #[Value.ref b] s) (F0 m 1245 ls []) := by
  obtain ⟨hx, hb, hr, hml, hown, htsL, hXs, hbl, hlocks, hgv⟩ := id C0
  have hown : s.vm.findClass RL = some m.cls := hown
  have hts : ∀ w ∈ GW, w.before #[Value.ref b] s = true := fun w hw => htsL w (List.mem_filter.mp hw).1
  have hA : ∀ q : Nat, s.heap.size ≤ q → FA s q := fun _ h => h
  have hbA : ¬ FA s b := Nat.not_le.mpr hbl
  refine lv_aload_n hx hb dL_law_1245 rfl (lv_at hl 3 rfl) ?_
  refine lv_aload_n hx hb dL_law_1246 rfl (lv_at hl 4 rfl) ?_
  refine lv_iload hx hb dL_law_1247 (lv_at hl 0 rfl) ?_
  refine lv_iconst (v := 1) hx hb dL_law_1249 (by decide) ?_
  refine lv_iadd hx hb dL_law_1250 ?_
  refine as_i 1 (by decide) ?_
  refine va_sld hx hb hXs hbl hbA hS (show vp_in 1 6 from vp_in_nI (n := 1) (by decide) (by decide)) dL_law_1251 ?_
  refine as_i (xs 1) rfl ?_
  refine lv_aload_n hx hb dL_law_1252 rfl (lv_at hl 4 rfl) ?_
  refine lv_iload hx hb dL_law_1253 (lv_at hl 0 rfl) ?_
  refine lv_iconst (v := 2) hx hb dL_law_1255 (by decide) ?_
  refine lv_iadd hx hb dL_law_1256 ?_
  refine as_i 2 (by decide) ?_
  refine va_sld hx hb hXs hbl hbA hS (show vp_in 2 6 from vp_in_nI (n := 2) (by decide) (by decide)) dL_law_1257 ?_
  refine as_i (xs 2) rfl ?_
  refine lv_aload_n hx hb dL_law_1258 rfl (lv_at hl 4 rfl) ?_
  refine lv_iload hx hb dL_law_1259 (lv_at hl 0 rfl) ?_
  refine lv_iconst (v := 3) hx hb dL_law_1261 (by decide) ?_
  refine lv_iadd hx hb dL_law_1262 ?_
  refine as_i 3 (by decide) ?_
  refine va_sld hx hb hXs hbl hbA hS (show vp_in 3 6 from vp_in_nI (n := 3) (by decide) (by decide)) dL_law_1263 ?_
  refine as_i (xs 3) rfl ?_
  refine jr_i (rVr (As := [.int (xs 1), .int (xs 2), .int (xs 3)]) (rest := []) (ci := 11) ⟨hx, hb, hml, hown, hts⟩ (k_odds l dC dI cy ad (xs 1) (xs 2) (xs 3) ) (cw_L_162 hts rfl rfl ⟨Nat.le_of_ble_eq_true rfl, Nat.le_of_ble_eq_true rfl⟩) hP hK [0, 22, 23] rfl rfl rfl rfl hl.1 rfl (Nat.le_of_ble_eq_true rfl) dL_law_1264 ⟨Nat.le_of_ble_eq_true rfl, Nat.le_of_ble_eq_true rfl⟩) hP hS (fun r_1 H locs hp_2 hP hS => ?_)
  refine as_i (-1) hp_2 ?_
  refine lv_aload_n hx hb dL_law_1267 rfl (lv_at hl 2 rfl) ?_
  refine lv_aload_n hx hb dL_law_1268 rfl (lv_at hl 4 rfl) ?_
  refine lv_iload hx hb dL_law_1269 (lv_at hl 0 rfl) ?_
  refine lv_iconst (v := 1) hx hb dL_law_1271 (by decide) ?_
  refine lv_iadd hx hb dL_law_1272 ?_
  refine as_i 1 (by decide) ?_
  refine va_sld hx hb hXs hbl hbA hS (show vp_in 1 6 from vp_in_nI (n := 1) (by decide) (by decide)) dL_law_1273 ?_
  refine as_i (xs 1) rfl ?_
  refine lv_aload_n hx hb dL_law_1274 rfl (lv_at hl 4 rfl) ?_
  refine lv_iload hx hb dL_law_1275 (lv_at hl 0 rfl) ?_
  refine lv_iconst (v := 2) hx hb dL_law_1277 (by decide) ?_
  refine lv_iadd hx hb dL_law_1278 ?_
  refine as_i 2 (by decide) ?_
  refine va_sld hx hb hXs hbl hbA hS (show vp_in 2 6 from vp_in_nI (n := 2) (by decide) (by decide)) dL_law_1279 ?_
  refine as_i (xs 2) rfl ?_
  refine lv_aload_n hx hb dL_law_1280 rfl (lv_at hl 4 rfl) ?_
  refine lv_iload hx hb dL_law_1281 (lv_at hl 0 rfl) ?_
  refine lv_iconst (v := 3) hx hb dL_law_1283 (by decide) ?_
  refine lv_iadd hx hb dL_law_1284 ?_
  refine as_i 3 (by decide) ?_
  refine va_sld hx hb hXs hbl hbA hS (show vp_in 3 6 from vp_in_nI (n := 3) (by decide) (by decide)) dL_law_1285 ?_
  refine as_i (xs 3) rfl ?_
  refine jn_i (wr := []) (rV (As := [.int (xs 1), .int (xs 2), .int (xs 3)]) (rest := [.int (-1)]) (ci := 12) ⟨hx, hb, hml, hown, hts⟩ (m_odds l dC dI cy _ am mi (xs 1) (xs 2) (xs 3) hM.1) (cw_L_165 hts rfl rfl ⟨Nat.le_of_ble_eq_true rfl, Nat.le_of_ble_eq_true rfl⟩) hP hD hK [114, 116] rfl rfl rfl rfl bl0 e0 rfl hl.1 rfl (Nat.le_of_ble_eq_true rfl) dL_law_1286 ⟨Nat.le_of_ble_eq_true rfl, Nat.le_of_ble_eq_true rfl⟩) hP hD hS hA [114, 116] [] rfl rfl rfl (by decide) (fun r_3 u_5 H locs hp_4 hP hD hS => ?_)
  have hp_4 : r_3 = (-1) := hp_4
  have hP : va_P (dC, dI) vwCl [] H := hP
  have hD : va_D (FA s) [] := hD
  refine as_i (-1) hp_4 ?_
  refine lv_icmp_eq (tgt := 1457) hx hb dL_law_1289 (by decide) (fun _ => ?_) (fun c9 => absurd (by decide) c9)
  exact law_end C0 hS (lv_sub hl [0, 4] rfl) (by decide) (by decide)
theorem dL_law_1294 : decode cL_law 1294 = .ok (.aload_n 1, 1) := by decide +kernel
theorem dL_law_1295 : decode cL_law 1295 = .ok (.aload_n 0, 1) := by decide +kernel
theorem dL_law_1296 : decode cL_law 1296 = .ok (.iload 4, 2) := by decide +kernel
theorem dL_law_1298 : decode cL_law 1298 = .ok (.iconst 1, 1) := by decide +kernel
theorem dL_law_1299 : decode cL_law 1299 = .ok (.iadd, 1) := by decide +kernel
theorem dL_law_1300 : decode cL_law 1300 = .ok (.iaload, 1) := by decide +kernel
theorem dL_law_1301 : decode cL_law 1301 = .ok (.invokevirtual 166, 3) := by decide +kernel
theorem t1195 : Cond.methodLink RL 166 yX10_book ∈ GW := gw_mem 1309 (by decide +kernel) (by decide +kernel)
theorem t1196 : Cond.instanceMethod yX10_book ∈ GW := gw_mem 1310 (by decide +kernel) (by decide +kernel)
theorem t1197 : Cond.selects RX10 yX10_book yX10_book ∈ GW := gw_mem 1311 (by decide +kernel) (by decide +kernel)
theorem cw_L_166 {R : Room} {s : State} {args : Array Value} {rm : Room} {mc ms : Nat} (hts : ∀ w ∈ GW, w.before args s = true) (hrc : rm.cells = mc) (hrs : rm.slots = ms) (hR : rm.frames + 1 ≤ R.frames ∧ 8 + (4 + 11) + rm.locals ≤ R.locals) : CallW R s args RL RX10 166 yX10_book cX10_book 4 (some .int) (wl yX10_book cX10_book 4 (some .int)) rm mc ms 1 := cwV 1 hts (gi_V t1195 t1196 t1197 t1 t1198) rfl hrc hrs (by decide +kernel) hR
theorem dL_law_1304 : decode cL_law 1304 = .ok (.aload_n 2, 1) := by decide +kernel
theorem dL_law_1305 : decode cL_law 1305 = .ok (.aload_n 0, 1) := by decide +kernel
theorem dL_law_1306 : decode cL_law 1306 = .ok (.iload 4, 2) := by decide +kernel
theorem dL_law_1308 : decode cL_law 1308 = .ok (.iconst 1, 1) := by decide +kernel
theorem dL_law_1309 : decode cL_law 1309 = .ok (.iadd, 1) := by decide +kernel
theorem dL_law_1310 : decode cL_law 1310 = .ok (.iaload, 1) := by decide +kernel
theorem dL_law_1311 : decode cL_law 1311 = .ok (.invokevirtual 169, 3) := by decide +kernel
theorem t1979 : Cond.methodLink RL 169 yX11_book ∈ GW := gw_mem 2093 (by decide +kernel) (by decide +kernel)
theorem t1980 : Cond.instanceMethod yX11_book ∈ GW := gw_mem 2094 (by decide +kernel) (by decide +kernel)
theorem t1981 : Cond.selects RX11 yX11_book yX11_book ∈ GW := gw_mem 2095 (by decide +kernel) (by decide +kernel)
theorem cw_L_169 {R : Room} {s : State} {args : Array Value} {rm : Room} {mc ms : Nat} (hts : ∀ w ∈ GW, w.before args s = true) (hrc : rm.cells = mc) (hrs : rm.slots = ms) (hR : rm.frames + 1 ≤ R.frames ∧ 8 + (4 + 11) + rm.locals ≤ R.locals) : CallW R s args RL RX11 169 yX11_book cX11_book 4 (some .int) (wl yX11_book cX11_book 4 (some .int)) rm mc ms 1 := cwV 1 hts (gi_V t1979 t1980 t1981 t18 t1982) rfl hrc hrs (by decide +kernel) hR
theorem dL_law_1314 : decode cL_law 1314 = .ok (.if_icmp .eq 143, 3) := by decide +kernel
set_option maxHeartbeats 4000000 in
set_option maxRecDepth 100000 in
theorem lc_34 {p : Program} {l : Launch} {e : Env} {s : State} {m : MethodId} {below : List Frame} {meth : Method} {c : Code} {b : Nat} {xs : Nat → Int32} (hl0 : l.stackTraces = false) (C0 : lw_At p s m meth c b 6 xs) (dC : Nat → ClassId) (dI : Nat → Nat → Nat) (cy : Nat → ClassId) (ad : Nat → Nat) (ai : Nat → Nat → Int32) (al : Nat → Nat → Int64) (aq : Nat → Nat → Option Nat) (am : Nat → Nat) (mi : Nat → Nat → Int32) (ml : Nat → Nat → Int64) (qo : Nat) (hX : OkX ad ai aq) (hM : OkM mi) (hEX : EnvX (FA s) s) (hK : va_K (dC, dI) vwCl (TY cy) s) {H : Heap} {locs : List Loc} (hP : va_P (dC, dI) vwCl (FX cy ad ai al aq ++ FM cy am mi ml) H) (hD : va_D (FA s) (FX cy ad ai al aq ++ FM cy am mi ml)) (hS : va_S (FA s) s.heap H locs) {ls : Array Slot} (hl : lv_has ls 7 [(4, .int 0), (3, .ref qo), (2, .ref (am 0)), (1, .ref (ad 0)), (0, .ref b)]) : W p l e room_1 s m #[Value.ref b] below meth c H locs 237 23836 (lw_Z below #[Value.ref b] s) (F0 m 1294 ls []) := by
  obtain ⟨hx, hb, hr, hml, hown, htsL, hXs, hbl, hlocks, hgv⟩ := id C0
  have hown : s.vm.findClass RL = some m.cls := hown
  have hts : ∀ w ∈ GW, w.before #[Value.ref b] s = true := fun w hw => htsL w (List.mem_filter.mp hw).1
  have hA : ∀ q : Nat, s.heap.size ≤ q → FA s q := fun _ h => h
  have hbA : ¬ FA s b := Nat.not_le.mpr hbl
  refine lv_aload_n hx hb dL_law_1294 rfl (lv_at hl 3 rfl) ?_
  refine lv_aload_n hx hb dL_law_1295 rfl (lv_at hl 4 rfl) ?_
  refine lv_iload hx hb dL_law_1296 (lv_at hl 0 rfl) ?_
  refine lv_iconst (v := 1) hx hb dL_law_1298 (by decide) ?_
  refine lv_iadd hx hb dL_law_1299 ?_
  refine as_i 1 (by decide) ?_
  refine va_sld hx hb hXs hbl hbA hS (show vp_in 1 6 from vp_in_nI (n := 1) (by decide) (by decide)) dL_law_1300 ?_
  refine as_i (xs 1) rfl ?_
  refine jn_i (wr := [(am 0, .inr (12, [.int 0, .ref (am 1), .int 0, .int 0, .int 0, .int 0, .int 0, .int 0, .int 0, .int 0, .int 0, .int 0, .long 0, .int 0, .ref (am 2), .ref (am 3), .ref (am 4), .ref (am 5), .ref (am 6), .ref (am 7), .ref (am 8), .ref (am 9), .ref (am 10), .ref (am 11), .int 0, .int (-1), .ref (am 12), .ref (am 13), .ref (am 14), .int 0, .ref (am 15), .ref (am 16), .int 0, .int 0, .int 0, .ref (am 17), .int 0, .int 0, .ref (am 18), .ref (am 19), .int 0, .int 0, .ref (am 20), .int 0, .int 0, .int 0, .int 0])), (am 1, .inl (cy 0, 940, .inl (mi 1))), (am 2, .inl (cy 0, 575, .inl (mi 2))), (am 3, .inl (cy 0, 157, .inl (mi 3))), (am 4, .inl (cy 0, 1150, .inl (mi 4))), (am 5, .inl (cy 0, 1408, .inl (mi 5))), (am 6, .inl (cy 0, 176, .inl (mi 6))), (am 7, .inl (cy 1, 17, .inr (.inl (ml 7)))), (am 8, .inl (cy 1, 17, .inr (.inl (ml 8)))), (am 9, .inl (cy 1, 34, .inr (.inl (ml 9)))), (am 10, .inl (cy 2, 2, .inl (mi 10))), (am 11, .inl (cy 2, 2, .inl (mi 11))), (am 12, .inl (cy 1, 5632, .inr (.inl (ml 12)))), (am 13, .inl (cy 0, 5632, .inl (mi 13))), (am 14, .inl (cy 0, 10, .inl (mi 14))), (am 15, .inl (cy 0, 10, .inl (mi 15))), (am 16, .inl (cy 0, 10, .inl (mi 16))), (am 17, .inl (cy 0, 64, .inl (mi 17))), (am 18, .inl (cy 0, 160, .inl (mi 18))), (am 19, .inl (cy 0, 4, .inl (mi 19))), (am 20, .inl (cy 0, 240, .inl (mi 20)))]) (rV (As := [.int (xs 1)]) (rest := []) (ci := 11) ⟨hx, hb, hml, hown, hts⟩ (k_book l dC dI cy _ ad ai al aq (xs 1) hX.2.2.1) (cw_L_166 hts rfl rfl ⟨Nat.le_of_ble_eq_true rfl, Nat.le_of_ble_eq_true rfl⟩) hP hD hK [0, 1, 5, 6, 7, 8, 9, 10, 11, 12, 13, 14, 15, 16, 17, 18, 22, 23, 24, 25, 26, 27, 28, 29, 30, 31, 32, 33, 34, 35, 36, 37, 38, 39, 45, 46, 47, 48, 49, 50, 51, 52, 53, 54, 55, 56, 57, 58, 59, 60, 61, 62] rfl rfl rfl rfl bl0 e0 rfl hl.1 rfl (Nat.le_of_ble_eq_true rfl) dL_law_1301 ⟨Nat.le_of_ble_eq_true rfl, Nat.le_of_ble_eq_true rfl⟩) hP hD hS hA [0, 1, 5, 6, 7, 8, 9, 10, 11, 12, 13, 14, 15, 16, 17, 18, 22, 23, 24, 25, 26, 27, 28, 29, 30, 31, 32, 33, 34, 35, 36, 37, 38, 39, 45, 46, 47, 48, 49, 50, 51, 52, 53, 54, 55, 56, 57, 58, 59, 60, 61, 62] [114, 115, 116, 117, 118, 119, 120, 121, 122, 123, 124, 125, 126, 127, 128, 129, 130, 131, 132, 133, 134] rfl rfl rfl (by decide) (fun r_1 u_3 H locs hp_2 hP hD hS => ?_)
  have hp_2 : r_1 = bkF (xs 1) := hp_2
  have hP : va_P (dC, dI) vwCl [(am 0, .inr (12, [.int 0, .ref (am 1), .int 0, .int 0, .int 0, .int 0, .int 0, .int 0, .int 0, .int 0, .int 0, .int 0, .long 0, .int 0, .ref (am 2), .ref (am 3), .ref (am 4), .ref (am 5), .ref (am 6), .ref (am 7), .ref (am 8), .ref (am 9), .ref (am 10), .ref (am 11), .int 0, .int (-1), .ref (am 12), .ref (am 13), .ref (am 14), .int 0, .ref (am 15), .ref (am 16), .int 0, .int 0, .int 0, .ref (am 17), .int 0, .int 0, .ref (am 18), .ref (am 19), .int 0, .int 0, .ref (am 20), .int 0, .int 0, .int 0, .int 0])), (am 1, .inl (cy 0, 940, .inl (mi 1))), (am 2, .inl (cy 0, 575, .inl (mi 2))), (am 3, .inl (cy 0, 157, .inl (mi 3))), (am 4, .inl (cy 0, 1150, .inl (mi 4))), (am 5, .inl (cy 0, 1408, .inl (mi 5))), (am 6, .inl (cy 0, 176, .inl (mi 6))), (am 7, .inl (cy 1, 17, .inr (.inl (ml 7)))), (am 8, .inl (cy 1, 17, .inr (.inl (ml 8)))), (am 9, .inl (cy 1, 34, .inr (.inl (ml 9)))), (am 10, .inl (cy 2, 2, .inl (mi 10))), (am 11, .inl (cy 2, 2, .inl (mi 11))), (am 12, .inl (cy 1, 5632, .inr (.inl (ml 12)))), (am 13, .inl (cy 0, 5632, .inl (mi 13))), (am 14, .inl (cy 0, 10, .inl (mi 14))), (am 15, .inl (cy 0, 10, .inl (mi 15))), (am 16, .inl (cy 0, 10, .inl (mi 16))), (am 17, .inl (cy 0, 64, .inl (mi 17))), (am 18, .inl (cy 0, 160, .inl (mi 18))), (am 19, .inl (cy 0, 4, .inl (mi 19))), (am 20, .inl (cy 0, 240, .inl (mi 20)))] H := hP
  have hD : va_D (FA s) [(am 0, .inr (12, [.int 0, .ref (am 1), .int 0, .int 0, .int 0, .int 0, .int 0, .int 0, .int 0, .int 0, .int 0, .int 0, .long 0, .int 0, .ref (am 2), .ref (am 3), .ref (am 4), .ref (am 5), .ref (am 6), .ref (am 7), .ref (am 8), .ref (am 9), .ref (am 10), .ref (am 11), .int 0, .int (-1), .ref (am 12), .ref (am 13), .ref (am 14), .int 0, .ref (am 15), .ref (am 16), .int 0, .int 0, .int 0, .ref (am 17), .int 0, .int 0, .ref (am 18), .ref (am 19), .int 0, .int 0, .ref (am 20), .int 0, .int 0, .int 0, .int 0])), (am 1, .inl (cy 0, 940, .inl (mi 1))), (am 2, .inl (cy 0, 575, .inl (mi 2))), (am 3, .inl (cy 0, 157, .inl (mi 3))), (am 4, .inl (cy 0, 1150, .inl (mi 4))), (am 5, .inl (cy 0, 1408, .inl (mi 5))), (am 6, .inl (cy 0, 176, .inl (mi 6))), (am 7, .inl (cy 1, 17, .inr (.inl (ml 7)))), (am 8, .inl (cy 1, 17, .inr (.inl (ml 8)))), (am 9, .inl (cy 1, 34, .inr (.inl (ml 9)))), (am 10, .inl (cy 2, 2, .inl (mi 10))), (am 11, .inl (cy 2, 2, .inl (mi 11))), (am 12, .inl (cy 1, 5632, .inr (.inl (ml 12)))), (am 13, .inl (cy 0, 5632, .inl (mi 13))), (am 14, .inl (cy 0, 10, .inl (mi 14))), (am 15, .inl (cy 0, 10, .inl (mi 15))), (am 16, .inl (cy 0, 10, .inl (mi 16))), (am 17, .inl (cy 0, 64, .inl (mi 17))), (am 18, .inl (cy 0, 160, .inl (mi 18))), (am 19, .inl (cy 0, 4, .inl (mi 19))), (am 20, .inl (cy 0, 240, .inl (mi 20)))] := hD
  refine as_i (bkF (xs 1)) hp_2 ?_
  refine lv_aload_n hx hb dL_law_1304 rfl (lv_at hl 2 rfl) ?_
  refine lv_aload_n hx hb dL_law_1305 rfl (lv_at hl 4 rfl) ?_
  refine lv_iload hx hb dL_law_1306 (lv_at hl 0 rfl) ?_
  refine lv_iconst (v := 1) hx hb dL_law_1308 (by decide) ?_
  refine lv_iadd hx hb dL_law_1309 ?_
  refine as_i 1 (by decide) ?_
  refine va_sld hx hb hXs hbl hbA hS (show vp_in 1 6 from vp_in_nI (n := 1) (by decide) (by decide)) dL_law_1310 ?_
  refine as_i (xs 1) rfl ?_
  refine jn_i (wr := []) (rV (As := [.int (xs 1)]) (rest := [.int (bkF (xs 1))]) (ci := 12) ⟨hx, hb, hml, hown, hts⟩ (m_book l dC dI cy _ am mi (xs 1) hM.1) (cw_L_169 hts rfl rfl ⟨Nat.le_of_ble_eq_true rfl, Nat.le_of_ble_eq_true rfl⟩) hP hD hK [0, 2, 6, 19] rfl rfl rfl rfl bl0 e0 rfl hl.1 rfl (Nat.le_of_ble_eq_true rfl) dL_law_1311 ⟨Nat.le_of_ble_eq_true rfl, Nat.le_of_ble_eq_true rfl⟩) hP hD hS hA [0, 2, 6, 19] [] rfl rfl rfl (by decide) (fun r_4 u_6 H locs hp_5 hP hD hS => ?_)
  have hp_5 : r_4 = bkF (xs 1) := hp_5
  have hP : va_P (dC, dI) vwCl [] H := hP
  have hD : va_D (FA s) [] := hD
  refine as_i (bkF (xs 1)) hp_5 ?_
  refine lv_icmp_eq (tgt := 1457) hx hb dL_law_1314 (by decide) (fun _ => ?_) (fun c9 => absurd rfl c9)
  exact law_end C0 hS (lv_sub hl [0, 4] rfl) (by decide) (by decide)
theorem dL_law_1319 : decode cL_law 1319 = .ok (.aload_n 1, 1) := by decide +kernel
theorem dL_law_1320 : decode cL_law 1320 = .ok (.aload_n 0, 1) := by decide +kernel
theorem dL_law_1321 : decode cL_law 1321 = .ok (.iload 4, 2) := by decide +kernel
theorem dL_law_1323 : decode cL_law 1323 = .ok (.iconst 1, 1) := by decide +kernel
theorem dL_law_1324 : decode cL_law 1324 = .ok (.iadd, 1) := by decide +kernel
theorem dL_law_1325 : decode cL_law 1325 = .ok (.iaload, 1) := by decide +kernel
theorem dL_law_1326 : decode cL_law 1326 = .ok (.invokevirtual 170, 3) := by decide +kernel
theorem t1252 : Cond.methodLink RL 170 yX10_told ∈ GW := gw_mem 1366 (by decide +kernel) (by decide +kernel)
theorem t1253 : Cond.instanceMethod yX10_told ∈ GW := gw_mem 1367 (by decide +kernel) (by decide +kernel)
theorem t1254 : Cond.selects RX10 yX10_told yX10_told ∈ GW := gw_mem 1368 (by decide +kernel) (by decide +kernel)
theorem cw_L_170 {R : Room} {s : State} {args : Array Value} {rm : Room} {mc ms : Nat} (hts : ∀ w ∈ GW, w.before args s = true) (hrc : rm.cells = mc) (hrs : rm.slots = ms) (hR : rm.frames + 1 ≤ R.frames ∧ 8 + (2 + 11) + rm.locals ≤ R.locals) : CallW R s args RL RX10 170 yX10_told cX10_told 2 (some .int) (wl yX10_told cX10_told 2 (some .int)) rm mc ms 1 := cwV 1 hts (gi_V t1252 t1253 t1254 t1 t1255) rfl hrc hrs (by decide +kernel) hR
theorem dL_law_1329 : decode cL_law 1329 = .ok (.aload_n 2, 1) := by decide +kernel
theorem dL_law_1330 : decode cL_law 1330 = .ok (.aload_n 0, 1) := by decide +kernel
theorem dL_law_1331 : decode cL_law 1331 = .ok (.iload 4, 2) := by decide +kernel
theorem dL_law_1333 : decode cL_law 1333 = .ok (.iconst 1, 1) := by decide +kernel
theorem dL_law_1334 : decode cL_law 1334 = .ok (.iadd, 1) := by decide +kernel
theorem dL_law_1335 : decode cL_law 1335 = .ok (.iaload, 1) := by decide +kernel
theorem dL_law_1336 : decode cL_law 1336 = .ok (.invokevirtual 173, 3) := by decide +kernel
theorem t2015 : Cond.methodLink RL 173 yX11_told ∈ GW := gw_mem 2129 (by decide +kernel) (by decide +kernel)
theorem t2016 : Cond.instanceMethod yX11_told ∈ GW := gw_mem 2130 (by decide +kernel) (by decide +kernel)
theorem t2017 : Cond.selects RX11 yX11_told yX11_told ∈ GW := gw_mem 2131 (by decide +kernel) (by decide +kernel)
theorem cw_L_173 {R : Room} {s : State} {args : Array Value} {rm : Room} {mc ms : Nat} (hts : ∀ w ∈ GW, w.before args s = true) (hrc : rm.cells = mc) (hrs : rm.slots = ms) (hR : rm.frames + 1 ≤ R.frames ∧ 8 + (2 + 11) + rm.locals ≤ R.locals) : CallW R s args RL RX11 173 yX11_told cX11_told 2 (some .int) (wl yX11_told cX11_told 2 (some .int)) rm mc ms 1 := cwV 1 hts (gi_V t2015 t2016 t2017 t18 t2018) rfl hrc hrs (by decide +kernel) hR
theorem dL_law_1339 : decode cL_law 1339 = .ok (.if_icmp .eq 118, 3) := by decide +kernel
set_option maxHeartbeats 4000000 in
set_option maxRecDepth 100000 in
theorem lc_35 {p : Program} {l : Launch} {e : Env} {s : State} {m : MethodId} {below : List Frame} {meth : Method} {c : Code} {b : Nat} {xs : Nat → Int32} (hl0 : l.stackTraces = false) (C0 : lw_At p s m meth c b 6 xs) (dC : Nat → ClassId) (dI : Nat → Nat → Nat) (cy : Nat → ClassId) (ad : Nat → Nat) (ai : Nat → Nat → Int32) (al : Nat → Nat → Int64) (aq : Nat → Nat → Option Nat) (am : Nat → Nat) (mi : Nat → Nat → Int32) (ml : Nat → Nat → Int64) (qo : Nat) (hX : OkX ad ai aq) (hM : OkM mi) (hEX : EnvX (FA s) s) (hK : va_K (dC, dI) vwCl (TY cy) s) {H : Heap} {locs : List Loc} (hP : va_P (dC, dI) vwCl (FX cy ad ai al aq ++ FM cy am mi ml) H) (hD : va_D (FA s) (FX cy ad ai al aq ++ FM cy am mi ml)) (hS : va_S (FA s) s.heap H locs) {ls : Array Slot} (hl : lv_has ls 7 [(4, .int 0), (3, .ref qo), (2, .ref (am 0)), (1, .ref (ad 0)), (0, .ref b)]) : W p l e room_1 s m #[Value.ref b] below meth c H locs 237 23836 (lw_Z below #[Value.ref b] s) (F0 m 1319 ls []) := by
  obtain ⟨hx, hb, hr, hml, hown, htsL, hXs, hbl, hlocks, hgv⟩ := id C0
  have hown : s.vm.findClass RL = some m.cls := hown
  have hts : ∀ w ∈ GW, w.before #[Value.ref b] s = true := fun w hw => htsL w (List.mem_filter.mp hw).1
  have hA : ∀ q : Nat, s.heap.size ≤ q → FA s q := fun _ h => h
  have hbA : ¬ FA s b := Nat.not_le.mpr hbl
  refine lv_aload_n hx hb dL_law_1319 rfl (lv_at hl 3 rfl) ?_
  refine lv_aload_n hx hb dL_law_1320 rfl (lv_at hl 4 rfl) ?_
  refine lv_iload hx hb dL_law_1321 (lv_at hl 0 rfl) ?_
  refine lv_iconst (v := 1) hx hb dL_law_1323 (by decide) ?_
  refine lv_iadd hx hb dL_law_1324 ?_
  refine as_i 1 (by decide) ?_
  refine va_sld hx hb hXs hbl hbA hS (show vp_in 1 6 from vp_in_nI (n := 1) (by decide) (by decide)) dL_law_1325 ?_
  refine as_i (xs 1) rfl ?_
  refine jr_i (rVr (As := [.int (xs 1)]) (rest := []) (ci := 11) ⟨hx, hb, hml, hown, hts⟩ (k_told l dC dI cy ad (xs 1) ) (cw_L_170 hts rfl rfl ⟨Nat.le_of_ble_eq_true rfl, Nat.le_of_ble_eq_true rfl⟩) hP hK [0, 5] rfl rfl rfl rfl hl.1 rfl (Nat.le_of_ble_eq_true rfl) dL_law_1326 ⟨Nat.le_of_ble_eq_true rfl, Nat.le_of_ble_eq_true rfl⟩) hP hS (fun r_1 H locs hp_2 hP hS => ?_)
  refine as_i (-1) hp_2 ?_
  refine lv_aload_n hx hb dL_law_1329 rfl (lv_at hl 2 rfl) ?_
  refine lv_aload_n hx hb dL_law_1330 rfl (lv_at hl 4 rfl) ?_
  refine lv_iload hx hb dL_law_1331 (lv_at hl 0 rfl) ?_
  refine lv_iconst (v := 1) hx hb dL_law_1333 (by decide) ?_
  refine lv_iadd hx hb dL_law_1334 ?_
  refine as_i 1 (by decide) ?_
  refine va_sld hx hb hXs hbl hbA hS (show vp_in 1 6 from vp_in_nI (n := 1) (by decide) (by decide)) dL_law_1335 ?_
  refine as_i (xs 1) rfl ?_
  refine jn_i (wr := []) (rV (As := [.int (xs 1)]) (rest := [.int (-1)]) (ci := 12) ⟨hx, hb, hml, hown, hts⟩ (m_told l dC dI cy _ am (xs 1) ) (cw_L_173 hts rfl rfl ⟨Nat.le_of_ble_eq_true rfl, Nat.le_of_ble_eq_true rfl⟩) hP hD hK [114] rfl rfl rfl rfl bl0 e0 rfl hl.1 rfl (Nat.le_of_ble_eq_true rfl) dL_law_1336 ⟨Nat.le_of_ble_eq_true rfl, Nat.le_of_ble_eq_true rfl⟩) hP hD hS hA [114] [] rfl rfl rfl (by decide) (fun r_3 u_5 H locs hp_4 hP hD hS => ?_)
  have hp_4 : r_3 = (-1) := hp_4
  have hP : va_P (dC, dI) vwCl [] H := hP
  have hD : va_D (FA s) [] := hD
  refine as_i (-1) hp_4 ?_
  refine lv_icmp_eq (tgt := 1457) hx hb dL_law_1339 (by decide) (fun _ => ?_) (fun c9 => absurd (by decide) c9)
  exact law_end C0 hS (lv_sub hl [0, 4] rfl) (by decide) (by decide)
theorem dL_law_1344 : decode cL_law 1344 = .ok (.aload_n 1, 1) := by decide +kernel
theorem dL_law_1345 : decode cL_law 1345 = .ok (.invokevirtual 174, 3) := by decide +kernel
theorem t1256 : Cond.methodLink RL 174 yX10_sentence ∈ GW := gw_mem 1370 (by decide +kernel) (by decide +kernel)
theorem t1257 : Cond.instanceMethod yX10_sentence ∈ GW := gw_mem 1371 (by decide +kernel) (by decide +kernel)
theorem t1258 : Cond.selects RX10 yX10_sentence yX10_sentence ∈ GW := gw_mem 1372 (by decide +kernel) (by decide +kernel)
theorem cw_L_174 {R : Room} {s : State} {args : Array Value} {rm : Room} {mc ms : Nat} (hts : ∀ w ∈ GW, w.before args s = true) (hrc : rm.cells = mc) (hrs : rm.slots = ms) (hR : rm.frames + 1 ≤ R.frames ∧ 8 + (2 + 11) + rm.locals ≤ R.locals) : CallW R s args RL RX10 174 yX10_sentence cX10_sentence 2 (some .int) (wl yX10_sentence cX10_sentence 2 (some .int)) rm mc ms 0 := cwV 0 hts (gi_V t1256 t1257 t1258 t1 t1259) rfl hrc hrs (by decide +kernel) hR
theorem dL_law_1348 : decode cL_law 1348 = .ok (.aload_n 2, 1) := by decide +kernel
theorem dL_law_1349 : decode cL_law 1349 = .ok (.invokevirtual 177, 3) := by decide +kernel
theorem t2019 : Cond.methodLink RL 177 yX11_sentence ∈ GW := gw_mem 2133 (by decide +kernel) (by decide +kernel)
theorem t2020 : Cond.instanceMethod yX11_sentence ∈ GW := gw_mem 2134 (by decide +kernel) (by decide +kernel)
theorem t2021 : Cond.selects RX11 yX11_sentence yX11_sentence ∈ GW := gw_mem 2135 (by decide +kernel) (by decide +kernel)
theorem cw_L_177 {R : Room} {s : State} {args : Array Value} {rm : Room} {mc ms : Nat} (hts : ∀ w ∈ GW, w.before args s = true) (hrc : rm.cells = mc) (hrs : rm.slots = ms) (hR : rm.frames + 1 ≤ R.frames ∧ 8 + (2 + 11) + rm.locals ≤ R.locals) : CallW R s args RL RX11 177 yX11_sentence cX11_sentence 2 (some .int) (wl yX11_sentence cX11_sentence 2 (some .int)) rm mc ms 0 := cwV 0 hts (gi_V t2019 t2020 t2021 t18 t2022) rfl hrc hrs (by decide +kernel) hR
theorem dL_law_1352 : decode cL_law 1352 = .ok (.if_icmp .eq 105, 3) := by decide +kernel
set_option maxHeartbeats 4000000 in
set_option maxRecDepth 100000 in
theorem lc_36 {p : Program} {l : Launch} {e : Env} {s : State} {m : MethodId} {below : List Frame} {meth : Method} {c : Code} {b : Nat} {xs : Nat → Int32} (hl0 : l.stackTraces = false) (C0 : lw_At p s m meth c b 6 xs) (dC : Nat → ClassId) (dI : Nat → Nat → Nat) (cy : Nat → ClassId) (ad : Nat → Nat) (ai : Nat → Nat → Int32) (al : Nat → Nat → Int64) (aq : Nat → Nat → Option Nat) (am : Nat → Nat) (mi : Nat → Nat → Int32) (ml : Nat → Nat → Int64) (qo : Nat) (hX : OkX ad ai aq) (hM : OkM mi) (hEX : EnvX (FA s) s) (hK : va_K (dC, dI) vwCl (TY cy) s) {H : Heap} {locs : List Loc} (hP : va_P (dC, dI) vwCl (FX cy ad ai al aq ++ FM cy am mi ml) H) (hD : va_D (FA s) (FX cy ad ai al aq ++ FM cy am mi ml)) (hS : va_S (FA s) s.heap H locs) {ls : Array Slot} (hl : lv_has ls 7 [(4, .int 0), (3, .ref qo), (2, .ref (am 0)), (1, .ref (ad 0)), (0, .ref b)]) : W p l e room_1 s m #[Value.ref b] below meth c H locs 237 23836 (lw_Z below #[Value.ref b] s) (F0 m 1344 ls []) := by
  obtain ⟨hx, hb, hr, hml, hown, htsL, hXs, hbl, hlocks, hgv⟩ := id C0
  have hown : s.vm.findClass RL = some m.cls := hown
  have hts : ∀ w ∈ GW, w.before #[Value.ref b] s = true := fun w hw => htsL w (List.mem_filter.mp hw).1
  have hA : ∀ q : Nat, s.heap.size ≤ q → FA s q := fun _ h => h
  have hbA : ¬ FA s b := Nat.not_le.mpr hbl
  refine lv_aload_n hx hb dL_law_1344 rfl (lv_at hl 3 rfl) ?_
  refine jn_i (wr := [(am 0, .inr (12, [.int 0, .ref (am 1), .int 0, .int 0, .int 0, .int 0, .int 0, .int 0, .int 0, .int 0, .int 0, .int 0, .long 0, .int 0, .ref (am 2), .ref (am 3), .ref (am 4), .ref (am 5), .ref (am 6), .ref (am 7), .ref (am 8), .ref (am 9), .ref (am 10), .ref (am 11), .int 0, .int (-1), .ref (am 12), .ref (am 13), .ref (am 14), .int 0, .ref (am 15), .ref (am 16), .int 0, .int 0, .int 0, .ref (am 17), .int 0, .int 0, .ref (am 18), .ref (am 19), .int 0, .int 0, .ref (am 20), .int 0, .int 0, .int 0, .int 0])), (am 1, .inl (cy 0, 940, .inl (mi 1))), (am 2, .inl (cy 0, 575, .inl (mi 2))), (am 3, .inl (cy 0, 157, .inl (mi 3))), (am 4, .inl (cy 0, 1150, .inl (mi 4))), (am 5, .inl (cy 0, 1408, .inl (mi 5))), (am 6, .inl (cy 0, 176, .inl (mi 6))), (am 7, .inl (cy 1, 17, .inr (.inl (ml 7)))), (am 8, .inl (cy 1, 17, .inr (.inl (ml 8)))), (am 9, .inl (cy 1, 34, .inr (.inl (ml 9)))), (am 10, .inl (cy 2, 2, .inl (mi 10))), (am 11, .inl (cy 2, 2, .inl (mi 11))), (am 12, .inl (cy 1, 5632, .inr (.inl (ml 12)))), (am 13, .inl (cy 0, 5632, .inl (mi 13))), (am 14, .inl (cy 0, 10, .inl (mi 14))), (am 15, .inl (cy 0, 10, .inl (mi 15))), (am 16, .inl (cy 0, 10, .inl (mi 16))), (am 17, .inl (cy 0, 64, .inl (mi 17))), (am 18, .inl (cy 0, 160, .inl (mi 18))), (am 19, .inl (cy 0, 4, .inl (mi 19))), (am 20, .inl (cy 0, 240, .inl (mi 20)))]) (rV (As := []) (rest := []) (ci := 11) ⟨hx, hb, hml, hown, hts⟩ (k_sentence l dC dI cy _ ad ) (cw_L_174 hts rfl rfl ⟨Nat.le_of_ble_eq_true rfl, Nat.le_of_ble_eq_true rfl⟩) hP hD hK [0, 1, 22, 45, 63] rfl rfl rfl rfl bl0 e0 rfl hl.1 rfl (Nat.le_of_ble_eq_true rfl) dL_law_1345 ⟨Nat.le_of_ble_eq_true rfl, Nat.le_of_ble_eq_true rfl⟩) hP hD hS hA [0, 1, 22, 45, 63] [114, 115, 116, 117, 118, 119, 120, 121, 122, 123, 124, 125, 126, 127, 128, 129, 130, 131, 132, 133, 134] rfl rfl rfl (by decide) (fun r_1 u_3 H locs hp_2 hP hD hS => ?_)
  have hp_2 : r_1 = (-1) := hp_2
  have hP : va_P (dC, dI) vwCl [(am 0, .inr (12, [.int 0, .ref (am 1), .int 0, .int 0, .int 0, .int 0, .int 0, .int 0, .int 0, .int 0, .int 0, .int 0, .long 0, .int 0, .ref (am 2), .ref (am 3), .ref (am 4), .ref (am 5), .ref (am 6), .ref (am 7), .ref (am 8), .ref (am 9), .ref (am 10), .ref (am 11), .int 0, .int (-1), .ref (am 12), .ref (am 13), .ref (am 14), .int 0, .ref (am 15), .ref (am 16), .int 0, .int 0, .int 0, .ref (am 17), .int 0, .int 0, .ref (am 18), .ref (am 19), .int 0, .int 0, .ref (am 20), .int 0, .int 0, .int 0, .int 0])), (am 1, .inl (cy 0, 940, .inl (mi 1))), (am 2, .inl (cy 0, 575, .inl (mi 2))), (am 3, .inl (cy 0, 157, .inl (mi 3))), (am 4, .inl (cy 0, 1150, .inl (mi 4))), (am 5, .inl (cy 0, 1408, .inl (mi 5))), (am 6, .inl (cy 0, 176, .inl (mi 6))), (am 7, .inl (cy 1, 17, .inr (.inl (ml 7)))), (am 8, .inl (cy 1, 17, .inr (.inl (ml 8)))), (am 9, .inl (cy 1, 34, .inr (.inl (ml 9)))), (am 10, .inl (cy 2, 2, .inl (mi 10))), (am 11, .inl (cy 2, 2, .inl (mi 11))), (am 12, .inl (cy 1, 5632, .inr (.inl (ml 12)))), (am 13, .inl (cy 0, 5632, .inl (mi 13))), (am 14, .inl (cy 0, 10, .inl (mi 14))), (am 15, .inl (cy 0, 10, .inl (mi 15))), (am 16, .inl (cy 0, 10, .inl (mi 16))), (am 17, .inl (cy 0, 64, .inl (mi 17))), (am 18, .inl (cy 0, 160, .inl (mi 18))), (am 19, .inl (cy 0, 4, .inl (mi 19))), (am 20, .inl (cy 0, 240, .inl (mi 20)))] H := hP
  have hD : va_D (FA s) [(am 0, .inr (12, [.int 0, .ref (am 1), .int 0, .int 0, .int 0, .int 0, .int 0, .int 0, .int 0, .int 0, .int 0, .int 0, .long 0, .int 0, .ref (am 2), .ref (am 3), .ref (am 4), .ref (am 5), .ref (am 6), .ref (am 7), .ref (am 8), .ref (am 9), .ref (am 10), .ref (am 11), .int 0, .int (-1), .ref (am 12), .ref (am 13), .ref (am 14), .int 0, .ref (am 15), .ref (am 16), .int 0, .int 0, .int 0, .ref (am 17), .int 0, .int 0, .ref (am 18), .ref (am 19), .int 0, .int 0, .ref (am 20), .int 0, .int 0, .int 0, .int 0])), (am 1, .inl (cy 0, 940, .inl (mi 1))), (am 2, .inl (cy 0, 575, .inl (mi 2))), (am 3, .inl (cy 0, 157, .inl (mi 3))), (am 4, .inl (cy 0, 1150, .inl (mi 4))), (am 5, .inl (cy 0, 1408, .inl (mi 5))), (am 6, .inl (cy 0, 176, .inl (mi 6))), (am 7, .inl (cy 1, 17, .inr (.inl (ml 7)))), (am 8, .inl (cy 1, 17, .inr (.inl (ml 8)))), (am 9, .inl (cy 1, 34, .inr (.inl (ml 9)))), (am 10, .inl (cy 2, 2, .inl (mi 10))), (am 11, .inl (cy 2, 2, .inl (mi 11))), (am 12, .inl (cy 1, 5632, .inr (.inl (ml 12)))), (am 13, .inl (cy 0, 5632, .inl (mi 13))), (am 14, .inl (cy 0, 10, .inl (mi 14))), (am 15, .inl (cy 0, 10, .inl (mi 15))), (am 16, .inl (cy 0, 10, .inl (mi 16))), (am 17, .inl (cy 0, 64, .inl (mi 17))), (am 18, .inl (cy 0, 160, .inl (mi 18))), (am 19, .inl (cy 0, 4, .inl (mi 19))), (am 20, .inl (cy 0, 240, .inl (mi 20)))] := hD
  refine as_i (-1) hp_2 ?_
  refine lv_aload_n hx hb dL_law_1348 rfl (lv_at hl 2 rfl) ?_
  refine jn_i (wr := []) (rV (As := []) (rest := [.int (-1)]) (ci := 12) ⟨hx, hb, hml, hown, hts⟩ (m_sentence l dC dI cy _ am ) (cw_L_177 hts rfl rfl ⟨Nat.le_of_ble_eq_true rfl, Nat.le_of_ble_eq_true rfl⟩) hP hD hK [0] rfl rfl rfl rfl bl0 e0 rfl hl.1 rfl (Nat.le_of_ble_eq_true rfl) dL_law_1349 ⟨Nat.le_of_ble_eq_true rfl, Nat.le_of_ble_eq_true rfl⟩) hP hD hS hA [0] [] rfl rfl rfl (by decide) (fun r_4 u_6 H locs hp_5 hP hD hS => ?_)
  have hp_5 : r_4 = (-1) := hp_5
  have hP : va_P (dC, dI) vwCl [] H := hP
  have hD : va_D (FA s) [] := hD
  refine as_i (-1) hp_5 ?_
  refine lv_icmp_eq (tgt := 1457) hx hb dL_law_1352 (by decide) (fun _ => ?_) (fun c9 => absurd (by decide) c9)
  exact law_end C0 hS (lv_sub hl [0, 4] rfl) (by decide) (by decide)
theorem dL_law_1357 : decode cL_law 1357 = .ok (.aload_n 1, 1) := by decide +kernel
theorem dL_law_1358 : decode cL_law 1358 = .ok (.aload_n 0, 1) := by decide +kernel
theorem dL_law_1359 : decode cL_law 1359 = .ok (.iload 4, 2) := by decide +kernel
theorem dL_law_1361 : decode cL_law 1361 = .ok (.iconst 1, 1) := by decide +kernel
theorem dL_law_1362 : decode cL_law 1362 = .ok (.iadd, 1) := by decide +kernel
theorem dL_law_1363 : decode cL_law 1363 = .ok (.iaload, 1) := by decide +kernel
theorem dL_law_1364 : decode cL_law 1364 = .ok (.invokevirtual 178, 3) := by decide +kernel
theorem t1306 : Cond.methodLink RL 178 yX10_said ∈ GW := gw_mem 1420 (by decide +kernel) (by decide +kernel)
theorem t1307 : Cond.instanceMethod yX10_said ∈ GW := gw_mem 1421 (by decide +kernel) (by decide +kernel)
theorem t1308 : Cond.selects RX10 yX10_said yX10_said ∈ GW := gw_mem 1422 (by decide +kernel) (by decide +kernel)
theorem cw_L_178 {R : Room} {s : State} {args : Array Value} {rm : Room} {mc ms : Nat} (hts : ∀ w ∈ GW, w.before args s = true) (hrc : rm.cells = mc) (hrs : rm.slots = ms) (hR : rm.frames + 1 ≤ R.frames ∧ 8 + (5 + 11) + rm.locals ≤ R.locals) : CallW R s args RL RX10 178 yX10_said cX10_said 5 (some .int) (wl yX10_said cX10_said 5 (some .int)) rm mc ms 1 := cwV 1 hts (gi_V t1306 t1307 t1308 t1 t1309) rfl hrc hrs (by decide +kernel) hR
theorem dL_law_1367 : decode cL_law 1367 = .ok (.aload_n 2, 1) := by decide +kernel
theorem dL_law_1368 : decode cL_law 1368 = .ok (.aload_n 0, 1) := by decide +kernel
theorem dL_law_1369 : decode cL_law 1369 = .ok (.iload 4, 2) := by decide +kernel
theorem dL_law_1371 : decode cL_law 1371 = .ok (.iconst 1, 1) := by decide +kernel
theorem dL_law_1372 : decode cL_law 1372 = .ok (.iadd, 1) := by decide +kernel
theorem dL_law_1373 : decode cL_law 1373 = .ok (.iaload, 1) := by decide +kernel
theorem dL_law_1374 : decode cL_law 1374 = .ok (.invokevirtual 181, 3) := by decide +kernel
theorem t2055 : Cond.methodLink RL 181 yX11_said ∈ GW := gw_mem 2169 (by decide +kernel) (by decide +kernel)
theorem t2056 : Cond.instanceMethod yX11_said ∈ GW := gw_mem 2170 (by decide +kernel) (by decide +kernel)
theorem t2057 : Cond.selects RX11 yX11_said yX11_said ∈ GW := gw_mem 2171 (by decide +kernel) (by decide +kernel)
theorem cw_L_181 {R : Room} {s : State} {args : Array Value} {rm : Room} {mc ms : Nat} (hts : ∀ w ∈ GW, w.before args s = true) (hrc : rm.cells = mc) (hrs : rm.slots = ms) (hR : rm.frames + 1 ≤ R.frames ∧ 8 + (4 + 11) + rm.locals ≤ R.locals) : CallW R s args RL RX11 181 yX11_said cX11_said 4 (some .int) (wl yX11_said cX11_said 4 (some .int)) rm mc ms 1 := cwV 1 hts (gi_V t2055 t2056 t2057 t18 t2058) rfl hrc hrs (by decide +kernel) hR
theorem dL_law_1377 : decode cL_law 1377 = .ok (.if_icmp .eq 80, 3) := by decide +kernel
set_option maxHeartbeats 4000000 in
set_option maxRecDepth 100000 in
theorem lc_37 {p : Program} {l : Launch} {e : Env} {s : State} {m : MethodId} {below : List Frame} {meth : Method} {c : Code} {b : Nat} {xs : Nat → Int32} (hl0 : l.stackTraces = false) (C0 : lw_At p s m meth c b 6 xs) (dC : Nat → ClassId) (dI : Nat → Nat → Nat) (cy : Nat → ClassId) (ad : Nat → Nat) (ai : Nat → Nat → Int32) (al : Nat → Nat → Int64) (aq : Nat → Nat → Option Nat) (am : Nat → Nat) (mi : Nat → Nat → Int32) (ml : Nat → Nat → Int64) (qo : Nat) (hX : OkX ad ai aq) (hM : OkM mi) (hEX : EnvX (FA s) s) (hK : va_K (dC, dI) vwCl (TY cy) s) {H : Heap} {locs : List Loc} (hP : va_P (dC, dI) vwCl (FX cy ad ai al aq ++ FM cy am mi ml) H) (hD : va_D (FA s) (FX cy ad ai al aq ++ FM cy am mi ml)) (hS : va_S (FA s) s.heap H locs) {ls : Array Slot} (hl : lv_has ls 7 [(4, .int 0), (3, .ref qo), (2, .ref (am 0)), (1, .ref (ad 0)), (0, .ref b)]) : W p l e room_1 s m #[Value.ref b] below meth c H locs 237 23836 (lw_Z below #[Value.ref b] s) (F0 m 1357 ls []) := by
  obtain ⟨hx, hb, hr, hml, hown, htsL, hXs, hbl, hlocks, hgv⟩ := id C0
  have hown : s.vm.findClass RL = some m.cls := hown
  have hts : ∀ w ∈ GW, w.before #[Value.ref b] s = true := fun w hw => htsL w (List.mem_filter.mp hw).1
  have hA : ∀ q : Nat, s.heap.size ≤ q → FA s q := fun _ h => h
  have hbA : ¬ FA s b := Nat.not_le.mpr hbl
  refine lv_aload_n hx hb dL_law_1357 rfl (lv_at hl 3 rfl) ?_
  refine lv_aload_n hx hb dL_law_1358 rfl (lv_at hl 4 rfl) ?_
  refine lv_iload hx hb dL_law_1359 (lv_at hl 0 rfl) ?_
  refine lv_iconst (v := 1) hx hb dL_law_1361 (by decide) ?_
  refine lv_iadd hx hb dL_law_1362 ?_
  refine as_i 1 (by decide) ?_
  refine va_sld hx hb hXs hbl hbA hS (show vp_in 1 6 from vp_in_nI (n := 1) (by decide) (by decide)) dL_law_1363 ?_
  refine as_i (xs 1) rfl ?_
  refine jr_i (rVr (As := [.int (xs 1)]) (rest := []) (ci := 11) ⟨hx, hb, hml, hown, hts⟩ (k_said l dC dI cy ad (xs 1) ) (cw_L_178 hts rfl rfl ⟨Nat.le_of_ble_eq_true rfl, Nat.le_of_ble_eq_true rfl⟩) hP hK [0, 22, 40] rfl rfl rfl rfl hl.1 rfl (Nat.le_of_ble_eq_true rfl) dL_law_1364 ⟨Nat.le_of_ble_eq_true rfl, Nat.le_of_ble_eq_true rfl⟩) hP hS (fun r_1 H locs hp_2 hP hS => ?_)
  refine as_i (-1) hp_2 ?_
  refine lv_aload_n hx hb dL_law_1367 rfl (lv_at hl 2 rfl) ?_
  refine lv_aload_n hx hb dL_law_1368 rfl (lv_at hl 4 rfl) ?_
  refine lv_iload hx hb dL_law_1369 (lv_at hl 0 rfl) ?_
  refine lv_iconst (v := 1) hx hb dL_law_1371 (by decide) ?_
  refine lv_iadd hx hb dL_law_1372 ?_
  refine as_i 1 (by decide) ?_
  refine va_sld hx hb hXs hbl hbA hS (show vp_in 1 6 from vp_in_nI (n := 1) (by decide) (by decide)) dL_law_1373 ?_
  refine as_i (xs 1) rfl ?_
  refine jn_i (wr := []) (rV (As := [.int (xs 1)]) (rest := [.int (-1)]) (ci := 12) ⟨hx, hb, hml, hown, hts⟩ (m_said l dC dI cy _ am mi (xs 1) hM.1) (cw_L_181 hts rfl rfl ⟨Nat.le_of_ble_eq_true rfl, Nat.le_of_ble_eq_true rfl⟩) hP hD hK [114, 116] rfl rfl rfl rfl bl0 e0 rfl hl.1 rfl (Nat.le_of_ble_eq_true rfl) dL_law_1374 ⟨Nat.le_of_ble_eq_true rfl, Nat.le_of_ble_eq_true rfl⟩) hP hD hS hA [114, 116] [] rfl rfl rfl (by decide) (fun r_3 u_5 H locs hp_4 hP hD hS => ?_)
  have hp_4 : r_3 = (-1) := hp_4
  have hP : va_P (dC, dI) vwCl [] H := hP
  have hD : va_D (FA s) [] := hD
  refine as_i (-1) hp_4 ?_
  refine lv_icmp_eq (tgt := 1457) hx hb dL_law_1377 (by decide) (fun _ => ?_) (fun c9 => absurd (by decide) c9)
  exact law_end C0 hS (lv_sub hl [0, 4] rfl) (by decide) (by decide)
theorem dL_law_1382 : decode cL_law 1382 = .ok (.aload_n 1, 1) := by decide +kernel
theorem dL_law_1383 : decode cL_law 1383 = .ok (.aload_n 0, 1) := by decide +kernel
theorem dL_law_1384 : decode cL_law 1384 = .ok (.iload 4, 2) := by decide +kernel
theorem dL_law_1386 : decode cL_law 1386 = .ok (.iconst 1, 1) := by decide +kernel
theorem dL_law_1387 : decode cL_law 1387 = .ok (.iadd, 1) := by decide +kernel
theorem dL_law_1388 : decode cL_law 1388 = .ok (.iaload, 1) := by decide +kernel
theorem dL_law_1389 : decode cL_law 1389 = .ok (.invokevirtual 182, 3) := by decide +kernel
theorem t1331 : Cond.methodLink RL 182 yX10_image ∈ GW := gw_mem 1445 (by decide +kernel) (by decide +kernel)
theorem t1332 : Cond.instanceMethod yX10_image ∈ GW := gw_mem 1446 (by decide +kernel) (by decide +kernel)
theorem t1333 : Cond.selects RX10 yX10_image yX10_image ∈ GW := gw_mem 1447 (by decide +kernel) (by decide +kernel)
theorem cw_L_182 {R : Room} {s : State} {args : Array Value} {rm : Room} {mc ms : Nat} (hts : ∀ w ∈ GW, w.before args s = true) (hrc : rm.cells = mc) (hrs : rm.slots = ms) (hR : rm.frames + 1 ≤ R.frames ∧ 8 + (2 + 11) + rm.locals ≤ R.locals) : CallW R s args RL RX10 182 yX10_image cX10_image 2 (some .boolean) (wl yX10_image cX10_image 2 (some .boolean)) rm mc ms 1 := cwV 1 hts (gi_V t1331 t1332 t1333 t1 t1334) rfl hrc hrs (by decide +kernel) hR
theorem dL_law_1392 : decode cL_law 1392 = .ok (.aload_n 2, 1) := by decide +kernel
theorem dL_law_1393 : decode cL_law 1393 = .ok (.aload_n 0, 1) := by decide +kernel
theorem dL_law_1394 : decode cL_law 1394 = .ok (.iload 4, 2) := by decide +kernel
theorem dL_law_1396 : decode cL_law 1396 = .ok (.iconst 1, 1) := by decide +kernel
theorem dL_law_1397 : decode cL_law 1397 = .ok (.iadd, 1) := by decide +kernel
theorem dL_law_1398 : decode cL_law 1398 = .ok (.iaload, 1) := by decide +kernel
theorem dL_law_1399 : decode cL_law 1399 = .ok (.invokevirtual 185, 3) := by decide +kernel
theorem t2064 : Cond.methodLink RL 185 yX11_image ∈ GW := gw_mem 2178 (by decide +kernel) (by decide +kernel)
theorem t2065 : Cond.instanceMethod yX11_image ∈ GW := gw_mem 2179 (by decide +kernel) (by decide +kernel)
theorem t2066 : Cond.selects RX11 yX11_image yX11_image ∈ GW := gw_mem 2180 (by decide +kernel) (by decide +kernel)
theorem cw_L_185 {R : Room} {s : State} {args : Array Value} {rm : Room} {mc ms : Nat} (hts : ∀ w ∈ GW, w.before args s = true) (hrc : rm.cells = mc) (hrs : rm.slots = ms) (hR : rm.frames + 1 ≤ R.frames ∧ 8 + (3 + 11) + rm.locals ≤ R.locals) : CallW R s args RL RX11 185 yX11_image cX11_image 3 (some .boolean) (wl yX11_image cX11_image 3 (some .boolean)) rm mc ms 1 := cwV 1 hts (gi_V t2064 t2065 t2066 t18 t2067) rfl hrc hrs (by decide +kernel) hR
theorem dL_law_1402 : decode cL_law 1402 = .ok (.if_icmp .eq 55, 3) := by decide +kernel
set_option maxHeartbeats 4000000 in
set_option maxRecDepth 100000 in
theorem lc_38 {p : Program} {l : Launch} {e : Env} {s : State} {m : MethodId} {below : List Frame} {meth : Method} {c : Code} {b : Nat} {xs : Nat → Int32} (hl0 : l.stackTraces = false) (C0 : lw_At p s m meth c b 6 xs) (dC : Nat → ClassId) (dI : Nat → Nat → Nat) (cy : Nat → ClassId) (ad : Nat → Nat) (ai : Nat → Nat → Int32) (al : Nat → Nat → Int64) (aq : Nat → Nat → Option Nat) (am : Nat → Nat) (mi : Nat → Nat → Int32) (ml : Nat → Nat → Int64) (qo : Nat) (hX : OkX ad ai aq) (hM : OkM mi) (hEX : EnvX (FA s) s) (hK : va_K (dC, dI) vwCl (TY cy) s) {H : Heap} {locs : List Loc} (hP : va_P (dC, dI) vwCl (FX cy ad ai al aq ++ FM cy am mi ml) H) (hD : va_D (FA s) (FX cy ad ai al aq ++ FM cy am mi ml)) (hS : va_S (FA s) s.heap H locs) {ls : Array Slot} (hl : lv_has ls 7 [(4, .int 0), (3, .ref qo), (2, .ref (am 0)), (1, .ref (ad 0)), (0, .ref b)]) : W p l e room_1 s m #[Value.ref b] below meth c H locs 237 23836 (lw_Z below #[Value.ref b] s) (F0 m 1382 ls []) := by
  obtain ⟨hx, hb, hr, hml, hown, htsL, hXs, hbl, hlocks, hgv⟩ := id C0
  have hown : s.vm.findClass RL = some m.cls := hown
  have hts : ∀ w ∈ GW, w.before #[Value.ref b] s = true := fun w hw => htsL w (List.mem_filter.mp hw).1
  have hA : ∀ q : Nat, s.heap.size ≤ q → FA s q := fun _ h => h
  have hbA : ¬ FA s b := Nat.not_le.mpr hbl
  refine lv_aload_n hx hb dL_law_1382 rfl (lv_at hl 3 rfl) ?_
  refine lv_aload_n hx hb dL_law_1383 rfl (lv_at hl 4 rfl) ?_
  refine lv_iload hx hb dL_law_1384 (lv_at hl 0 rfl) ?_
  refine lv_iconst (v := 1) hx hb dL_law_1386 (by decide) ?_
  refine lv_iadd hx hb dL_law_1387 ?_
  refine as_i 1 (by decide) ?_
  refine va_sld hx hb hXs hbl hbA hS (show vp_in 1 6 from vp_in_nI (n := 1) (by decide) (by decide)) dL_law_1388 ?_
  refine as_i (xs 1) rfl ?_
  refine jn_i (wr := [(am 0, .inr (12, [.int 0, .ref (am 1), .int 0, .int 0, .int 0, .int 0, .int 0, .int 0, .int 0, .int 0, .int 0, .int 0, .long 0, .int 0, .ref (am 2), .ref (am 3), .ref (am 4), .ref (am 5), .ref (am 6), .ref (am 7), .ref (am 8), .ref (am 9), .ref (am 10), .ref (am 11), .int 0, .int (-1), .ref (am 12), .ref (am 13), .ref (am 14), .int 0, .ref (am 15), .ref (am 16), .int 0, .int 0, .int 0, .ref (am 17), .int 0, .int 0, .ref (am 18), .ref (am 19), .int 0, .int 0, .ref (am 20), .int 0, .int 0, .int 0, .int 0])), (am 1, .inl (cy 0, 940, .inl (mi 1))), (am 2, .inl (cy 0, 575, .inl (mi 2))), (am 3, .inl (cy 0, 157, .inl (mi 3))), (am 4, .inl (cy 0, 1150, .inl (mi 4))), (am 5, .inl (cy 0, 1408, .inl (mi 5))), (am 6, .inl (cy 0, 176, .inl (mi 6))), (am 7, .inl (cy 1, 17, .inr (.inl (ml 7)))), (am 8, .inl (cy 1, 17, .inr (.inl (ml 8)))), (am 9, .inl (cy 1, 34, .inr (.inl (ml 9)))), (am 10, .inl (cy 2, 2, .inl (mi 10))), (am 11, .inl (cy 2, 2, .inl (mi 11))), (am 12, .inl (cy 1, 5632, .inr (.inl (ml 12)))), (am 13, .inl (cy 0, 5632, .inl (mi 13))), (am 14, .inl (cy 0, 10, .inl (mi 14))), (am 15, .inl (cy 0, 10, .inl (mi 15))), (am 16, .inl (cy 0, 10, .inl (mi 16))), (am 17, .inl (cy 0, 64, .inl (mi 17))), (am 18, .inl (cy 0, 160, .inl (mi 18))), (am 19, .inl (cy 0, 4, .inl (mi 19))), (am 20, .inl (cy 0, 240, .inl (mi 20)))]) (rV (As := [.int (xs 1)]) (rest := []) (ci := 11) ⟨hx, hb, hml, hown, hts⟩ (k_image l dC dI cy _ ad ai al aq (xs 1) hX.2.2.2.1 hX.2.2.2.2) (cw_L_182 hts rfl rfl ⟨Nat.le_of_ble_eq_true rfl, Nat.le_of_ble_eq_true rfl⟩) hP hD hK [0, 20, 21, 22, 23, 24, 25, 26, 27, 28, 29, 30, 31, 32, 33, 34, 35, 36, 37, 38, 39, 40, 41, 42, 43, 68, 69, 70, 71, 72, 73, 74, 75, 76, 77, 78, 79, 80, 81, 82, 83, 84, 85, 86, 87, 88, 89, 91, 92, 93, 94, 95, 96, 97, 98, 99, 100, 101, 102, 103, 104, 105, 106, 107, 108, 109, 110, 111, 112] rfl rfl rfl rfl bl0 e0 rfl hl.1 rfl (Nat.le_of_ble_eq_true rfl) dL_law_1389 ⟨Nat.le_of_ble_eq_true rfl, Nat.le_of_ble_eq_true rfl⟩) hP hD hS hA [0, 20, 21, 22, 23, 24, 25, 26, 27, 28, 29, 30, 31, 32, 33, 34, 35, 36, 37, 38, 39, 40, 41, 42, 43, 68, 69, 70, 71, 72, 73, 74, 75, 76, 77, 78, 79, 80, 81, 82, 83, 84, 85, 86, 87, 88, 89, 91, 92, 93, 94, 95, 96, 97, 98, 99, 100, 101, 102, 103, 104, 105, 106, 107, 108, 109, 110, 111, 112] [114, 115, 116, 117, 118, 119, 120, 121, 122, 123, 124, 125, 126, 127, 128, 129, 130, 131, 132, 133, 134] rfl rfl rfl (by decide) (fun r_1 u_3 H locs hp_2 hP hD hS => ?_)
  have hp_2 : r_1 = imF (xs 1) := hp_2
  have hP : va_P (dC, dI) vwCl [(am 0, .inr (12, [.int 0, .ref (am 1), .int 0, .int 0, .int 0, .int 0, .int 0, .int 0, .int 0, .int 0, .int 0, .int 0, .long 0, .int 0, .ref (am 2), .ref (am 3), .ref (am 4), .ref (am 5), .ref (am 6), .ref (am 7), .ref (am 8), .ref (am 9), .ref (am 10), .ref (am 11), .int 0, .int (-1), .ref (am 12), .ref (am 13), .ref (am 14), .int 0, .ref (am 15), .ref (am 16), .int 0, .int 0, .int 0, .ref (am 17), .int 0, .int 0, .ref (am 18), .ref (am 19), .int 0, .int 0, .ref (am 20), .int 0, .int 0, .int 0, .int 0])), (am 1, .inl (cy 0, 940, .inl (mi 1))), (am 2, .inl (cy 0, 575, .inl (mi 2))), (am 3, .inl (cy 0, 157, .inl (mi 3))), (am 4, .inl (cy 0, 1150, .inl (mi 4))), (am 5, .inl (cy 0, 1408, .inl (mi 5))), (am 6, .inl (cy 0, 176, .inl (mi 6))), (am 7, .inl (cy 1, 17, .inr (.inl (ml 7)))), (am 8, .inl (cy 1, 17, .inr (.inl (ml 8)))), (am 9, .inl (cy 1, 34, .inr (.inl (ml 9)))), (am 10, .inl (cy 2, 2, .inl (mi 10))), (am 11, .inl (cy 2, 2, .inl (mi 11))), (am 12, .inl (cy 1, 5632, .inr (.inl (ml 12)))), (am 13, .inl (cy 0, 5632, .inl (mi 13))), (am 14, .inl (cy 0, 10, .inl (mi 14))), (am 15, .inl (cy 0, 10, .inl (mi 15))), (am 16, .inl (cy 0, 10, .inl (mi 16))), (am 17, .inl (cy 0, 64, .inl (mi 17))), (am 18, .inl (cy 0, 160, .inl (mi 18))), (am 19, .inl (cy 0, 4, .inl (mi 19))), (am 20, .inl (cy 0, 240, .inl (mi 20)))] H := hP
  have hD : va_D (FA s) [(am 0, .inr (12, [.int 0, .ref (am 1), .int 0, .int 0, .int 0, .int 0, .int 0, .int 0, .int 0, .int 0, .int 0, .int 0, .long 0, .int 0, .ref (am 2), .ref (am 3), .ref (am 4), .ref (am 5), .ref (am 6), .ref (am 7), .ref (am 8), .ref (am 9), .ref (am 10), .ref (am 11), .int 0, .int (-1), .ref (am 12), .ref (am 13), .ref (am 14), .int 0, .ref (am 15), .ref (am 16), .int 0, .int 0, .int 0, .ref (am 17), .int 0, .int 0, .ref (am 18), .ref (am 19), .int 0, .int 0, .ref (am 20), .int 0, .int 0, .int 0, .int 0])), (am 1, .inl (cy 0, 940, .inl (mi 1))), (am 2, .inl (cy 0, 575, .inl (mi 2))), (am 3, .inl (cy 0, 157, .inl (mi 3))), (am 4, .inl (cy 0, 1150, .inl (mi 4))), (am 5, .inl (cy 0, 1408, .inl (mi 5))), (am 6, .inl (cy 0, 176, .inl (mi 6))), (am 7, .inl (cy 1, 17, .inr (.inl (ml 7)))), (am 8, .inl (cy 1, 17, .inr (.inl (ml 8)))), (am 9, .inl (cy 1, 34, .inr (.inl (ml 9)))), (am 10, .inl (cy 2, 2, .inl (mi 10))), (am 11, .inl (cy 2, 2, .inl (mi 11))), (am 12, .inl (cy 1, 5632, .inr (.inl (ml 12)))), (am 13, .inl (cy 0, 5632, .inl (mi 13))), (am 14, .inl (cy 0, 10, .inl (mi 14))), (am 15, .inl (cy 0, 10, .inl (mi 15))), (am 16, .inl (cy 0, 10, .inl (mi 16))), (am 17, .inl (cy 0, 64, .inl (mi 17))), (am 18, .inl (cy 0, 160, .inl (mi 18))), (am 19, .inl (cy 0, 4, .inl (mi 19))), (am 20, .inl (cy 0, 240, .inl (mi 20)))] := hD
  refine as_i (imF (xs 1)) hp_2 ?_
  refine lv_aload_n hx hb dL_law_1392 rfl (lv_at hl 2 rfl) ?_
  refine lv_aload_n hx hb dL_law_1393 rfl (lv_at hl 4 rfl) ?_
  refine lv_iload hx hb dL_law_1394 (lv_at hl 0 rfl) ?_
  refine lv_iconst (v := 1) hx hb dL_law_1396 (by decide) ?_
  refine lv_iadd hx hb dL_law_1397 ?_
  refine as_i 1 (by decide) ?_
  refine va_sld hx hb hXs hbl hbA hS (show vp_in 1 6 from vp_in_nI (n := 1) (by decide) (by decide)) dL_law_1398 ?_
  refine as_i (xs 1) rfl ?_
  refine jn_i (wr := []) (rV (As := [.int (xs 1)]) (rest := [.int (imF (xs 1))]) (ci := 12) ⟨hx, hb, hml, hown, hts⟩ (m_image l dC dI cy _ am mi ml (xs 1) ) (cw_L_185 hts rfl rfl ⟨Nat.le_of_ble_eq_true rfl, Nat.le_of_ble_eq_true rfl⟩) hP hD hK [0, 2, 4, 7, 9, 10] rfl rfl rfl rfl bl0 e0 rfl hl.1 rfl (Nat.le_of_ble_eq_true rfl) dL_law_1399 ⟨Nat.le_of_ble_eq_true rfl, Nat.le_of_ble_eq_true rfl⟩) hP hD hS hA [0, 2, 4, 7, 9, 10] [] rfl rfl rfl (by decide) (fun r_4 u_6 H locs hp_5 hP hD hS => ?_)
  have hp_5 : r_4 = imF (xs 1) := hp_5
  have hP : va_P (dC, dI) vwCl [] H := hP
  have hD : va_D (FA s) [] := hD
  refine as_i (imF (xs 1)) hp_5 ?_
  refine lv_icmp_eq (tgt := 1457) hx hb dL_law_1402 (by decide) (fun _ => ?_) (fun c9 => absurd rfl c9)
  exact law_end C0 hS (lv_sub hl [0, 4] rfl) (by decide) (by decide)
theorem dL_law_1407 : decode cL_law 1407 = .ok (.aload_n 1, 1) := by decide +kernel
theorem dL_law_1408 : decode cL_law 1408 = .ok (.aload_n 0, 1) := by decide +kernel
theorem dL_law_1409 : decode cL_law 1409 = .ok (.iload 4, 2) := by decide +kernel
theorem dL_law_1411 : decode cL_law 1411 = .ok (.iconst 1, 1) := by decide +kernel
theorem dL_law_1412 : decode cL_law 1412 = .ok (.iadd, 1) := by decide +kernel
theorem dL_law_1413 : decode cL_law 1413 = .ok (.iaload, 1) := by decide +kernel
theorem dL_law_1414 : decode cL_law 1414 = .ok (.invokevirtual 186, 3) := by decide +kernel
theorem t1342 : Cond.methodLink RL 186 yX10_restore ∈ GW := gw_mem 1456 (by decide +kernel) (by decide +kernel)
theorem t1343 : Cond.instanceMethod yX10_restore ∈ GW := gw_mem 1457 (by decide +kernel) (by decide +kernel)
theorem t1344 : Cond.selects RX10 yX10_restore yX10_restore ∈ GW := gw_mem 1458 (by decide +kernel) (by decide +kernel)
theorem cw_L_186 {R : Room} {s : State} {args : Array Value} {rm : Room} {mc ms : Nat} (hts : ∀ w ∈ GW, w.before args s = true) (hrc : rm.cells = mc) (hrs : rm.slots = ms) (hR : rm.frames + 1 ≤ R.frames ∧ 8 + (2 + 11) + rm.locals ≤ R.locals) : CallW R s args RL RX10 186 yX10_restore cX10_restore 2 (some .boolean) (wl yX10_restore cX10_restore 2 (some .boolean)) rm mc ms 1 := cwV 1 hts (gi_V t1342 t1343 t1344 t1 t1345) rfl hrc hrs (by decide +kernel) hR
theorem dL_law_1417 : decode cL_law 1417 = .ok (.aload_n 2, 1) := by decide +kernel
theorem dL_law_1418 : decode cL_law 1418 = .ok (.aload_n 0, 1) := by decide +kernel
theorem dL_law_1419 : decode cL_law 1419 = .ok (.iload 4, 2) := by decide +kernel
theorem dL_law_1421 : decode cL_law 1421 = .ok (.iconst 1, 1) := by decide +kernel
theorem dL_law_1422 : decode cL_law 1422 = .ok (.iadd, 1) := by decide +kernel
theorem dL_law_1423 : decode cL_law 1423 = .ok (.iaload, 1) := by decide +kernel
theorem dL_law_1424 : decode cL_law 1424 = .ok (.invokevirtual 189, 3) := by decide +kernel
theorem t2068 : Cond.methodLink RL 189 yX11_restore ∈ GW := gw_mem 2182 (by decide +kernel) (by decide +kernel)
theorem t2069 : Cond.instanceMethod yX11_restore ∈ GW := gw_mem 2183 (by decide +kernel) (by decide +kernel)
theorem t2070 : Cond.selects RX11 yX11_restore yX11_restore ∈ GW := gw_mem 2184 (by decide +kernel) (by decide +kernel)
theorem cw_L_189 {R : Room} {s : State} {args : Array Value} {rm : Room} {mc ms : Nat} (hts : ∀ w ∈ GW, w.before args s = true) (hrc : rm.cells = mc) (hrs : rm.slots = ms) (hR : rm.frames + 1 ≤ R.frames ∧ 8 + (3 + 11) + rm.locals ≤ R.locals) : CallW R s args RL RX11 189 yX11_restore cX11_restore 3 (some .boolean) (wl yX11_restore cX11_restore 3 (some .boolean)) rm mc ms 1 := cwV 1 hts (gi_V t2068 t2069 t2070 t18 t2071) rfl hrc hrs (by decide +kernel) hR
theorem dL_law_1427 : decode cL_law 1427 = .ok (.if_icmp .eq 30, 3) := by decide +kernel
set_option maxHeartbeats 4000000 in
set_option maxRecDepth 100000 in
theorem lc_39 {p : Program} {l : Launch} {e : Env} {s : State} {m : MethodId} {below : List Frame} {meth : Method} {c : Code} {b : Nat} {xs : Nat → Int32} (hl0 : l.stackTraces = false) (C0 : lw_At p s m meth c b 6 xs) (dC : Nat → ClassId) (dI : Nat → Nat → Nat) (cy : Nat → ClassId) (ad : Nat → Nat) (ai : Nat → Nat → Int32) (al : Nat → Nat → Int64) (aq : Nat → Nat → Option Nat) (am : Nat → Nat) (mi : Nat → Nat → Int32) (ml : Nat → Nat → Int64) (qo : Nat) (hX : OkX ad ai aq) (hM : OkM mi) (hEX : EnvX (FA s) s) (hK : va_K (dC, dI) vwCl (TY cy) s) {H : Heap} {locs : List Loc} (hP : va_P (dC, dI) vwCl (FX cy ad ai al aq ++ FM cy am mi ml) H) (hD : va_D (FA s) (FX cy ad ai al aq ++ FM cy am mi ml)) (hS : va_S (FA s) s.heap H locs) {ls : Array Slot} (hl : lv_has ls 7 [(4, .int 0), (3, .ref qo), (2, .ref (am 0)), (1, .ref (ad 0)), (0, .ref b)]) : W p l e room_1 s m #[Value.ref b] below meth c H locs 237 23836 (lw_Z below #[Value.ref b] s) (F0 m 1407 ls []) := by
  obtain ⟨hx, hb, hr, hml, hown, htsL, hXs, hbl, hlocks, hgv⟩ := id C0
  have hown : s.vm.findClass RL = some m.cls := hown
  have hts : ∀ w ∈ GW, w.before #[Value.ref b] s = true := fun w hw => htsL w (List.mem_filter.mp hw).1
  have hA : ∀ q : Nat, s.heap.size ≤ q → FA s q := fun _ h => h
  have hbA : ¬ FA s b := Nat.not_le.mpr hbl
  refine lv_aload_n hx hb dL_law_1407 rfl (lv_at hl 3 rfl) ?_
  refine lv_aload_n hx hb dL_law_1408 rfl (lv_at hl 4 rfl) ?_
  refine lv_iload hx hb dL_law_1409 (lv_at hl 0 rfl) ?_
  refine lv_iconst (v := 1) hx hb dL_law_1411 (by decide) ?_
  refine lv_iadd hx hb dL_law_1412 ?_
  refine as_i 1 (by decide) ?_
  refine va_sld hx hb hXs hbl hbA hS (show vp_in 1 6 from vp_in_nI (n := 1) (by decide) (by decide)) dL_law_1413 ?_
  refine as_i (xs 1) rfl ?_
  refine jr_i (rVr (As := [.int (xs 1)]) (rest := []) (ci := 11) ⟨hx, hb, hml, hown, hts⟩ (k_restore l dC dI cy ad ai (xs 1) hX.2.1) (cw_L_186 hts rfl rfl ⟨Nat.le_of_ble_eq_true rfl, Nat.le_of_ble_eq_true rfl⟩) hP hK [0, 21] rfl rfl rfl rfl hl.1 rfl (Nat.le_of_ble_eq_true rfl) dL_law_1414 ⟨Nat.le_of_ble_eq_true rfl, Nat.le_of_ble_eq_true rfl⟩) hP hS (fun r_1 H locs hp_2 hP hS => ?_)
  refine as_i 0 hp_2 ?_
  refine lv_aload_n hx hb dL_law_1417 rfl (lv_at hl 2 rfl) ?_
  refine lv_aload_n hx hb dL_law_1418 rfl (lv_at hl 4 rfl) ?_
  refine lv_iload hx hb dL_law_1419 (lv_at hl 0 rfl) ?_
  refine lv_iconst (v := 1) hx hb dL_law_1421 (by decide) ?_
  refine lv_iadd hx hb dL_law_1422 ?_
  refine as_i 1 (by decide) ?_
  refine va_sld hx hb hXs hbl hbA hS (show vp_in 1 6 from vp_in_nI (n := 1) (by decide) (by decide)) dL_law_1423 ?_
  refine as_i (xs 1) rfl ?_
  refine jn_i (wr := []) (rV (As := [.int (xs 1)]) (rest := [.int 0]) (ci := 12) ⟨hx, hb, hml, hown, hts⟩ (m_restore l dC dI cy _ am mi (xs 1) hM.2) (cw_L_189 hts rfl rfl ⟨Nat.le_of_ble_eq_true rfl, Nat.le_of_ble_eq_true rfl⟩) hP hD hK [114, 124] rfl rfl rfl rfl bl0 e0 rfl hl.1 rfl (Nat.le_of_ble_eq_true rfl) dL_law_1424 ⟨Nat.le_of_ble_eq_true rfl, Nat.le_of_ble_eq_true rfl⟩) hP hD hS hA [114, 124] [] rfl rfl rfl (by decide) (fun r_3 u_5 H locs hp_4 hP hD hS => ?_)
  have hp_4 : r_3 = 0 := hp_4
  have hP : va_P (dC, dI) vwCl [] H := hP
  have hD : va_D (FA s) [] := hD
  refine as_i 0 hp_4 ?_
  refine lv_icmp_eq (tgt := 1457) hx hb dL_law_1427 (by decide) (fun _ => ?_) (fun c9 => absurd (by decide) c9)
  exact law_end C0 hS (lv_sub hl [0, 4] rfl) (by decide) (by decide)
theorem dL_law_1432 : decode cL_law 1432 = .ok (.aload_n 1, 1) := by decide +kernel
theorem dL_law_1433 : decode cL_law 1433 = .ok (.aload_n 0, 1) := by decide +kernel
theorem dL_law_1434 : decode cL_law 1434 = .ok (.iload 4, 2) := by decide +kernel
theorem dL_law_1436 : decode cL_law 1436 = .ok (.iconst 1, 1) := by decide +kernel
theorem dL_law_1437 : decode cL_law 1437 = .ok (.iadd, 1) := by decide +kernel
theorem dL_law_1438 : decode cL_law 1438 = .ok (.iaload, 1) := by decide +kernel
theorem dL_law_1439 : decode cL_law 1439 = .ok (.invokevirtual 190, 3) := by decide +kernel
theorem t1346 : Cond.methodLink RL 190 yX10_count ∈ GW := gw_mem 1460 (by decide +kernel) (by decide +kernel)
theorem t1347 : Cond.instanceMethod yX10_count ∈ GW := gw_mem 1461 (by decide +kernel) (by decide +kernel)
theorem t1348 : Cond.selects RX10 yX10_count yX10_count ∈ GW := gw_mem 1462 (by decide +kernel) (by decide +kernel)
theorem cw_L_190 {R : Room} {s : State} {args : Array Value} {rm : Room} {mc ms : Nat} (hts : ∀ w ∈ GW, w.before args s = true) (hrc : rm.cells = mc) (hrs : rm.slots = ms) (hR : rm.frames + 1 ≤ R.frames ∧ 8 + (2 + 11) + rm.locals ≤ R.locals) : CallW R s args RL RX10 190 yX10_count cX10_count 2 (some .int) (wl yX10_count cX10_count 2 (some .int)) rm mc ms 1 := cwV 1 hts (gi_V t1346 t1347 t1348 t1 t1349) rfl hrc hrs (by decide +kernel) hR
theorem dL_law_1442 : decode cL_law 1442 = .ok (.aload_n 2, 1) := by decide +kernel
theorem dL_law_1443 : decode cL_law 1443 = .ok (.aload_n 0, 1) := by decide +kernel
theorem dL_law_1444 : decode cL_law 1444 = .ok (.iload 4, 2) := by decide +kernel
theorem dL_law_1446 : decode cL_law 1446 = .ok (.iconst 1, 1) := by decide +kernel
theorem dL_law_1447 : decode cL_law 1447 = .ok (.iadd, 1) := by decide +kernel
theorem dL_law_1448 : decode cL_law 1448 = .ok (.iaload, 1) := by decide +kernel
theorem dL_law_1449 : decode cL_law 1449 = .ok (.invokevirtual 193, 3) := by decide +kernel
theorem t2072 : Cond.methodLink RL 193 yX11_count ∈ GW := gw_mem 2186 (by decide +kernel) (by decide +kernel)
theorem t2073 : Cond.instanceMethod yX11_count ∈ GW := gw_mem 2187 (by decide +kernel) (by decide +kernel)
theorem t2074 : Cond.selects RX11 yX11_count yX11_count ∈ GW := gw_mem 2188 (by decide +kernel) (by decide +kernel)
theorem cw_L_193 {R : Room} {s : State} {args : Array Value} {rm : Room} {mc ms : Nat} (hts : ∀ w ∈ GW, w.before args s = true) (hrc : rm.cells = mc) (hrs : rm.slots = ms) (hR : rm.frames + 1 ≤ R.frames ∧ 8 + (2 + 11) + rm.locals ≤ R.locals) : CallW R s args RL RX11 193 yX11_count cX11_count 2 (some .int) (wl yX11_count cX11_count 2 (some .int)) rm mc ms 1 := cwV 1 hts (gi_V t2072 t2073 t2074 t18 t2075) rfl hrc hrs (by decide +kernel) hR
theorem dL_law_1452 : decode cL_law 1452 = .ok (.if_icmp .eq 5, 3) := by decide +kernel
set_option maxHeartbeats 4000000 in
set_option maxRecDepth 100000 in
theorem lc_40 {p : Program} {l : Launch} {e : Env} {s : State} {m : MethodId} {below : List Frame} {meth : Method} {c : Code} {b : Nat} {xs : Nat → Int32} (hl0 : l.stackTraces = false) (C0 : lw_At p s m meth c b 6 xs) (dC : Nat → ClassId) (dI : Nat → Nat → Nat) (cy : Nat → ClassId) (ad : Nat → Nat) (ai : Nat → Nat → Int32) (al : Nat → Nat → Int64) (aq : Nat → Nat → Option Nat) (am : Nat → Nat) (mi : Nat → Nat → Int32) (ml : Nat → Nat → Int64) (qo : Nat) (hX : OkX ad ai aq) (hM : OkM mi) (hEX : EnvX (FA s) s) (hK : va_K (dC, dI) vwCl (TY cy) s) {H : Heap} {locs : List Loc} (hP : va_P (dC, dI) vwCl (FX cy ad ai al aq ++ FM cy am mi ml) H) (hD : va_D (FA s) (FX cy ad ai al aq ++ FM cy am mi ml)) (hS : va_S (FA s) s.heap H locs) {ls : Array Slot} (hl : lv_has ls 7 [(4, .int 0), (3, .ref qo), (2, .ref (am 0)), (1, .ref (ad 0)), (0, .ref b)]) : W p l e room_1 s m #[Value.ref b] below meth c H locs 237 23836 (lw_Z below #[Value.ref b] s) (F0 m 1432 ls []) := by
  obtain ⟨hx, hb, hr, hml, hown, htsL, hXs, hbl, hlocks, hgv⟩ := id C0
  have hown : s.vm.findClass RL = some m.cls := hown
  have hts : ∀ w ∈ GW, w.before #[Value.ref b] s = true := fun w hw => htsL w (List.mem_filter.mp hw).1
  have hA : ∀ q : Nat, s.heap.size ≤ q → FA s q := fun _ h => h
  have hbA : ¬ FA s b := Nat.not_le.mpr hbl
  refine lv_aload_n hx hb dL_law_1432 rfl (lv_at hl 3 rfl) ?_
  refine lv_aload_n hx hb dL_law_1433 rfl (lv_at hl 4 rfl) ?_
  refine lv_iload hx hb dL_law_1434 (lv_at hl 0 rfl) ?_
  refine lv_iconst (v := 1) hx hb dL_law_1436 (by decide) ?_
  refine lv_iadd hx hb dL_law_1437 ?_
  refine as_i 1 (by decide) ?_
  refine va_sld hx hb hXs hbl hbA hS (show vp_in 1 6 from vp_in_nI (n := 1) (by decide) (by decide)) dL_law_1438 ?_
  refine as_i (xs 1) rfl ?_
  refine jr_i (rVr (As := [.int (xs 1)]) (rest := []) (ci := 11) ⟨hx, hb, hml, hown, hts⟩ (k_count l dC dI cy ad (xs 1) ) (cw_L_190 hts rfl rfl ⟨Nat.le_of_ble_eq_true rfl, Nat.le_of_ble_eq_true rfl⟩) hP hK [0, 1, 22, 23] rfl rfl rfl rfl hl.1 rfl (Nat.le_of_ble_eq_true rfl) dL_law_1439 ⟨Nat.le_of_ble_eq_true rfl, Nat.le_of_ble_eq_true rfl⟩) hP hS (fun r_1 H locs hp_2 hP hS => ?_)
  refine as_i (cntF (xs 1)) hp_2 ?_
  refine lv_aload_n hx hb dL_law_1442 rfl (lv_at hl 2 rfl) ?_
  refine lv_aload_n hx hb dL_law_1443 rfl (lv_at hl 4 rfl) ?_
  refine lv_iload hx hb dL_law_1444 (lv_at hl 0 rfl) ?_
  refine lv_iconst (v := 1) hx hb dL_law_1446 (by decide) ?_
  refine lv_iadd hx hb dL_law_1447 ?_
  refine as_i 1 (by decide) ?_
  refine va_sld hx hb hXs hbl hbA hS (show vp_in 1 6 from vp_in_nI (n := 1) (by decide) (by decide)) dL_law_1448 ?_
  refine as_i (xs 1) rfl ?_
  refine jn_i (wr := []) (rV (As := [.int (xs 1)]) (rest := [.int (cntF (xs 1))]) (ci := 12) ⟨hx, hb, hml, hown, hts⟩ (m_count l dC dI cy _ am mi (xs 1) hM.1) (cw_L_193 hts rfl rfl ⟨Nat.le_of_ble_eq_true rfl, Nat.le_of_ble_eq_true rfl⟩) hP hD hK [114, 116] rfl rfl rfl rfl bl0 e0 rfl hl.1 rfl (Nat.le_of_ble_eq_true rfl) dL_law_1449 ⟨Nat.le_of_ble_eq_true rfl, Nat.le_of_ble_eq_true rfl⟩) hP hD hS hA [114, 116] [] rfl rfl rfl (by decide) (fun r_3 u_5 H locs hp_4 hP hD hS => ?_)
  have hp_4 : r_3 = cntF (xs 1) := hp_4
  have hP : va_P (dC, dI) vwCl [] H := hP
  have hD : va_D (FA s) [] := hD
  refine as_i (cntF (xs 1)) hp_4 ?_
  refine lv_icmp_eq (tgt := 1457) hx hb dL_law_1452 (by decide) (fun _ => ?_) (fun c9 => absurd rfl c9)
  exact law_end C0 hS (lv_sub hl [0, 4] rfl) (by decide) (by decide)
