abbrev cL_law : ByteArray := code
abbrev cX2_init : ByteArray := prog_4_method_1_code
def yX2_init : MethodName := ⟨RX2, "<init>", "()V"⟩
abbrev cX0_init : ByteArray := prog_2_method_1_code
def yX0_init : MethodName := ⟨RX0, "<init>", "()V"⟩
abbrev cX3_init : ByteArray := prog_5_method_1_code
def yX3_init : MethodName := ⟨RX3, "<init>", "()V"⟩
abbrev cX7_init : ByteArray := prog_9_method_1_code
def yX7_init : MethodName := ⟨RX7, "<init>", "()V"⟩
abbrev cX9_init : ByteArray := prog_11_method_1_code
def yX9_init : MethodName := ⟨RX9, "<init>", "()V"⟩
abbrev cX1_init : ByteArray := prog_3_method_1_code
def yX1_init : MethodName := ⟨RX1, "<init>", "()V"⟩
abbrev cX6_init : ByteArray := prog_8_method_1_code
def yX6_init : MethodName := ⟨RX6, "<init>", "()V"⟩
def strB : List Int32 := [109, 97, 110, 32, 100, 101, 101, 100, 32, 103, 111, 111, 100, 32, 99, 114, 105, 109, 101, 32, 100, 105, 100, 32, 107, 105, 110, 32, 111, 119, 101, 115, 32, 112, 108, 97, 116, 101, 32, 102, 97, 105, 110, 116, 32, 100, 111, 101, 115, 32, 108, 101, 110, 100, 115, 32, 114, 101, 116, 117, 114, 110, 115, 32, 98, 111, 114, 114, 111, 119, 115, 32, 112, 97, 121, 115, 32, 115, 105, 116, 115, 32, 121, 101, 97, 114, 32, 111, 114, 32, 97, 110, 100, 32, 110, 111, 116, 32, 115, 101, 101, 110, 32, 102, 117, 108, 108, 32, 116, 97, 107, 101, 110, 32, 108, 101, 110, 100, 105, 110, 103, 32, 104, 97, 115, 32, 97, 107, 105, 110, 32, 119, 104, 105, 116, 101, 32, 100, 97, 114, 107, 32, 97, 103, 101, 32, 110, 117, 109, 98, 101, 114, 32]
def strT : String := "man deed good crime did kin owes plate faint does lends returns borrows pays sits year or and not seen full taken lending has akin white dark age number "
/-- what a constructor here asks of its surroundings: the constant text, two static fields, the classes of rows, the private constructors of nest mates; B: cells that are none of these -/
def EnvC (B : Nat → Prop) (kS vS : Nat → Nat) (U : State) : Prop :=
  vk_R "LikenessPound$Tape" 19 strT (kS 0) U ∧ vk_S 1 [153] [strB] kS vS B U U.heap ∧ va_Z "java/lang/String" "COMPACT_STRINGS" "Z" (.int 1) B U U.heap ∧ va_Zq "jdk/internal/util/Preconditions" "SIOOBE_FORMATTER" "Ljava/util/function/BiFunction;" B U U.heap ∧ va_AO "LikenessPound$Life" U ∧ va_AO "LikenessPound$World" U ∧
  va_Nw (.methodLinkNest RX10 18 yX2_init "LikenessPound") U ∧ va_Nw (.methodLinkNest RX10 25 yX0_init "LikenessPound") U ∧ va_Nw (.methodLinkNest RX10 39 yX3_init "LikenessPound") U ∧ va_Nw (.methodLinkNest RX10 46 yX7_init "LikenessPound") U ∧ va_Nw (.methodLinkNest RX10 75 yX9_init "LikenessPound") U ∧ va_Nw (.methodLinkNest RX9 11 yX1_init "LikenessPound") U ∧ va_Nw (.methodLinkNest RX9 27 yX6_init "LikenessPound") U
theorem EnvC.calling {B : Nat → Prop} {kS vS : Nat → Nat} (a : Array Value) (U : State) (g : JFrame) (mk : MethodId) (h : EnvC B kS vS U) : EnvC B kS vS (U.calling g mk a) := by
  obtain ⟨h1, h2, h3, h4, h5, h6, n1, n2, n3, n4, n5, n6, n7⟩ := h
  have hv : U.vm = (U.calling g mk a).vm := rfl
  have ha : U.vm.Alike (U.calling g mk a).vm := Vm.Alike.refl U.vm
  exact ⟨vk_R.same hv.symm h1, vk_S.moved ha h2, va_Z.moved ha h3, va_Zq.moved ha h4, va_AO.moved ha h5, va_AO.moved ha h6, va_Nw.same rfl hv n1, va_Nw.same rfl hv n2, va_Nw.same rfl hv n3, va_Nw.same rfl hv n4, va_Nw.same rfl hv n5, va_Nw.same rfl hv n6, va_Nw.same rfl hv n7⟩
theorem EnvC.at {A B C : Nat → Prop} {kS vS : Nat → Nat} {s : State} {H : Heap} {locs : List Loc} (h : EnvC B kS vS s) (hS : va_S A s.heap H locs) (hAB : ∀ q, A q → B q) (hCB : ∀ q, C q → B q) : ∀ U : State, U.heap = H → s.WarmedH U.vm → EnvC C kS vS U := by
  intro U hU hW
  obtain ⟨h1, h2, h3, h4, h5, h6, n1, n2, n3, n4, n5, n6, n7⟩ := h
  have hk : ∀ a : Nat, a < s.heap.size → ¬ B a → U.heap[a]? = s.heap[a]? := fun a l1 l2 => by rw [hU]; exact hS.2.1 a l1 (fun z => l2 (hAB a z))
  exact ⟨vk_R.warm hW h1, ((vk_S.moved hW.alike h2).kept hk).narrow hCB, ((va_Z.moved hW.alike h3).kept hk).narrow hCB, ((va_Zq.moved hW.alike h4).kept hk).narrow hCB, va_AO.moved hW.alike h5, va_AO.moved hW.alike h6, va_Nw.warmM hW n1, va_Nw.warmM hW n2, va_Nw.warmM hW n3, va_Nw.warmM hW n4, va_Nw.warmM hW n5, va_Nw.warmM hW n6, va_Nw.warmM hW n7⟩
theorem EnvC.narrow {B C : Nat → Prop} {kS vS : Nat → Nat} {s : State} (h : EnvC B kS vS s) (hCB : ∀ q, C q → B q) : EnvC C kS vS s := by
  obtain ⟨h1, h2, h3, h4, h5⟩ := h
  exact ⟨h1, h2.narrow hCB, h3.narrow hCB, h4.narrow hCB, h5⟩
abbrev Pe (kS vS : Nat → Nat) (av : List Value) : Array Value → State → Prop := va_Pc av (EnvC nB kS vS)
/-- a method that only reads, and that the surroundings' facts serve -/
theorem me {l : Launch} {y : MethodName} {cc : ByteArray} {n : Nat} {r : Option FieldType} {rm : Room} {kS vS : Nat → Nat} {av : List Value} {Qc : Array Value → State → Outcome → State → Prop} {mc ms : Nat} (own : String) (ho : y.cls = own) (hy : plainName y.cls = true) (hn : (lg_sl av).length ≤ n)
    (body : ∀ (p : Program) (e : Env) (s : State) (m : MethodId) (below : List Frame) (meth : Method) (c : Code), p.tables.exec = Jvm.exec → c.code = cc → meth.sig.returnType = r → meth.locks = false → ∀ av9 : Array Value, av9 = av.toArray → (∀ w ∈ GW, w.before av9 s = true) → s.vm.findClass own = some m.cls → c.maxLocals = n → EnvC nB kS vS s → va_S nB s.heap s.heap [] → ∀ Q9 : State → Prop, Q9 = MQ below Qc av9 s mc ms nB → ∀ ls : Array Slot, lv_has ls n (lv_args 0 av) → W p l e rm s m av9 below meth c s.heap [] 0 0 Q9 (F0 m 0 ls [])) :
    Met l y (wl y cc n r) rm (Pe kS vS av) Qc mc ms nB := by
  refine Met.ofW (cc := cc) (maxL := n) (ret := r) hy rfl ?_
  intro p e s m args below meth c s₁ B hml hv
  obtain ⟨rfl, hE⟩ := hv
  have hts := atoms_spec (ws := wl y cc n r) B.pre
  have hown : s.vm.findClass y.cls = some m.cls := findClass_of_methodNamed B.named
  rw [ho] at hown
  rw [lg_entry_eq]
  exact body p e s m below meth c B.exec B.bytes B.returns B.notSynchronized _ rfl (fun w hw => hts w (List.mem_cons_of_mem _ hw)) hown hml hE va_S.rf _ rfl _ (lv_entry av hn)
section CE
variable {p : Program} {l : Launch} {e : Env} {R : Room} {s : State} {m : MethodId} {args : Array Value} {below : List Frame} {meth : Method} {c : Code} {H : Heap} {locs : List Loc} {cells slots : Nat} {Q : State → Prop}
variable {cc bytes : ByteArray} {pc nL maxL idx n mc ms : Nat} {ls : Array Slot} {rest As st0 : List Value} {A : Nat → Prop} {b : Nat} {H0 : Heap} {own C : String} {y : MethodName} {ret : Option FieldType} {wsy : List Cond} {rm : Room} {Qc : Array Value → State → Outcome → State → Prop} {free : Addr → Prop} {kS vS : Nat → Nat}
theorem blind_e {av : List Value} : FrameBlind (Pe kS vS av) := fun a U g mk q => ⟨q.1, EnvC.calling a U g mk q.2⟩
theorem rVe (Sx : CallFix p m c cc nL s args GW own) (hM : Met l y wsy rm (Pe kS vS (.ref b :: As)) Qc mc ms free) (cw : CallW R s args own C idx y bytes maxL ret wsy rm mc ms n) (hrv : ∃ cell : Cell, H[b]? = some cell ∧ cell.vm.isStatics = false ∧ s.vm.findClass C = some cell.cls) (hE : ∀ U : State, U.heap = H → s.WarmedH U.vm → EnvC nB kS vS U)
    (hn : As.length = n) (hsize : ls.size = nL) (hst : st0 = As.reverse ++ .ref b :: rest) (hW : (rest.map fun v => v.category).sum ≤ 8) (hdg : decode cc pc = .ok (.invokevirtual idx, 3)) (hf : cells + mc ≤ R.cells ∧ slots + ms ≤ R.slots) :
    va_Run p l e R s m args below meth c H locs cells slots mc ms (F0 m pc ls st0) rest (Qc (Value.ref b :: As).toArray) free :=
  va_runV Sx hM cw ⟨blind_e, hrv, fun U hU hW => ⟨rfl, hE U hU hW⟩⟩ rfl hn hsize hst (lv_room hW) hdg hf
theorem rSe (Sx : CallFix p m c cc nL s args GW own) (hM : Met l y wsy rm (Pe kS vS As) Qc mc ms free) (cw : CallB R s args own idx y bytes maxL ret wsy rm mc ms n ∧ (Cond.static y).before args s = true) (hE : ∀ U : State, U.heap = H → s.WarmedH U.vm → EnvC nB kS vS U)
    (hn : As.length = n) (hsize : ls.size = nL) (hst : st0 = As.reverse ++ rest) (hW : (rest.map fun v => v.category).sum ≤ 8) (hdg : decode cc pc = .ok (.invokestatic idx, 3)) (hf : cells + mc ≤ R.cells ∧ slots + ms ≤ R.slots) :
    va_Run p l e R s m args below meth c H locs cells slots mc ms (F0 m pc ls st0) rest (Qc As.toArray) free :=
  va_runS Sx hM cw ⟨blind_e, fun U hU hW => ⟨rfl, hE U hU hW⟩⟩ rfl hn hsize hst (lv_room hW) hdg hf
theorem je_i {post : Int32 → Prop} {a : Array Value} (hr : va_Run p l e R s m args below meth c H locs cells slots 0 0 (F0 m pc ls st0) rest (Ri post a) (fun _ => False)) (hS : va_S A H0 H locs)
    (kk : ∀ (r : Int32) (H1 : Heap) (locs1 : List Loc), post r → va_S A H0 H1 locs1 → W p l e R s m args below meth c H1 locs1 cells slots Q (F0 m (pc + 3) ls (.int r :: rest))) : W p l e R s m args below meth c H locs cells slots Q (F0 m pc ls st0) :=
  va_calli hr hS (fun _ _ h => h.elim) (fun _ h => h.elim) (fun r _ _ H1 locs1 _ _ hw _ _ hk1 hS1 => kk r H1 locs1 hw hS1)
abbrev Rv : Array Value → State → Outcome → State → Prop := va_Qv (fun (_ : Unit) => True) (fun _ _ => True) (fun _ => False)
theorem je_v {a : Array Value} (hr : va_Run p l e R s m args below meth c H locs cells slots 0 0 (F0 m pc ls st0) rest (Rv a) (fun _ => False)) (hS : va_S A H0 H locs)
    (kk : ∀ (H1 : Heap) (locs1 : List Loc), va_S A H0 H1 locs1 → W p l e R s m args below meth c H1 locs1 cells slots Q (F0 m (pc + 3) ls rest)) : W p l e R s m args below meth c H locs cells slots Q (F0 m pc ls st0) :=
  va_callv hr hS (fun _ _ h => h.elim) (fun _ h => h.elim) (fun _ _ H1 locs1 _ _ hw _ _ hk1 hS1 => kk H1 locs1 hS1)
theorem rr_n {post : Int32 → Prop} {v : Int32} {ty : FieldType} (hx : p.tables.exec = Jvm.exec) (hb : c.code = cc) (hr : meth.sig.returnType = some ty) (hk : meth.locks = false) (hn : narrow ty (.int v) = .int v) (hp : post v) (hS : va_S (fun _ => False) s.heap H locs) (hdg : decode cc pc = .ok (.ireturn, 1)) : W p l e R s m args below meth c H locs cells slots (MQ below (Ri post) args s cells slots (fun _ => False)) (F0 m pc ls [.int v]) :=
  W.zret (v := v) hx hb hr hn (fun t ht hW => ⟨⟨v, (), rfl, hp, trivial⟩, hS.F ht⟩) hS.2.2 hdg
theorem rr_v (hx : p.tables.exec = Jvm.exec) (hb : c.code = cc) (hr : meth.sig.returnType = none) (hk : meth.locks = false) (hS : va_S (fun _ => False) s.heap H locs) (hdg : decode cc pc = .ok (.return_, 1)) : W p l e R s m args below meth c H locs cells slots (MQ below Rv args s cells slots (fun _ => False)) (F0 m pc ls []) :=
  W.vret hx hb hr (fun t ht hW => ⟨⟨(), rfl, trivial, trivial⟩, hS.F ht⟩) hS.2.2 hdg
end CE
theorem Rg0 {n : Nat} {a b : Int} (h1 : a ≤ 0) (h2 : 0 ≤ b) : Rg (fun _ => (0 : Int32)) n a b := fun _ _ => ⟨h1, h2⟩
theorem z_le : (0 : Int) ≤ (0 : Int32).toInt := by decide
theorem z_7 : (0 : Int32).toInt ≤ 7 := by decide
theorem z_10 : (0 : Int32).toInt ≤ 10 := by decide
theorem z_40 : (0 : Int32).toInt ≤ 40 := by decide
theorem z_39 : (0 : Int32).toInt ≤ 39 := by decide
theorem z_ne {n : Int} (h : n ≠ 0) : ¬ (0 : Int32).toInt = n := by
  have : (0 : Int32).toInt = 0 := by decide
  omega
theorem HD0 {o : Nat} : HD (fun _ => (0 : Int32)) o := ⟨⟨z_le, z_7⟩, ⟨z_le, z_10⟩, fun _ _ _ => ⟨z_le, z_40⟩⟩
theorem NO0 {o : Nat} : NO (fun _ => (0 : Int32)) o := fun _ _ => ⟨fun h => absurd h (z_ne (by decide)), fun h => absurd h (z_ne (by decide)), fun h => absurd h (z_ne (by decide)), fun h => absurd h (z_ne (by decide))⟩
theorem SOK0 : SOK (fun _ => (0 : Int32)) (fun _ => (0 : Int32)) := fun _ _ h => absurd h (z_ne (by decide))
theorem NWo0 {o : Nat} : NWo (fun _ => (0 : Int32)) o := ⟨HD0, ⟨z_le, z_39⟩, NO0⟩
theorem KP0 : KP (fun _ => (0 : Int32)) := ⟨NWo0, NWo0⟩
theorem RD0 : RD (fun _ => (0 : Int32)) := HD0
theorem NK0 : NK (fun _ => (0 : Int32)) := NO0
theorem LK0 : LK (fun _ => (0 : Int32)) := ⟨Rg0 (by decide) (by decide), fun _ _ _ => (by decide : (0 : Int32).toInt ≤ 6)⟩
theorem LQ0 : LQ (fun _ => (0 : Int32)) := ⟨LK0, fun _ _ => (by decide : 0 ≤ (0 : Int32).toInt)⟩
theorem rd2 {f1 f2 : Nat → Int32} (e1 : f1 = upd (fun _ => 0) 2 60) (e2 : f2 = upd f1 3 10) : RD f2 := by
  rw [e2, e1]; exact HD.upd (HD.upd HD0 (by omega)) (by omega)
theorem rd2h {f1 f2 : Nat → Int32} (e1 : f1 = upd (fun _ => 0) 2 60) (e2 : f2 = upd f1 3 10) : ∀ j : Nat, f2 j = tkG0 j := by
  intro j
  rw [e2, e1]
  unfold tkG0
  by_cases c3 : j = 3
  · subst c3; rw [pk_us]; rfl
  · rw [pk_un c3]
    by_cases c2 : j = 2
    · subst c2; rw [pk_us]; rfl
    · rw [pk_un c2, if_neg c2, if_neg c3]
def RJ0 : String := "java/lang/String"
abbrev cJ0_coder_7d493 : ByteArray := prog_25_method_152_code
def yJ0_coder_7d493 : MethodName := ⟨RJ0, "coder", "()B"⟩
theorem t51 : Cond.code yJ0_coder_7d493 cJ0_coder_7d493 1 (some .byte) ∈ GW := gw_mem 165 (by decide +kernel) (by decide +kernel)
theorem dJ0_coder_7d493_0 : decode cJ0_coder_7d493 0 = .ok (.getstatic 38, 3) := by decide +kernel
theorem t52 : Cond.fieldLink RJ0 38 "java/lang/String" "COMPACT_STRINGS" "Z" ∈ GW := gw_mem 166 (by decide +kernel) (by decide +kernel)
theorem dJ0_coder_7d493_3 : decode cJ0_coder_7d493 3 = .ok (.ifCond .eq 10, 3) := by decide +kernel
theorem dJ0_coder_7d493_6 : decode cJ0_coder_7d493 6 = .ok (.aload_n 0, 1) := by decide +kernel
theorem dJ0_coder_7d493_7 : decode cJ0_coder_7d493 7 = .ok (.getfield 15, 3) := by decide +kernel
theorem t2102 : Cond.fieldLink RJ0 15 "java/lang/String" "coder" "B" ∈ GW := gw_mem 2216 (by decide +kernel) (by decide +kernel)
theorem dJ0_coder_7d493_10 : decode cJ0_coder_7d493 10 = .ok (.goto 4, 3) := by decide +kernel
theorem dJ0_coder_7d493_14 : decode cJ0_coder_7d493 14 = .ok (.ireturn, 1) := by decide +kernel
set_option maxHeartbeats 4000000 in
set_option maxRecDepth 100000 in
theorem j_coder (l : Launch) (kS vS : Nat → Nat)   : Met l yJ0_coder_7d493 (wl yJ0_coder_7d493 cJ0_coder_7d493 1 (some .byte)) ({ frames := 0, cells := 0, slots := 0, locals := 0 }) (Pe kS vS [.ref (kS 0)]) (Ri (fun r => r = 0)) 0 0 nB := by
  refine me RJ0 rfl (by decide +kernel) (Nat.le_of_ble_eq_true rfl) ?_
  intro p e s m below meth c hx hb hr hlocks av9 hav hts hown hml hEA hS Q9 hQ9 ls hl
  have hl : lv_has ls 1 [(0, .ref (kS 0))] := hl
  refine va_gets hx hb hEA.2.2.1 hS hown (hts _ t52) (fun _ h => h) dJ0_coder_7d493_0 ?_
  refine lv_if_eq (tgt := 13) hx hb dJ0_coder_7d493_3 (by decide) (fun c9 => absurd c9 (by decide)) (fun _ => ?_)
  refine lv_aload_n hx hb dJ0_coder_7d493_6 rfl (lv_at hl 0 rfl) ?_
  refine vk_getf hx hb (hEA.2.1.1 0 (by decide)).2.1 hS hown (hts _ t2102) (fun _ h => h) dJ0_coder_7d493_7 ?_
  refine lv_goto (tgt := 14) hx hb dJ0_coder_7d493_10 (by decide) ?_
  rw [hQ9]
  exact rr_n hx hb hr hlocks rfl rfl hS dJ0_coder_7d493_14
abbrev cJ0_isLatin1_aae02 : ByteArray := prog_25_method_154_code
def yJ0_isLatin1_aae02 : MethodName := ⟨RJ0, "isLatin1", "()Z"⟩
theorem t61 : Cond.code yJ0_isLatin1_aae02 cJ0_isLatin1_aae02 1 (some .boolean) ∈ GW := gw_mem 175 (by decide +kernel) (by decide +kernel)
theorem dJ0_isLatin1_aae02_0 : decode cJ0_isLatin1_aae02 0 = .ok (.getstatic 38, 3) := by decide +kernel
theorem dJ0_isLatin1_aae02_3 : decode cJ0_isLatin1_aae02 3 = .ok (.ifCond .eq 14, 3) := by decide +kernel
theorem dJ0_isLatin1_aae02_6 : decode cJ0_isLatin1_aae02 6 = .ok (.aload_n 0, 1) := by decide +kernel
theorem dJ0_isLatin1_aae02_7 : decode cJ0_isLatin1_aae02 7 = .ok (.getfield 15, 3) := by decide +kernel
theorem dJ0_isLatin1_aae02_10 : decode cJ0_isLatin1_aae02 10 = .ok (.ifCond .ne 7, 3) := by decide +kernel
theorem dJ0_isLatin1_aae02_13 : decode cJ0_isLatin1_aae02 13 = .ok (.iconst 1, 1) := by decide +kernel
theorem dJ0_isLatin1_aae02_14 : decode cJ0_isLatin1_aae02 14 = .ok (.goto 4, 3) := by decide +kernel
theorem dJ0_isLatin1_aae02_18 : decode cJ0_isLatin1_aae02 18 = .ok (.ireturn, 1) := by decide +kernel
set_option maxHeartbeats 4000000 in
set_option maxRecDepth 100000 in
theorem j_isLatin1 (l : Launch) (kS vS : Nat → Nat)   : Met l yJ0_isLatin1_aae02 (wl yJ0_isLatin1_aae02 cJ0_isLatin1_aae02 1 (some .boolean)) ({ frames := 0, cells := 0, slots := 0, locals := 0 }) (Pe kS vS [.ref (kS 0)]) (Ri (fun r => r = 1)) 0 0 nB := by
  refine me RJ0 rfl (by decide +kernel) (Nat.le_of_ble_eq_true rfl) ?_
  intro p e s m below meth c hx hb hr hlocks av9 hav hts hown hml hEA hS Q9 hQ9 ls hl
  have hl : lv_has ls 1 [(0, .ref (kS 0))] := hl
  refine va_gets hx hb hEA.2.2.1 hS hown (hts _ t52) (fun _ h => h) dJ0_isLatin1_aae02_0 ?_
  refine lv_if_eq (tgt := 17) hx hb dJ0_isLatin1_aae02_3 (by decide) (fun c9 => absurd c9 (by decide)) (fun _ => ?_)
  refine lv_aload_n hx hb dJ0_isLatin1_aae02_6 rfl (lv_at hl 0 rfl) ?_
  refine vk_getf hx hb (hEA.2.1.1 0 (by decide)).2.1 hS hown (hts _ t2102) (fun _ h => h) dJ0_isLatin1_aae02_7 ?_
  refine lv_if_ne (tgt := 17) hx hb dJ0_isLatin1_aae02_10 (by decide) (fun c9 => absurd c9 (by decide)) (fun _ => ?_)
  refine lv_iconst (v := 1) hx hb dJ0_isLatin1_aae02_13 (by decide) ?_
  refine lv_goto (tgt := 18) hx hb dJ0_isLatin1_aae02_14 (by decide) ?_
  rw [hQ9]
  exact rr_n hx hb hr hlocks rfl rfl hS dJ0_isLatin1_aae02_18
abbrev cJ0_length_8abf5 : ByteArray := prog_25_method_54_code
def yJ0_length_8abf5 : MethodName := ⟨RJ0, "length", "()I"⟩
theorem t47 : Cond.code yJ0_length_8abf5 cJ0_length_8abf5 1 (some .int) ∈ GW := gw_mem 161 (by decide +kernel) (by decide +kernel)
theorem dJ0_length_8abf5_0 : decode cJ0_length_8abf5 0 = .ok (.aload_n 0, 1) := by decide +kernel
theorem dJ0_length_8abf5_1 : decode cJ0_length_8abf5 1 = .ok (.getfield 9, 3) := by decide +kernel
theorem t2101 : Cond.fieldLink RJ0 9 "java/lang/String" "value" "[B" ∈ GW := gw_mem 2215 (by decide +kernel) (by decide +kernel)
theorem dJ0_length_8abf5_4 : decode cJ0_length_8abf5 4 = .ok (.arraylength, 1) := by decide +kernel
theorem dJ0_length_8abf5_5 : decode cJ0_length_8abf5 5 = .ok (.aload_n 0, 1) := by decide +kernel
theorem dJ0_length_8abf5_6 : decode cJ0_length_8abf5 6 = .ok (.invokevirtual 335, 3) := by decide +kernel
theorem t48 : Cond.methodLink RJ0 335 yJ0_coder_7d493 ∈ GW := gw_mem 162 (by decide +kernel) (by decide +kernel)
theorem t3 : Cond.initialized RJ0 ∈ GW := gw_mem 117 (by decide +kernel) (by decide +kernel)
theorem t49 : Cond.instanceMethod yJ0_coder_7d493 ∈ GW := gw_mem 163 (by decide +kernel) (by decide +kernel)
theorem t50 : Cond.selects RJ0 yJ0_coder_7d493 yJ0_coder_7d493 ∈ GW := gw_mem 164 (by decide +kernel) (by decide +kernel)
theorem cw_J0_335 {R : Room} {s : State} {args : Array Value} {rm : Room} {mc ms : Nat} (hts : ∀ w ∈ GW, w.before args s = true) (hrc : rm.cells = mc) (hrs : rm.slots = ms) (hR : rm.frames + 1 ≤ R.frames ∧ 8 + (1 + 11) + rm.locals ≤ R.locals) : CallW R s args RJ0 RJ0 335 yJ0_coder_7d493 cJ0_coder_7d493 1 (some .byte) (wl yJ0_coder_7d493 cJ0_coder_7d493 1 (some .byte)) rm mc ms 0 := cwV 0 hts (gi_V t48 t49 t50 t3 t51) rfl hrc hrs (by decide +kernel) hR
theorem dJ0_length_8abf5_9 : decode cJ0_length_8abf5 9 = .ok (.ishr, 1) := by decide +kernel
theorem dJ0_length_8abf5_10 : decode cJ0_length_8abf5 10 = .ok (.ireturn, 1) := by decide +kernel
set_option maxHeartbeats 4000000 in
set_option maxRecDepth 100000 in
theorem j_length (l : Launch) (kS vS : Nat → Nat)   : Met l yJ0_length_8abf5 (wl yJ0_length_8abf5 cJ0_length_8abf5 1 (some .int)) ({ frames := 1, cells := 0, slots := 0, locals := 64 }) (Pe kS vS [.ref (kS 0)]) (Ri (fun r => r = 153)) 0 0 nB := by
  refine me RJ0 rfl (by decide +kernel) (Nat.le_of_ble_eq_true rfl) ?_
  intro p e s m below meth c hx hb hr hlocks av9 hav hts hown hml hEA hS Q9 hQ9 ls hl
  have hl : lv_has ls 1 [(0, .ref (kS 0))] := hl
  refine lv_aload_n hx hb dJ0_length_8abf5_0 rfl (lv_at hl 0 rfl) ?_
  refine vk_getf hx hb (hEA.2.1.1 0 (by decide)).2.2.1 hS hown (hts _ t2101) (fun _ h => h) dJ0_length_8abf5_1 ?_
  refine va_tlen (v := 153) hx hb (hEA.2.1.1 0 (by decide)).2.2.2 hS rfl dJ0_length_8abf5_4 ?_
  refine lv_aload_n hx hb dJ0_length_8abf5_5 rfl (lv_at hl 0 rfl) ?_
  refine je_i (rVe (As := []) (rest := [.int 153]) ⟨hx, hb, hml, hown, hts⟩ (j_coder l kS vS  ) (cw_J0_335 hts rfl rfl ⟨Nat.le_of_ble_eq_true rfl, Nat.le_of_ble_eq_true rfl⟩) (vk_recv (i := 0) hEA.2.1 (by decide) hS) (EnvC.at hEA hS (fun _ h => h) (fun _ h => h)) rfl hl.1 rfl (Nat.le_of_ble_eq_true rfl) dJ0_length_8abf5_6 ⟨Nat.le_of_ble_eq_true rfl, Nat.le_of_ble_eq_true rfl⟩) hS (fun r_1 H locs hp_2 hS => ?_)
  refine as_i 0 hp_2 ?_
  refine lv_ishr hx hb dJ0_length_8abf5_9 ?_
  rw [hQ9]
  exact rr_n hx hb hr hlocks rfl rfl hS dJ0_length_8abf5_10
def RJ3 : String := "jdk/internal/util/Preconditions"
abbrev cJ3_checkIndex_8e157 : ByteArray := prog_36_method_11_code
def yJ3_checkIndex_8e157 : MethodName := ⟨RJ3, "checkIndex", "(IILjava/util/function/BiFunction;)I"⟩
theorem t72 : Cond.code yJ3_checkIndex_8e157 cJ3_checkIndex_8e157 3 (some .int) ∈ GW := gw_mem 186 (by decide +kernel) (by decide +kernel)
theorem dJ3_checkIndex_8e157_0 : decode cJ3_checkIndex_8e157 0 = .ok (.iload_n 0, 1) := by decide +kernel
theorem dJ3_checkIndex_8e157_1 : decode cJ3_checkIndex_8e157 1 = .ok (.ifCond .lt 8, 3) := by decide +kernel
theorem dJ3_checkIndex_8e157_4 : decode cJ3_checkIndex_8e157 4 = .ok (.iload_n 0, 1) := by decide +kernel
theorem dJ3_checkIndex_8e157_5 : decode cJ3_checkIndex_8e157 5 = .ok (.iload_n 1, 1) := by decide +kernel
theorem dJ3_checkIndex_8e157_6 : decode cJ3_checkIndex_8e157 6 = .ok (.if_icmp .lt 10, 3) := by decide +kernel
theorem dJ3_checkIndex_8e157_16 : decode cJ3_checkIndex_8e157 16 = .ok (.iload_n 0, 1) := by decide +kernel
theorem dJ3_checkIndex_8e157_17 : decode cJ3_checkIndex_8e157 17 = .ok (.ireturn, 1) := by decide +kernel
set_option maxHeartbeats 4000000 in
set_option maxRecDepth 100000 in
theorem j_check0 (l : Launch) (kS vS : Nat → Nat) (K : Nat) (hK9 : K < 153) : Met l yJ3_checkIndex_8e157 (wl yJ3_checkIndex_8e157 cJ3_checkIndex_8e157 3 (some .int)) ({ frames := 0, cells := 0, slots := 0, locals := 0 }) (Pe kS vS [.int (nI K), .int 153, .null]) (Ri (fun r => r = nI K)) 0 0 nB := by
  refine me RJ3 rfl (by decide +kernel) (Nat.le_of_ble_eq_true rfl) ?_
  intro p e s m below meth c hx hb hr hlocks av9 hav hts hown hml hEA hS Q9 hQ9 ls hl
  have hl : lv_has ls 3 [(0, .int (nI K)), (1, .int 153), (2, .null)] := hl
  refine lv_iload_n hx hb dJ3_checkIndex_8e157_0 rfl (lv_at hl 0 rfl) ?_
  refine lv_if_lt (tgt := 9) hx hb dJ3_checkIndex_8e157_1 (by decide) (fun c9 => absurd c9 (nI_pos (n := K) (by omega))) (fun _ => ?_)
  refine lv_iload_n hx hb dJ3_checkIndex_8e157_4 rfl (lv_at hl 0 rfl) ?_
  refine lv_iload_n hx hb dJ3_checkIndex_8e157_5 rfl (lv_at hl 1 rfl) ?_
  refine lv_icmp_lt (tgt := 16) hx hb dJ3_checkIndex_8e157_6 (by decide) (fun _ => ?_) (fun c9 => absurd (nI_lt (a := K) (b := 153) (by omega) (by decide)) c9)
  refine lv_iload_n hx hb dJ3_checkIndex_8e157_16 rfl (lv_at hl 0 rfl) ?_
  rw [hQ9]
  exact rr_n hx hb hr hlocks rfl rfl hS dJ3_checkIndex_8e157_17
set_option maxHeartbeats 4000000 in
set_option maxRecDepth 100000 in
theorem j_check1 (l : Launch) (kS vS : Nat → Nat) (K : Nat) (t9 : Nat) (hK9 : K < 153) : Met l yJ3_checkIndex_8e157 (wl yJ3_checkIndex_8e157 cJ3_checkIndex_8e157 3 (some .int)) ({ frames := 0, cells := 0, slots := 0, locals := 0 }) (Pe kS vS [.int (nI K), .int 153, .ref t9]) (Ri (fun r => r = nI K)) 0 0 nB := by
  refine me RJ3 rfl (by decide +kernel) (Nat.le_of_ble_eq_true rfl) ?_
  intro p e s m below meth c hx hb hr hlocks av9 hav hts hown hml hEA hS Q9 hQ9 ls hl
  have hl : lv_has ls 3 [(0, .int (nI K)), (1, .int 153), (2, .ref t9)] := hl
  refine lv_iload_n hx hb dJ3_checkIndex_8e157_0 rfl (lv_at hl 0 rfl) ?_
  refine lv_if_lt (tgt := 9) hx hb dJ3_checkIndex_8e157_1 (by decide) (fun c9 => absurd c9 (nI_pos (n := K) (by omega))) (fun _ => ?_)
  refine lv_iload_n hx hb dJ3_checkIndex_8e157_4 rfl (lv_at hl 0 rfl) ?_
  refine lv_iload_n hx hb dJ3_checkIndex_8e157_5 rfl (lv_at hl 1 rfl) ?_
  refine lv_icmp_lt (tgt := 16) hx hb dJ3_checkIndex_8e157_6 (by decide) (fun _ => ?_) (fun c9 => absurd (nI_lt (a := K) (b := 153) (by omega) (by decide)) c9)
  refine lv_iload_n hx hb dJ3_checkIndex_8e157_16 rfl (lv_at hl 0 rfl) ?_
  rw [hQ9]
  exact rr_n hx hb hr hlocks rfl rfl hS dJ3_checkIndex_8e157_17
abbrev cJ0_checkIndex_df160 : ByteArray := prog_25_method_155_code
def yJ0_checkIndex_df160 : MethodName := ⟨RJ0, "checkIndex", "(II)V"⟩
theorem t67 : Cond.code yJ0_checkIndex_df160 cJ0_checkIndex_df160 2 none ∈ GW := gw_mem 181 (by decide +kernel) (by decide +kernel)
theorem dJ0_checkIndex_df160_0 : decode cJ0_checkIndex_df160 0 = .ok (.iload_n 0, 1) := by decide +kernel
theorem dJ0_checkIndex_df160_1 : decode cJ0_checkIndex_df160 1 = .ok (.iload_n 1, 1) := by decide +kernel
theorem dJ0_checkIndex_df160_2 : decode cJ0_checkIndex_df160 2 = .ok (.getstatic 1053, 3) := by decide +kernel
theorem t68 : Cond.fieldLink RJ0 1053 "jdk/internal/util/Preconditions" "SIOOBE_FORMATTER" "Ljava/util/function/BiFunction;" ∈ GW := gw_mem 182 (by decide +kernel) (by decide +kernel)
theorem dJ0_checkIndex_df160_5 : decode cJ0_checkIndex_df160 5 = .ok (.invokestatic 1059, 3) := by decide +kernel
theorem t70 : Cond.methodLink RJ0 1059 yJ3_checkIndex_8e157 ∈ GW := gw_mem 184 (by decide +kernel) (by decide +kernel)
theorem t5 : Cond.initialized RJ3 ∈ GW := gw_mem 119 (by decide +kernel) (by decide +kernel)
theorem t71 : Cond.static yJ3_checkIndex_8e157 ∈ GW := gw_mem 185 (by decide +kernel) (by decide +kernel)
theorem cw_J0_1059 {R : Room} {s : State} {args : Array Value} {rm : Room} {mc ms : Nat} (hts : ∀ w ∈ GW, w.before args s = true) (hrc : rm.cells = mc) (hrs : rm.slots = ms) (hR : rm.frames + 1 ≤ R.frames ∧ 8 + (3 + 11) + rm.locals ≤ R.locals) : CallB R s args RJ0 1059 yJ3_checkIndex_8e157 cJ3_checkIndex_8e157 3 (some .int) (wl yJ3_checkIndex_8e157 cJ3_checkIndex_8e157 3 (some .int)) rm mc ms 3 ∧ (Cond.static yJ3_checkIndex_8e157).before args s = true := va_cwS 3 hts (gi_S t70 t71 t5 t72) rfl hrc hrs (by decide +kernel) hR
theorem dJ0_checkIndex_df160_8 : decode cJ0_checkIndex_df160 8 = .ok (.pop, 1) := by decide +kernel
theorem dJ0_checkIndex_df160_9 : decode cJ0_checkIndex_df160 9 = .ok (.return_, 1) := by decide +kernel
set_option maxHeartbeats 4000000 in
set_option maxRecDepth 100000 in
theorem j_check (l : Launch) (kS vS : Nat → Nat) (K : Nat) (hK9 : K < 153) : Met l yJ0_checkIndex_df160 (wl yJ0_checkIndex_df160 cJ0_checkIndex_df160 2 none) ({ frames := 1, cells := 0, slots := 0, locals := 64 }) (Pe kS vS [.int (nI K), .int 153]) (Rv) 0 0 nB := by
  refine me RJ0 rfl (by decide +kernel) (Nat.le_of_ble_eq_true rfl) ?_
  intro p e s m below meth c hx hb hr hlocks av9 hav hts hown hml hEA hS Q9 hQ9 ls hl
  have hl : lv_has ls 2 [(0, .int (nI K)), (1, .int 153)] := hl
  refine lv_iload_n hx hb dJ0_checkIndex_df160_0 rfl (lv_at hl 0 rfl) ?_
  refine lv_iload_n hx hb dJ0_checkIndex_df160_1 rfl (lv_at hl 1 rfl) ?_
  rcases hEA.2.2.2.1 with hz9 | ⟨t9, hz9⟩
  · refine va_gets hx hb hz9 hS hown (hts _ t68) (fun _ h => h) dJ0_checkIndex_df160_2 ?_
    refine je_i (rSe (As := [.int (nI K), .int 153, .null]) (rest := []) ⟨hx, hb, hml, hown, hts⟩ (j_check0 l kS vS K (by omega)) (cw_J0_1059 hts rfl rfl ⟨Nat.le_of_ble_eq_true rfl, Nat.le_of_ble_eq_true rfl⟩) (EnvC.at hEA hS (fun _ h => h) (fun _ h => h)) rfl hl.1 rfl (Nat.le_of_ble_eq_true rfl) dJ0_checkIndex_df160_5 ⟨Nat.le_of_ble_eq_true rfl, Nat.le_of_ble_eq_true rfl⟩) hS (fun r_1 H locs hp_2 hS => ?_)
    refine as_i (nI K) hp_2 ?_
    refine lv_pop hx hb dJ0_checkIndex_df160_8 rfl ?_
    rw [hQ9]
    exact rr_v hx hb hr hlocks hS dJ0_checkIndex_df160_9
  · refine va_gets hx hb hz9 hS hown (hts _ t68) (fun _ h => h) dJ0_checkIndex_df160_2 ?_
    refine je_i (rSe (As := [.int (nI K), .int 153, .ref t9]) (rest := []) ⟨hx, hb, hml, hown, hts⟩ (j_check1 l kS vS K t9 (by omega)) (cw_J0_1059 hts rfl rfl ⟨Nat.le_of_ble_eq_true rfl, Nat.le_of_ble_eq_true rfl⟩) (EnvC.at hEA hS (fun _ h => h) (fun _ h => h)) rfl hl.1 rfl (Nat.le_of_ble_eq_true rfl) dJ0_checkIndex_df160_5 ⟨Nat.le_of_ble_eq_true rfl, Nat.le_of_ble_eq_true rfl⟩) hS (fun r_3 H locs hp_4 hS => ?_)
    refine as_i (nI K) hp_4 ?_
    refine lv_pop hx hb dJ0_checkIndex_df160_8 rfl ?_
    rw [hQ9]
    exact rr_v hx hb hr hlocks hS dJ0_checkIndex_df160_9
def RJ1 : String := "java/lang/StringLatin1"
abbrev cJ1_charAt_3b067 : ByteArray := prog_27_method_2_code
def yJ1_charAt_3b067 : MethodName := ⟨RJ1, "charAt", "([BI)C"⟩
theorem t64 : Cond.code yJ1_charAt_3b067 cJ1_charAt_3b067 2 (some .char) ∈ GW := gw_mem 178 (by decide +kernel) (by decide +kernel)
theorem dJ1_charAt_3b067_0 : decode cJ1_charAt_3b067 0 = .ok (.iload_n 1, 1) := by decide +kernel
theorem dJ1_charAt_3b067_1 : decode cJ1_charAt_3b067 1 = .ok (.aload_n 0, 1) := by decide +kernel
theorem dJ1_charAt_3b067_2 : decode cJ1_charAt_3b067 2 = .ok (.arraylength, 1) := by decide +kernel
theorem dJ1_charAt_3b067_3 : decode cJ1_charAt_3b067 3 = .ok (.invokestatic 9, 3) := by decide +kernel
theorem t65 : Cond.methodLink RJ1 9 yJ0_checkIndex_df160 ∈ GW := gw_mem 179 (by decide +kernel) (by decide +kernel)
theorem t66 : Cond.static yJ0_checkIndex_df160 ∈ GW := gw_mem 180 (by decide +kernel) (by decide +kernel)
theorem cw_J1_9 {R : Room} {s : State} {args : Array Value} {rm : Room} {mc ms : Nat} (hts : ∀ w ∈ GW, w.before args s = true) (hrc : rm.cells = mc) (hrs : rm.slots = ms) (hR : rm.frames + 1 ≤ R.frames ∧ 8 + (2 + 11) + rm.locals ≤ R.locals) : CallB R s args RJ1 9 yJ0_checkIndex_df160 cJ0_checkIndex_df160 2 none (wl yJ0_checkIndex_df160 cJ0_checkIndex_df160 2 none) rm mc ms 2 ∧ (Cond.static yJ0_checkIndex_df160).before args s = true := va_cwS 2 hts (gi_S t65 t66 t3 t67) rfl hrc hrs (by decide +kernel) hR
theorem dJ1_charAt_3b067_6 : decode cJ1_charAt_3b067 6 = .ok (.aload_n 0, 1) := by decide +kernel
theorem dJ1_charAt_3b067_7 : decode cJ1_charAt_3b067 7 = .ok (.iload_n 1, 1) := by decide +kernel
theorem dJ1_charAt_3b067_8 : decode cJ1_charAt_3b067 8 = .ok (.baload, 1) := by decide +kernel
theorem dJ1_charAt_3b067_9 : decode cJ1_charAt_3b067 9 = .ok (.sipush 255, 3) := by decide +kernel
theorem dJ1_charAt_3b067_12 : decode cJ1_charAt_3b067 12 = .ok (.iand, 1) := by decide +kernel
theorem dJ1_charAt_3b067_13 : decode cJ1_charAt_3b067 13 = .ok (.i2c, 1) := by decide +kernel
theorem dJ1_charAt_3b067_14 : decode cJ1_charAt_3b067 14 = .ok (.ireturn, 1) := by decide +kernel
set_option maxHeartbeats 4000000 in
set_option maxRecDepth 100000 in
theorem j_char1 (l : Launch) (kS vS : Nat → Nat) (K : Nat) (hK9 : K < 153) : Met l yJ1_charAt_3b067 (wl yJ1_charAt_3b067 cJ1_charAt_3b067 2 (some .char)) ({ frames := 2, cells := 0, slots := 0, locals := 128 }) (Pe kS vS [.ref (vS 0), .int (nI K)]) (Ri (fun r => r = strB.getD K 0 &&& 255)) 0 0 nB := by
  refine me RJ1 rfl (by decide +kernel) (Nat.le_of_ble_eq_true rfl) ?_
  intro p e s m below meth c hx hb hr hlocks av9 hav hts hown hml hEA hS Q9 hQ9 ls hl
  have hl : lv_has ls 2 [(0, .ref (vS 0)), (1, .int (nI K))] := hl
  refine lv_iload_n hx hb dJ1_charAt_3b067_0 rfl (lv_at hl 1 rfl) ?_
  refine lv_aload_n hx hb dJ1_charAt_3b067_1 rfl (lv_at hl 0 rfl) ?_
  refine va_tlen (v := 153) hx hb (hEA.2.1.1 0 (by decide)).2.2.2 hS rfl dJ1_charAt_3b067_2 ?_
  refine je_v (rSe (As := [.int (nI K), .int 153]) (rest := []) ⟨hx, hb, hml, hown, hts⟩ (j_check l kS vS K (by omega)) (cw_J1_9 hts rfl rfl ⟨Nat.le_of_ble_eq_true rfl, Nat.le_of_ble_eq_true rfl⟩) (EnvC.at hEA hS (fun _ h => h) (fun _ h => h)) rfl hl.1 rfl (Nat.le_of_ble_eq_true rfl) dJ1_charAt_3b067_3 ⟨Nat.le_of_ble_eq_true rfl, Nat.le_of_ble_eq_true rfl⟩) hS (fun H locs hS => ?_)
  refine lv_aload_n hx hb dJ1_charAt_3b067_6 rfl (lv_at hl 0 rfl) ?_
  refine lv_iload_n hx hb dJ1_charAt_3b067_7 rfl (lv_at hl 1 rfl) ?_
  refine va_tb hx hb (hEA.2.1.1 0 (by decide)).2.2.2 hS (show vp_in (nI K) 153 from vp_in_nI (by omega) (by decide)) rfl dJ1_charAt_3b067_8 ?_
  refine lv_topi (fun b_3 eb_3 => ?_)
  refine as_i (strB.getD K 0) (by rw [eb_3, nI_clamp (n := K) (by omega)]; rfl) ?_
  refine lv_sipush (v := 255) hx hb dJ1_charAt_3b067_9 (by decide) ?_
  refine lv_iand hx hb dJ1_charAt_3b067_12 ?_
  refine lv_i2c (v := (strB.getD K 0) &&& 255) hx hb dJ1_charAt_3b067_13 (sc_c2 _) ?_
  rw [hQ9]
  exact rr_n hx hb hr hlocks (sc_nar _) rfl hS dJ1_charAt_3b067_14
abbrev cJ0_charAt_5068e : ByteArray := prog_25_method_56_code
def yJ0_charAt_5068e : MethodName := ⟨RJ0, "charAt", "(I)C"⟩
theorem t57 : Cond.code yJ0_charAt_5068e cJ0_charAt_5068e 2 (some .char) ∈ GW := gw_mem 171 (by decide +kernel) (by decide +kernel)
theorem dJ0_charAt_5068e_0 : decode cJ0_charAt_5068e 0 = .ok (.aload_n 0, 1) := by decide +kernel
theorem dJ0_charAt_5068e_1 : decode cJ0_charAt_5068e 1 = .ok (.invokevirtual 492, 3) := by decide +kernel
theorem t58 : Cond.methodLink RJ0 492 yJ0_isLatin1_aae02 ∈ GW := gw_mem 172 (by decide +kernel) (by decide +kernel)
theorem t59 : Cond.instanceMethod yJ0_isLatin1_aae02 ∈ GW := gw_mem 173 (by decide +kernel) (by decide +kernel)
theorem t60 : Cond.selects RJ0 yJ0_isLatin1_aae02 yJ0_isLatin1_aae02 ∈ GW := gw_mem 174 (by decide +kernel) (by decide +kernel)
theorem cw_J0_492 {R : Room} {s : State} {args : Array Value} {rm : Room} {mc ms : Nat} (hts : ∀ w ∈ GW, w.before args s = true) (hrc : rm.cells = mc) (hrs : rm.slots = ms) (hR : rm.frames + 1 ≤ R.frames ∧ 8 + (1 + 11) + rm.locals ≤ R.locals) : CallW R s args RJ0 RJ0 492 yJ0_isLatin1_aae02 cJ0_isLatin1_aae02 1 (some .boolean) (wl yJ0_isLatin1_aae02 cJ0_isLatin1_aae02 1 (some .boolean)) rm mc ms 0 := cwV 0 hts (gi_V t58 t59 t60 t3 t61) rfl hrc hrs (by decide +kernel) hR
theorem dJ0_charAt_5068e_4 : decode cJ0_charAt_5068e 4 = .ok (.ifCond .eq 12, 3) := by decide +kernel
theorem dJ0_charAt_5068e_7 : decode cJ0_charAt_5068e 7 = .ok (.aload_n 0, 1) := by decide +kernel
theorem dJ0_charAt_5068e_8 : decode cJ0_charAt_5068e 8 = .ok (.getfield 9, 3) := by decide +kernel
theorem dJ0_charAt_5068e_11 : decode cJ0_charAt_5068e 11 = .ok (.iload_n 1, 1) := by decide +kernel
theorem dJ0_charAt_5068e_12 : decode cJ0_charAt_5068e 12 = .ok (.invokestatic 495, 3) := by decide +kernel
theorem t62 : Cond.methodLink RJ0 495 yJ1_charAt_3b067 ∈ GW := gw_mem 176 (by decide +kernel) (by decide +kernel)
theorem t4 : Cond.initialized RJ1 ∈ GW := gw_mem 118 (by decide +kernel) (by decide +kernel)
theorem t63 : Cond.static yJ1_charAt_3b067 ∈ GW := gw_mem 177 (by decide +kernel) (by decide +kernel)
theorem cw_J0_495 {R : Room} {s : State} {args : Array Value} {rm : Room} {mc ms : Nat} (hts : ∀ w ∈ GW, w.before args s = true) (hrc : rm.cells = mc) (hrs : rm.slots = ms) (hR : rm.frames + 1 ≤ R.frames ∧ 8 + (2 + 11) + rm.locals ≤ R.locals) : CallB R s args RJ0 495 yJ1_charAt_3b067 cJ1_charAt_3b067 2 (some .char) (wl yJ1_charAt_3b067 cJ1_charAt_3b067 2 (some .char)) rm mc ms 2 ∧ (Cond.static yJ1_charAt_3b067).before args s = true := va_cwS 2 hts (gi_S t62 t63 t4 t64) rfl hrc hrs (by decide +kernel) hR
theorem dJ0_charAt_5068e_15 : decode cJ0_charAt_5068e 15 = .ok (.ireturn, 1) := by decide +kernel
set_option maxHeartbeats 4000000 in
set_option maxRecDepth 100000 in
theorem j_charAt (l : Launch) (kS vS : Nat → Nat) (K : Nat) (hK9 : K < 153) : Met l yJ0_charAt_5068e (wl yJ0_charAt_5068e cJ0_charAt_5068e 2 (some .char)) ({ frames := 3, cells := 0, slots := 0, locals := 192 }) (Pe kS vS [.ref (kS 0), .int (nI K)]) (Ri (fun r => r = strB.getD K 0 &&& 255)) 0 0 nB := by
  refine me RJ0 rfl (by decide +kernel) (Nat.le_of_ble_eq_true rfl) ?_
  intro p e s m below meth c hx hb hr hlocks av9 hav hts hown hml hEA hS Q9 hQ9 ls hl
  have hl : lv_has ls 2 [(0, .ref (kS 0)), (1, .int (nI K))] := hl
  refine lv_aload_n hx hb dJ0_charAt_5068e_0 rfl (lv_at hl 0 rfl) ?_
  refine je_i (rVe (As := []) (rest := []) ⟨hx, hb, hml, hown, hts⟩ (j_isLatin1 l kS vS  ) (cw_J0_492 hts rfl rfl ⟨Nat.le_of_ble_eq_true rfl, Nat.le_of_ble_eq_true rfl⟩) (vk_recv (i := 0) hEA.2.1 (by decide) hS) (EnvC.at hEA hS (fun _ h => h) (fun _ h => h)) rfl hl.1 rfl (Nat.le_of_ble_eq_true rfl) dJ0_charAt_5068e_1 ⟨Nat.le_of_ble_eq_true rfl, Nat.le_of_ble_eq_true rfl⟩) hS (fun r_1 H locs hp_2 hS => ?_)
  refine as_i 1 hp_2 ?_
  refine lv_if_eq (tgt := 16) hx hb dJ0_charAt_5068e_4 (by decide) (fun c9 => absurd c9 (by decide)) (fun _ => ?_)
  refine lv_aload_n hx hb dJ0_charAt_5068e_7 rfl (lv_at hl 0 rfl) ?_
  refine vk_getf hx hb (hEA.2.1.1 0 (by decide)).2.2.1 hS hown (hts _ t2101) (fun _ h => h) dJ0_charAt_5068e_8 ?_
  refine lv_iload_n hx hb dJ0_charAt_5068e_11 rfl (lv_at hl 1 rfl) ?_
  refine je_i (rSe (As := [.ref (vS 0), .int (nI K)]) (rest := []) ⟨hx, hb, hml, hown, hts⟩ (j_char1 l kS vS K (by omega)) (cw_J0_495 hts rfl rfl ⟨Nat.le_of_ble_eq_true rfl, Nat.le_of_ble_eq_true rfl⟩) (EnvC.at hEA hS (fun _ h => h) (fun _ h => h)) rfl hl.1 rfl (Nat.le_of_ble_eq_true rfl) dJ0_charAt_5068e_12 ⟨Nat.le_of_ble_eq_true rfl, Nat.le_of_ble_eq_true rfl⟩) hS (fun r_3 H locs hp_4 hS => ?_)
  refine as_i (strB.getD K 0 &&& 255) hp_4 ?_
  rw [hQ9]
  exact rr_n hx hb hr hlocks (sc_nar _) rfl hS dJ0_charAt_5068e_15
