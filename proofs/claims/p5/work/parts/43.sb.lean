/-! the builder of a caption: what its code asks of its surroundings, calls up, answers that are references -/
def sbB : List (List Int32) := [[110, 111, 32, 114, 111, 111, 109], [32, 105, 115, 32, 102, 97, 105, 110, 116], [32, 119, 104, 105, 116, 101, 32], [32, 100, 97, 114, 107, 32]]
def dg1 : Nat → Value := fun j => .int (Int32.ofNat (48 + j % 10))
def dg2 : Nat → Value := fun j => .int (Int32.ofNat (48 + j / 10))
abbrev yp0 : MethodName := ⟨"java/lang/AbstractStringBuilder", "ensureCapacityInternal", "(I)V"⟩
abbrev yp1 : MethodName := ⟨"java/lang/AbstractStringBuilder", "newCapacity", "(I)I"⟩
abbrev yp2 : MethodName := ⟨"java/lang/AbstractStringBuilder", "putStringAt", "(ILjava/lang/String;)V"⟩
abbrev yp3 : MethodName := ⟨"java/lang/AbstractStringBuilder", "inflateIfNeededFor", "(Ljava/lang/String;)V"⟩
abbrev SelB (y : MethodName) (U : State) : Prop := (Cond.selects "java/lang/StringBuilder" y y).before #[] U = true
def EnvB (B : Nat → Prop) (kS vS : Nat → Nat) (U : State) : Prop :=
  vk_R "LikenessPound" 330 "no room" (kS 0) U ∧ vk_R "LikenessPound" 342 " is faint" (kS 1) U ∧ vk_R "LikenessPound" 344 " white " (kS 2) U ∧ vk_R "LikenessPound" 349 " dark " (kS 3) U ∧
  vk_S 4 [7, 9, 7, 6] sbB kS vS B U U.heap ∧ va_Z "java/lang/String" "COMPACT_STRINGS" "Z" (.int 1) B U U.heap ∧ va_Zq "jdk/internal/util/Preconditions" "SIOOBE_FORMATTER" "Ljava/util/function/BiFunction;" B U U.heap ∧
  va_Z "java/lang/Integer" "DigitOnes" "[B" (.ref (vS 4)) B U U.heap ∧ va_T .byte (vS 4) 100 dg1 B U U.heap ∧ va_Z "java/lang/Integer" "DigitTens" "[B" (.ref (vS 5)) B U U.heap ∧ va_T .byte (vS 5) 100 dg2 B U U.heap ∧ SelB yp0 U ∧ SelB yp1 U ∧ SelB yp2 U ∧ SelB yp3 U
theorem EnvB.calling {B : Nat → Prop} {kS vS : Nat → Nat} (a : Array Value) (U : State) (g : JFrame) (mk : MethodId) (h : EnvB B kS vS U) : EnvB B kS vS (U.calling g mk a) := by
  obtain ⟨r0, r1, r2, r3, h2, h3, h4, h5, h6, h7, h8, p0, p1, p2, p3⟩ := h
  have hv : U.vm = (U.calling g mk a).vm := rfl
  have ha : U.vm.Alike (U.calling g mk a).vm := Vm.Alike.refl U.vm
  exact ⟨vk_R.same hv.symm r0, vk_R.same hv.symm r1, vk_R.same hv.symm r2, vk_R.same hv.symm r3, vk_S.moved ha h2, va_Z.moved ha h3, va_Zq.moved ha h4, va_Z.moved ha h5, va_T.moved ha h6, va_Z.moved ha h7, va_T.moved ha h8, va_tabs rfl hv p0, va_tabs rfl hv p1, va_tabs rfl hv p2, va_tabs rfl hv p3⟩
theorem EnvB.at {A B C : Nat → Prop} {kS vS : Nat → Nat} {s : State} {H : Heap} {locs : List Loc} (h : EnvB B kS vS s) (hS : va_S A s.heap H locs) (hAB : ∀ q, A q → B q) (hCB : ∀ q, C q → B q) : ∀ U : State, U.heap = H → s.WarmedH U.vm → EnvB C kS vS U := by
  intro U hU hW
  obtain ⟨r0, r1, r2, r3, h2, h3, h4, h5, h6, h7, h8, p0, p1, p2, p3⟩ := h
  have hk : ∀ a : Nat, a < s.heap.size → ¬ B a → U.heap[a]? = s.heap[a]? := fun a l1 l2 => by rw [hU]; exact hS.2.1 a l1 (fun z => l2 (hAB a z))
  exact ⟨vk_R.warm hW r0, vk_R.warm hW r1, vk_R.warm hW r2, vk_R.warm hW r3, ((vk_S.moved hW.alike h2).kept hk).narrow hCB, ((va_Z.moved hW.alike h3).kept hk).narrow hCB, ((va_Zq.moved hW.alike h4).kept hk).narrow hCB, ((va_Z.moved hW.alike h5).kept hk).narrow hCB, ((va_T.moved hW.alike h6).kept hk).narrow hCB, ((va_Z.moved hW.alike h7).kept hk).narrow hCB, ((va_T.moved hW.alike h8).kept hk).narrow hCB, word_at hW (Or.inl rfl) p0, word_at hW (Or.inl rfl) p1, word_at hW (Or.inl rfl) p2, word_at hW (Or.inl rfl) p3⟩
theorem EnvB.narrow {B C : Nat → Prop} {kS vS : Nat → Nat} {s : State} (h : EnvB B kS vS s) (hCB : ∀ q, C q → B q) : EnvB C kS vS s := by
  obtain ⟨r0, r1, r2, r3, h2, h3, h4, h5, h6, h7, h8, p0, p1, p2, p3⟩ := h
  exact ⟨r0, r1, r2, r3, h2.narrow hCB, h3.narrow hCB, h4.narrow hCB, h5.narrow hCB, h6.narrow hCB, h7.narrow hCB, h8.narrow hCB, p0, p1, p2, p3⟩
/-- a private method is the one that is called, whatever the receiver's class -/
theorem vb_sel {C : String} {y z : MethodName} {s : State} {args : Array Value} (hy : y.cls ≠ "java/lang/invoke/MethodHandle" ∧ y.cls ≠ "java/lang/invoke/VarHandle") (hpriv : (Cond.privateMethod y).before args s = true) (hinst : (Cond.instanceMethod y).before args s = true) (h0 : (Cond.selects C z z).before args s = true) (hz : z.cls = y.cls) : (Cond.selects C y y).before args s = true := by
  obtain ⟨c, r2, m2, q1, q2, q3, q4, kP, hkP, hkPi⟩ := Cond.selects_spec h0
  obtain ⟨mk, methM, hnamed, hmethM, -, -⟩ := Cond.instanceMethod_spec hinst
  have hfound : s.methodFound? y.cls y.name y.desc = some mk := State.methodFound?_of_named hnamed hy
  have e : mk.cls = m2.cls := Option.some.inj ((findClass_of_methodNamed hnamed).symm.trans (by rw [← hz]; exact findClass_of_methodNamed q3))
  have hsel : selectMethod {} s.vm c mk = .method mk := selectMethod_private hmethM (Cond.privateMethod_at hpriv mk methM hnamed hmethM)
  simp only [Cond.before, Cond.holds, Cond.value, q1, hfound, hnamed, hsel, e, hkP]
  simp; exact hkPi
theorem vb_cw {R : Room} {s : State} {args : Array Value} {own C : String} {idx mx mc ms : Nat} {y : MethodName} {cc : ByteArray} {r : Option FieldType} {rm : Room} (n : Nat) (hts : ∀ w ∈ GW, w.before args s = true) (hc : Cond.code y cc mx r ∈ GW) (hini : Cond.initialized y.cls ∈ GW) (hl : Cond.methodLink own idx y ∈ GW) (hsm : Cond.sameMethod y.cls y.cls y.name y.desc ∈ GW) (hin : Cond.instanceMethod y ∈ GW) (hsel : (Cond.selects C y y).before args s = true) (hrc : rm.cells = mc) (hrs : rm.slots = ms)
    (hd : y.cls ≠ "java/lang/invoke/MethodHandle" ∧ y.cls ≠ "java/lang/invoke/VarHandle" ∧ (parseMethodDescriptor y.desc).map (fun d => d.parameters.length) = some n) (hR : rm.frames + 1 ≤ R.frames ∧ 8 + (mx + 11) + rm.locals ≤ R.locals) : va_CU R s args own C y.cls idx y y cc mx r (wl y cc mx r) rm mc ms n := by
  refine ⟨⟨hrc, hrs, hR.1, hR.2, pay_in hts (gi_of hc), List.mem_cons_self⟩, hts _ hc, hts _ hini, ⟨hd.1, hd.2.1⟩, fun sig h => ?_, hts _ hl, hts _ hsm, va_Decl.of (hts _ hin) (hts _ hc), hsel, hts _ hin⟩
  have h2 := hd.2.2
  rw [h] at h2
  exact (Option.some.inj h2).symm
abbrev Qr {S : Type} (D : va_G) (cl : List vw_C) (post : S → Prop) (wo : S → va_W) (rf : S → Nat) (A : Nat → Prop) : Array Value → State → Outcome → State → Prop := va_Qr post (fun u a t => a = rf u ∧ Bw D cl A (wo u) t) A
section CB
variable {p : Program} {l : Launch} {e : Env} {R : Room} {s : State} {m : MethodId} {args : Array Value} {below : List Frame} {meth : Method} {c : Code} {H : Heap} {locs : List Loc} {cells slots : Nat} {Q : State → Prop}
variable {cc bytes : ByteArray} {pc nL maxL idx n mc ms ci : Nat} {ls : Array Slot} {rest As st0 : List Value} {A : Nat → Prop} {b : Nat} {H0 : Heap} {own C : String} {y : MethodName} {ret : Option FieldType} {wsy : List Cond} {rm : Room} {Qc : Array Value → State → Outcome → State → Prop} {free : Addr → Prop} {D : va_G} {cl : List vw_C} {cy : Nat → ClassId} {ws wc wr : va_W} {E : State → Prop}
theorem re_r {S : Type} {post : S → Prop} {wo : S → va_W} {rf : S → Nat} {rt : FieldType} (u : S) (hx : p.tables.exec = Jvm.exec) (hb : c.code = cc) (hr : meth.sig.returnType = some rt) (hrt : (∃ n, rt = .object n) ∨ ∃ t, rt = .array t) (hk : meth.locks = false) (hp : post u) (hP : va_P D cl (wo u) H) (hD : va_D A (wo u)) (hS : va_S A s.heap H locs) (hdg : decode cc pc = .ok (.areturn, 1)) : W p l e R s m args below meth c H locs cells slots (MQ below (Qr D cl post wo rf A) args s cells slots A) (F0 m pc ls [.ref (rf u)]) :=
  W.aret (v := .ref (rf u)) hx hb hr hrt (Or.inr ⟨_, rfl⟩) (fun t ht hW => ⟨⟨u, rf u, rfl, hp, rfl, by rw [ht]; exact hP, hD⟩, hS.F ht⟩) hS.2.2 hdg
theorem re_c {S : Type} {post : Int32 → S → Prop} {wo : S → va_W} {v : Int32} {ty : FieldType} (u : S) (hx : p.tables.exec = Jvm.exec) (hb : c.code = cc) (hr : meth.sig.returnType = some ty) (hk : meth.locks = false) (hn : narrow ty (.int v) = .int v) (hp : post v u) (hP : va_P D cl (wo u) H) (hD : va_D A (wo u)) (hS : va_S A s.heap H locs) (hdg : decode cc pc = .ok (.ireturn, 1)) : W p l e R s m args below meth c H locs cells slots (MQ below (Qi D cl post wo A) args s cells slots A) (F0 m pc ls [.int v]) :=
  W.zret (v := v) hx hb hr hn (fun t ht hW => ⟨⟨v, u, rfl, hp, by rw [ht]; exact hP, hD⟩, hS.F ht⟩) hS.2.2 hdg
theorem jn_r {S : Type} {post : S → Prop} {wo : S → va_W} {rf : S → Nat} {a : Array Value} (hr : va_Run p l e R s m args below meth c H locs cells slots mc ms (F0 m pc ls st0) rest (Qr D cl post wo rf (va_A wc H.size) a) (va_A wc H.size)) (hP : va_P D cl ws H) (hD : va_D A ws) (hS : va_S A H0 H locs) (hA : ∀ q : Nat, H0.size ≤ q → A q) (isC isR : List Nat) (hC : isC.map (fun i => ws[i]?) = wc.map some) (hR : isR.map (fun i => ws[i]?) = wr.map some) (hnR : va_nd isR = true) (hdis : ∀ i ∈ isR, i ∉ isC)
    (kk : ∀ (u : S) (H1 : Heap) (locs1 : List Loc), post u → va_P D cl (wr ++ wo u) H1 → va_D A (wr ++ wo u) → va_S A H0 H1 locs1 → W p l e R s m args below meth c H1 locs1 (cells + mc) (slots + ms) Q (F0 m (pc + 3) ls (.ref (rf u) :: rest))) : W p l e R s m args below meth c H locs cells slots Q (F0 m pc ls st0) := by
  have hFc := va_free hD hS hA isC hC
  refine va_callr hr hS (fun q _ h => hFc q h) hFc (fun u ra t H1 locs1 ht hvm hw hB hz1 hk1 hS1 => ?_)
  obtain ⟨hra, hP1, hD1⟩ := hB
  subst hra
  rw [ht] at hP1
  obtain ⟨hP2, hD2⟩ := va_join hP hD isC isR hC hR hnR hdis hk1 hFc hP1 hD1
  exact kk u H1 locs1 hw hP2 hD2 hS1
theorem rVU (Sx : CallFix p m c cc nL s args GW own) (hM : Met l y wsy rm (Pw D cl cy wc H.size (.ref b :: As) E) Qc mc ms free) {owner : String} (cw : va_CU R s args own C owner idx y y bytes maxL ret wsy rm mc ms n) (hP : va_P D cl ws H) (hD : va_D A ws) (hK : va_K D cl (TY cy) s) (isC : List Nat) (hC : isC.map (fun i => ws[i]?) = wc.map some) (hnC : va_nd isC = true) {T : u_T} {N : Nat} {fs : List Value} (hrc : cl[ci]? = some (C, T, N)) (hre : wc[0]? = some (b, .inr (ci, fs)))
    (hbl : ∀ (a : Array Value) (U : State) (g : JFrame) (mk : MethodId), E U → E (U.calling g mk a)) (hE : ∀ U : State, U.heap = H → s.WarmedH U.vm → E U) (hn : As.length = n) (hsize : ls.size = nL) (hst : st0 = As.reverse ++ .ref b :: rest) (hW : (rest.map fun v => v.category).sum ≤ 8) (hdg : decode cc pc = .ok (.invokevirtual idx, 3)) (hf : cells + mc ≤ R.cells ∧ slots + ms ≤ R.slots) :
    va_Run p l e R s m args below meth c H locs cells slots mc ms (F0 m pc ls st0) rest (Qc (Value.ref b :: As).toArray) free := by
  have hPc := hP.sub isC (fm_of hC)
  exact va_runU Sx hM cw ⟨blind_w hbl, va_recv (q := (C, T, N)) hK hPc hrc hre, pre_w hPc (hD.sub isC hnC hC) hK hE⟩ rfl hn hsize hst (lv_room hW) hdg hf
theorem rU (Sx : CallFix p m c cc nL s args GW own) (hM : Met l y wsy rm (Pw D cl cy wc H.size (.ref b :: As) E) Qc mc ms free) (cw : va_CS R s args own idx y bytes maxL ret wsy rm mc ms n) (hP : va_P D cl ws H) (hD : va_D A ws) (hK : va_K D cl (TY cy) s) (isC : List Nat) (hC : isC.map (fun i => ws[i]?) = wc.map some) (hnC : va_nd isC = true) {T : u_T} {N : Nat} {fs : List Value} (hrc : cl[ci]? = some (C, T, N)) (hre : wc[0]? = some (b, .inr (ci, fs)))
    (hbl : ∀ (a : Array Value) (U : State) (g : JFrame) (mk : MethodId), E U → E (U.calling g mk a)) (hE : ∀ U : State, U.heap = H → s.WarmedH U.vm → E U) (hn : As.length = n) (hsize : ls.size = nL) (hst : st0 = As.reverse ++ .ref b :: rest) (hW : (rest.map fun v => v.category).sum ≤ 8) (hdg : decode cc pc = .ok (.invokespecial idx, 3)) (hf : cells + mc ≤ R.cells ∧ slots + ms ≤ R.slots) :
    va_Run p l e R s m args below meth c H locs cells slots mc ms (F0 m pc ls st0) rest (Qc (Value.ref b :: As).toArray) free := by
  have hPc := hP.sub isC (fm_of hC)
  exact va_runSU (hK.1 ci _ hrc).2 Sx hM cw ⟨blind_w hbl, va_recv (q := (C, T, N)) hK hPc hrc hre, pre_w hPc (hD.sub isC hnC hC) hK hE⟩ rfl hn hsize hst (lv_room hW) hdg hf
theorem rVs (Sx : CallFix p m c cc nL s args GW own) (hM : Met l y wsy rm (Pw D cl cy wc H.size (.ref b :: As) E) Qc mc ms free) (cw : CallW R s args own C idx y bytes maxL ret wsy rm mc ms n) (hP : va_P D cl ws H) (hD : va_D A ws) (hK : va_K D cl (TY cy) s) (isC : List Nat) (hC : isC.map (fun i => ws[i]?) = wc.map some) (hnC : va_nd isC = true) (hrv : ∃ cell : Cell, H[b]? = some cell ∧ cell.vm.isStatics = false ∧ s.vm.findClass C = some cell.cls)
    (hbl : ∀ (a : Array Value) (U : State) (g : JFrame) (mk : MethodId), E U → E (U.calling g mk a)) (hE : ∀ U : State, U.heap = H → s.WarmedH U.vm → E U) (hn : As.length = n) (hsize : ls.size = nL) (hst : st0 = As.reverse ++ .ref b :: rest) (hW : (rest.map fun v => v.category).sum ≤ 8) (hdg : decode cc pc = .ok (.invokevirtual idx, 3)) (hf : cells + mc ≤ R.cells ∧ slots + ms ≤ R.slots) :
    va_Run p l e R s m args below meth c H locs cells slots mc ms (F0 m pc ls st0) rest (Qc (Value.ref b :: As).toArray) free := by
  have hPc := hP.sub isC (fm_of hC)
  exact va_runV Sx hM cw ⟨blind_w hbl, hrv, pre_w hPc (hD.sub isC hnC hC) hK hE⟩ rfl hn hsize hst (lv_room hW) hdg hf
end CB
theorem i_len {n : Nat} {z : Int32} (e : z = Int32.ofNat n) (h : n ≤ 1000000) : z.toInt = (n : Int) := by
  rw [e]; exact nI_toInt (n := n) (by omega)
theorem i_neg {x z : Int32} (e : z = -x) (h : -2147483648 < x.toInt) : z.toInt = -x.toInt := by
  have h1 := i_rng x
  rw [e, Int32.toInt_neg]; exact bm_eq (by omega) (by omega)
theorem i_tdiv100 {x z : Int32} (e : z = x / 100) (h : x.toInt ≤ 0) : z.toInt ≤ 0 ∧ x.toInt ≤ 100 * z.toInt ∧ 100 * z.toInt < x.toInt + 100 := by
  have k : (100 : Int32).toInt = 100 := by decide
  have h1 := i_rng x
  have h2 : z.toInt = -((-x.toInt) / 100) := by
    rw [e, Int32.toInt_div, k]
    have h3 : x.toInt.tdiv 100 = -((-x.toInt) / 100) := by
      have h4 := Int.neg_tdiv (a := -x.toInt) (b := 100)
      rw [Int.neg_neg] at h4
      rw [h4, Int.tdiv_eq_ediv_of_nonneg (by omega)]
    rw [h3]
    exact bm_eq (by omega) (by omega)
  omega
theorem nar_fit (v : Int32) : fits .byte (.int (vp_nar .byte v)) = true := pk_fb v
theorem fit_up {f : Nat → Int32} {k : Nat} {v : Int32} (h : sb_Fit f) : sb_Fit (upd f k (vp_nar .byte v)) := sb_fitU h (nar_fit v)
theorem sb_list (k : Nat) (j : Nat) : fits .byte (.int ((sbB.getD k []).getD j 0)) = true := by
  have h : ∀ q ∈ sbB, ∀ x ∈ q, fits .byte (.int x) = true := by decide +kernel
  by_cases hk : k < sbB.length
  · have e1 : sbB.getD k [] = sbB[k] := by rw [List.getD_eq_getElem?_getD, List.getElem?_eq_getElem hk]; rfl
    rw [e1]
    by_cases hj : j < sbB[k].length
    · have e2 : sbB[k].getD j 0 = sbB[k][j] := by rw [List.getD_eq_getElem?_getD, List.getElem?_eq_getElem hj]; rfl
      rw [e2]; exact h _ (List.getElem_mem hk) _ (List.getElem_mem hj)
    · have e2 : sbB[k].getD j 0 = 0 := by rw [List.getD_eq_getElem?_getD, List.getElem?_eq_none (by omega)]; rfl
      rw [e2]; rfl
  · have e1 : sbB.getD k [] = [] := by rw [List.getD_eq_getElem?_getD, List.getElem?_eq_none (by omega)]; rfl
    rw [e1]; rfl
theorem va_ldcSW {p : Program} {l : Launch} {e : Env} {R : Room} {s : State} {m : MethodId} {args : Array Value} {below : List Frame} {meth : Method} {c : Code} {H : Heap} {locs : List Loc} {cells slots : Nat} {Q : State → Prop} {cc : ByteArray} {pc : Nat} {ls : Array Slot} {rest : List Value} (hexec : p.tables.exec = Jvm.exec) (hb : c.code = cc) {own tx : String} {index q : Nat} (hown : s.vm.findClass own = some m.cls) (hZ : vk_R own index tx q s) (hdg : decode cc pc = .ok (.ldc_w index, 3))
    (k : W p l e R s m args below meth c H locs cells slots Q (F0 m (pc + 3) ls (.ref q :: rest))) : W p l e R s m args below meth c H locs cells slots Q (F0 m pc ls rest) := by
  intro T hT X
  obtain ⟨t, a1, b1⟩ := k T hT X
  exact ⟨t, Stand.ldcStringW X hexec hown (text := tx) (a := q) hZ.1 hZ.2 (g := F0 m pc ls rest) rfl (by rw [hb]; exact hdg) t a1, b1⟩
theorem l31 {x y : Int64} {z : Int32} (e1 : y = x &&& 31) (e2 : z = y.toInt32) : 0 ≤ z.toInt ∧ z.toInt ≤ 31 := by
  have h1 : y.toBitVec.toNat ≤ 31 := by
    rw [e1]
    show (x.toBitVec &&& 31#64).toNat ≤ 31
    rw [BitVec.toNat_and]
    exact Nat.le_trans Nat.and_le_right (by decide)
  have h2 : y.toInt = (y.toBitVec.toNat : Int) := BitVec.toInt_eq_toNat_of_lt (by omega)
  have h3 : z.toInt = y.toInt := by rw [e2, Int64.toInt_toInt32]; exact bm_eq (by omega) (by omega)
  omega
theorem c_id {x z : Int32} (e : z = (x.toUInt32 % 65536).toInt32) (h : 0 ≤ x.toInt ∧ x.toInt ≤ 255) : z.toInt = x.toInt := by
  have k0 : (0 : Int32).toInt = 0 := by decide
  obtain ⟨j, hj, rfl⟩ := nI_of (x := x) (by rw [i_lt]; omega)
  rw [nI_toInt hj] at h
  rw [e, (sb_byte j (by omega)).2.1]
theorem i_max {x y z : Int32} (e : z = if x < y then y else x) : x.toInt ≤ z.toInt ∧ y.toInt ≤ z.toInt ∧ (z.toInt = x.toInt ∨ z.toInt = y.toInt) := by
  by_cases h : x < y
  · rw [if_pos h] at e; rw [i_lt] at h; subst e; omega
  · rw [if_neg h] at e; rw [i_lt] at h; subst e; omega
/-- k digits are enough for i, and p is s and k -/
def GD (i p s : Int) : Prop := ∃ k : Nat, p = s + k ∧ 1 ≤ k ∧ -((10 : Int) ^ k) < i
theorem p10 (k : Nat) : (10 : Int) ^ (k + 2) = 100 * (10 : Int) ^ k := by
  rw [Int.pow_succ, Int.pow_succ]; omega
theorem p10p (k : Nat) : 0 < (10 : Int) ^ k := Int.pow_pos (by decide)
theorem GD.one {i p s : Int} (h : GD i p s) : 1 + s ≤ p := by
  obtain ⟨k, h1, h2, h3⟩ := h; omega
theorem GD.two {i p s : Int} (h : GD i p s) (hi : i ≤ -10) : 2 + s ≤ p := by
  obtain ⟨k, h1, h2, h3⟩ := h
  by_cases e : k = 1
  · subst e; have : (10 : Int) ^ 1 = 10 := by decide
    omega
  · omega
theorem GD.three {i p s : Int} (h : GD i p s) (hi : i ≤ -100) : 3 + s ≤ p := by
  obtain ⟨k, h1, h2, h3⟩ := h
  by_cases e : k = 1
  · subst e; have : (10 : Int) ^ 1 = 10 := by decide
    omega
  · by_cases e2 : k = 2
    · subst e2; have : (10 : Int) ^ 2 = 100 := by decide
      omega
    · omega
theorem GD.step {i p s q p' : Int} (h : GD i p s) (hi : i ≤ -100) (hq : q ≤ 0 ∧ i ≤ 100 * q ∧ 100 * q < i + 100) (hp : p' = p - 2) : GD q p' s := by
  have h0 := h.three hi
  obtain ⟨k, h1, h2, h3⟩ := h
  obtain ⟨j, rfl⟩ : ∃ j, k = j + 2 := ⟨k - 2, by omega⟩
  rw [p10] at h3
  exact ⟨j, by omega, by omega, by omega⟩
theorem p10m {a b : Nat} (h : a ≤ b) : (10 : Int) ^ a ≤ (10 : Int) ^ b := by
  induction b with
  | zero => rw [Nat.le_zero.mp h]; exact Int.le_refl _
  | succ b ih =>
    by_cases e : a = b + 1
    · rw [e]; exact Int.le_refl _
    · have h1 := ih (by omega)
      have h2 := p10p b
      rw [Int.pow_succ]; omega
theorem GD.mono {i p s p' s' : Int} (h : GD i p s) (hp : p - s ≤ p' - s') : GD i p' s' := by
  obtain ⟨k, h1, h2, h3⟩ := h
  have h4 := p10m (a := k) (b := (p' - s').toNat) (by omega)
  exact ⟨(p' - s').toNat, by omega, by omega, by omega⟩
theorem GD.of {i p : Int} (k : Nat) {n : Int} (hn : (10 : Int) ^ k = n) (hp : p = k) (hk : 1 ≤ k) (h : -n < i) : GD i p 0 := ⟨k, by omega, hk, by omega⟩

