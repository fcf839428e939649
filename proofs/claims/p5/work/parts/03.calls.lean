theorem fm_of {α β : Type} {f : α → Option β} : ∀ {l : List α} {w : List β}, l.map f = w.map some → l.filterMap f = w
  | [], [], _ => rfl
  | [], _ :: _, h => by simp at h
  | _ :: _, [], h => by simp at h
  | a :: l, b :: w, h => by
    simp only [List.map_cons, List.cons.injEq] at h
    rw [List.filterMap_cons, h.1, fm_of h.2]
section CL
variable {p : Program} {l : Launch} {e : Env} {R : Room} {s : State} {m : MethodId} {args : Array Value} {below : List Frame} {meth : Method} {c : Code} {H : Heap} {locs : List Loc} {cells slots : Nat} {Q : State → Prop}
variable {cc bytes : ByteArray} {pc nL maxL idx n mc ms ci : Nat} {ls : Array Slot} {rest As st0 : List Value} {D : va_G} {cl : List vw_C} {cy : Nat → ClassId} {A : Nat → Prop} {b : Nat} {ws wc wr : va_W} {H0 : Heap} {own C : String} {y : MethodName} {ret : Option FieldType} {wsy : List Cond} {rm : Room} {E : State → Prop} {Qc : Array Value → State → Outcome → State → Prop} {free : Addr → Prop}
theorem pre_w (hPc : va_P D cl wc H) (hDc : va_D A wc) (hK : va_K D cl (TY cy) s) (hE : ∀ U : State, U.heap = H → s.WarmedH U.vm → E U) {av : List Value} : ∀ U : State, U.heap = H → s.WarmedH U.vm → Pw D cl cy wc H.size av E av.toArray U :=
  fun U hU hW => ⟨rfl, by rw [hU], by rw [hU]; exact hPc, va_K.moved hW.alike hK, hDc.weaken (fun _ _ _ _ => trivial), hE U hU hW⟩
theorem pre_r (hPc : va_P D cl wc H) (hK : va_K D cl (TY cy) s) {av : List Value} : ∀ U : State, U.heap = H → s.WarmedH U.vm → Pr D cl cy wc av av.toArray U :=
  fun U hU hW => ⟨rfl, by rw [hU]; exact hPc, va_K.moved hW.alike hK⟩
/-- a virtual call over the cells wc -/
theorem rV (Sx : CallFix p m c cc nL s args GW own) (hM : Met l y wsy rm (Pw D cl cy wc H.size (.ref b :: As) E) Qc mc ms free) (cw : CallW R s args own C idx y bytes maxL ret wsy rm mc ms n) (hP : va_P D cl ws H) (hD : va_D A ws) (hK : va_K D cl (TY cy) s) (isC : List Nat) (hC : isC.map (fun i => ws[i]?) = wc.map some) (hnC : va_nd isC = true) {T : u_T} {N : Nat} {fs : List Value} (hrc : cl[ci]? = some (C, T, N)) (hre : wc[0]? = some (b, .inr (ci, fs)))
    (hbl : ∀ (a : Array Value) (U : State) (g : JFrame) (mk : MethodId), E U → E (U.calling g mk a)) (hE : ∀ U : State, U.heap = H → s.WarmedH U.vm → E U) (hn : As.length = n) (hsize : ls.size = nL) (hst : st0 = As.reverse ++ .ref b :: rest) (hW : (rest.map fun v => v.category).sum ≤ 8) (hdg : decode cc pc = .ok (.invokevirtual idx, 3)) (hf : cells + mc ≤ R.cells ∧ slots + ms ≤ R.slots) :
    va_Run p l e R s m args below meth c H locs cells slots mc ms (F0 m pc ls st0) rest (Qc (Value.ref b :: As).toArray) free := by
  have hPc := hP.sub isC (fm_of hC)
  exact va_runV Sx hM cw ⟨blind_w hbl, va_recv (q := (C, T, N)) hK hPc hrc hre, pre_w hPc (hD.sub isC hnC hC) hK hE⟩ rfl hn hsize hst (lv_room hW) hdg hf
/-- a virtual call that only reads -/
theorem rVr (Sx : CallFix p m c cc nL s args GW own) (hM : Met l y wsy rm (Pr D cl cy wc (.ref b :: As)) Qc mc ms free) (cw : CallW R s args own C idx y bytes maxL ret wsy rm mc ms n) (hP : va_P D cl ws H) (hK : va_K D cl (TY cy) s) (isC : List Nat) (hC : isC.filterMap (fun i => ws[i]?) = wc) {T : u_T} {N : Nat} {fs : List Value} (hrc : cl[ci]? = some (C, T, N)) (hre : wc[0]? = some (b, .inr (ci, fs)))
    (hn : As.length = n) (hsize : ls.size = nL) (hst : st0 = As.reverse ++ .ref b :: rest) (hW : (rest.map fun v => v.category).sum ≤ 8) (hdg : decode cc pc = .ok (.invokevirtual idx, 3)) (hf : cells + mc ≤ R.cells ∧ slots + ms ≤ R.slots) :
    va_Run p l e R s m args below meth c H locs cells slots mc ms (F0 m pc ls st0) rest (Qc (Value.ref b :: As).toArray) free := by
  have hPc := hP.sub isC hC
  exact va_runV Sx hM cw ⟨blind_r, va_recv (q := (C, T, N)) hK hPc hrc hre, pre_r hPc hK⟩ rfl hn hsize hst (lv_room hW) hdg hf
/-- static calls -/
theorem rS (Sx : CallFix p m c cc nL s args GW own) (hM : Met l y wsy rm (Pw D cl cy wc H.size As E) Qc mc ms free) (cw : CallB R s args own idx y bytes maxL ret wsy rm mc ms n ∧ (Cond.static y).before args s = true) (hP : va_P D cl ws H) (hD : va_D A ws) (hK : va_K D cl (TY cy) s) (isC : List Nat) (hC : isC.map (fun i => ws[i]?) = wc.map some) (hnC : va_nd isC = true)
    (hbl : ∀ (a : Array Value) (U : State) (g : JFrame) (mk : MethodId), E U → E (U.calling g mk a)) (hE : ∀ U : State, U.heap = H → s.WarmedH U.vm → E U) (hn : As.length = n) (hsize : ls.size = nL) (hst : st0 = As.reverse ++ rest) (hW : (rest.map fun v => v.category).sum ≤ 8) (hdg : decode cc pc = .ok (.invokestatic idx, 3)) (hf : cells + mc ≤ R.cells ∧ slots + ms ≤ R.slots) :
    va_Run p l e R s m args below meth c H locs cells slots mc ms (F0 m pc ls st0) rest (Qc As.toArray) free := by
  have hPc := hP.sub isC (fm_of hC)
  exact va_runS Sx hM cw ⟨blind_w hbl, pre_w hPc (hD.sub isC hnC hC) hK hE⟩ rfl hn hsize hst (lv_room hW) hdg hf
theorem rSr (Sx : CallFix p m c cc nL s args GW own) (hM : Met l y wsy rm (Pr D cl cy wc As) Qc mc ms free) (cw : CallB R s args own idx y bytes maxL ret wsy rm mc ms n ∧ (Cond.static y).before args s = true) (hP : va_P D cl ws H) (hK : va_K D cl (TY cy) s) (isC : List Nat) (hC : isC.filterMap (fun i => ws[i]?) = wc)
    (hn : As.length = n) (hsize : ls.size = nL) (hst : st0 = As.reverse ++ rest) (hW : (rest.map fun v => v.category).sum ≤ 8) (hdg : decode cc pc = .ok (.invokestatic idx, 3)) (hf : cells + mc ≤ R.cells ∧ slots + ms ≤ R.slots) :
    va_Run p l e R s m args below meth c H locs cells slots mc ms (F0 m pc ls st0) rest (Qc As.toArray) free := by
  have hPc := hP.sub isC hC
  exact va_runS Sx hM cw ⟨blind_r, pre_r hPc hK⟩ rfl hn hsize hst (lv_room hW) hdg hf
/-- constructors -/
theorem rI (Sx : CallFix p m c cc nL s args GW own) (hM : Met l y wsy rm (Pw D cl cy wc H.size (.ref b :: As) E) Qc mc ms free) (cw : CallB R s args own idx y bytes maxL none wsy rm mc ms n ∧ y.name = "<init>" ∧ (Cond.instanceMethod y).before args s = true) (hP : va_P D cl ws H) (hD : va_D A ws) (hK : va_K D cl (TY cy) s) (isC : List Nat) (hC : isC.map (fun i => ws[i]?) = wc.map some) (hnC : va_nd isC = true)
    (hbl : ∀ (a : Array Value) (U : State) (g : JFrame) (mk : MethodId), E U → E (U.calling g mk a)) (hE : ∀ U : State, U.heap = H → s.WarmedH U.vm → E U) (hn : As.length = n) (hsize : ls.size = nL) (hst : st0 = As.reverse ++ .ref b :: rest) (hW : (rest.map fun v => v.category).sum ≤ 8) (hdg : decode cc pc = .ok (.invokespecial idx, 3)) (hf : cells + mc ≤ R.cells ∧ slots + ms ≤ R.slots) :
    va_Run p l e R s m args below meth c H locs cells slots mc ms (F0 m pc ls st0) rest (Qc (Value.ref b :: As).toArray) free := by
  have hPc := hP.sub isC (fm_of hC)
  exact va_runI Sx hM cw ⟨blind_w hbl, pre_w hPc (hD.sub isC hnC hC) hK hE⟩ rfl hn hsize hst (lv_room hW) hdg hf
theorem rN {host : String} (Sx : CallFix p m c cc nL s args GW own) (hM : Met l y wsy rm (Pw D cl cy wc H.size (.ref b :: As) E) Qc mc ms free) (cw : va_CN R s args own idx y host bytes maxL none wsy rm mc ms n ∧ y.name = "<init>" ∧ (Cond.instanceMethod y).before args s = true) (hP : va_P D cl ws H) (hD : va_D A ws) (hK : va_K D cl (TY cy) s) (isC : List Nat) (hC : isC.map (fun i => ws[i]?) = wc.map some) (hnC : va_nd isC = true)
    (hbl : ∀ (a : Array Value) (U : State) (g : JFrame) (mk : MethodId), E U → E (U.calling g mk a)) (hE : ∀ U : State, U.heap = H → s.WarmedH U.vm → E U) (hn : As.length = n) (hsize : ls.size = nL) (hst : st0 = As.reverse ++ .ref b :: rest) (hW : (rest.map fun v => v.category).sum ≤ 8) (hdg : decode cc pc = .ok (.invokespecial idx, 3)) (hf : cells + mc ≤ R.cells ∧ slots + ms ≤ R.slots) :
    va_Run p l e R s m args below meth c H locs cells slots mc ms (F0 m pc ls st0) rest (Qc (Value.ref b :: As).toArray) free := by
  have hPc := hP.sub isC (fm_of hC)
  exact va_runIN Sx hM cw ⟨blind_w hbl, pre_w hPc (hD.sub isC hnC hC) hK hE⟩ rfl hn hsize hst (lv_room hW) hdg hf
/-- a call of the method above, by invokespecial, that only reads -/
theorem rUr (Sx : CallFix p m c cc nL s args GW own) (hM : Met l y wsy rm (Pr D cl cy wc (.ref b :: As)) Qc mc ms free) (cw : va_CS R s args own idx y bytes maxL ret wsy rm mc ms n) (hP : va_P D cl ws H) (hK : va_K D cl (TY cy) s) (isC : List Nat) (hC : isC.filterMap (fun i => ws[i]?) = wc) {T : u_T} {N : Nat} {fs : List Value} (hrc : cl[ci]? = some (C, T, N)) (hre : wc[0]? = some (b, .inr (ci, fs)))
    (hn : As.length = n) (hsize : ls.size = nL) (hst : st0 = As.reverse ++ .ref b :: rest) (hW : (rest.map fun v => v.category).sum ≤ 8) (hdg : decode cc pc = .ok (.invokespecial idx, 3)) (hf : cells + mc ≤ R.cells ∧ slots + ms ≤ R.slots) :
    va_Run p l e R s m args below meth c H locs cells slots mc ms (F0 m pc ls st0) rest (Qc (Value.ref b :: As).toArray) free := by
  have hPc := hP.sub isC hC
  exact va_runSU (hK.1 ci _ hrc).2 Sx hM cw ⟨blind_r, va_recv (q := (C, T, N)) hK hPc hrc hre, pre_r hPc hK⟩ rfl hn hsize hst (lv_room hW) hdg hf
/-- behind a call: the callee's cells as they are now beside the others -/
theorem jn_i {S : Type} {post : Int32 → S → Prop} {wo : S → va_W} {a : Array Value} (hr : va_Run p l e R s m args below meth c H locs cells slots mc ms (F0 m pc ls st0) rest (Qi D cl post wo (va_A wc H.size) a) (va_A wc H.size)) (hP : va_P D cl ws H) (hD : va_D A ws) (hS : va_S A H0 H locs) (hA : ∀ q : Nat, H0.size ≤ q → A q) (isC isR : List Nat) (hC : isC.map (fun i => ws[i]?) = wc.map some) (hR : isR.map (fun i => ws[i]?) = wr.map some) (hnR : va_nd isR = true) (hdis : ∀ i ∈ isR, i ∉ isC)
    (kk : ∀ (r : Int32) (u : S) (H1 : Heap) (locs1 : List Loc), post r u → va_P D cl (wr ++ wo u) H1 → va_D A (wr ++ wo u) → va_S A H0 H1 locs1 → W p l e R s m args below meth c H1 locs1 (cells + mc) (slots + ms) Q (F0 m (pc + 3) ls (.int r :: rest))) : W p l e R s m args below meth c H locs cells slots Q (F0 m pc ls st0) := by
  have hFc := va_free hD hS hA isC hC
  refine va_calli hr hS (fun q _ h => hFc q h) hFc (fun r u t H1 locs1 ht hvm hw hB hz1 hk1 hS1 => ?_)
  obtain ⟨hP1, hD1⟩ := hB
  rw [ht] at hP1
  obtain ⟨hP2, hD2⟩ := va_join hP hD isC isR hC hR hnR hdis hk1 hFc hP1 hD1
  exact kk r u H1 locs1 hw hP2 hD2 hS1
theorem jn_l {S : Type} {post : Int64 → S → Prop} {wo : S → va_W} {a : Array Value} (hr : va_Run p l e R s m args below meth c H locs cells slots mc ms (F0 m pc ls st0) rest (Ql D cl post wo (va_A wc H.size) a) (va_A wc H.size)) (hP : va_P D cl ws H) (hD : va_D A ws) (hS : va_S A H0 H locs) (hA : ∀ q : Nat, H0.size ≤ q → A q) (isC isR : List Nat) (hC : isC.map (fun i => ws[i]?) = wc.map some) (hR : isR.map (fun i => ws[i]?) = wr.map some) (hnR : va_nd isR = true) (hdis : ∀ i ∈ isR, i ∉ isC)
    (kk : ∀ (r : Int64) (u : S) (H1 : Heap) (locs1 : List Loc), post r u → va_P D cl (wr ++ wo u) H1 → va_D A (wr ++ wo u) → va_S A H0 H1 locs1 → W p l e R s m args below meth c H1 locs1 (cells + mc) (slots + ms) Q (F0 m (pc + 3) ls (.long r :: rest))) : W p l e R s m args below meth c H locs cells slots Q (F0 m pc ls st0) := by
  have hFc := va_free hD hS hA isC hC
  refine va_calll hr hS (fun q _ h => hFc q h) hFc (fun r u t H1 locs1 ht hvm hw hB hz1 hk1 hS1 => ?_)
  obtain ⟨hP1, hD1⟩ := hB
  rw [ht] at hP1
  obtain ⟨hP2, hD2⟩ := va_join hP hD isC isR hC hR hnR hdis hk1 hFc hP1 hD1
  exact kk r u H1 locs1 hw hP2 hD2 hS1
theorem jn_v {S : Type} {post : S → Prop} {wo : S → va_W} {a : Array Value} (hr : va_Run p l e R s m args below meth c H locs cells slots mc ms (F0 m pc ls st0) rest (Qv D cl post wo (va_A wc H.size) a) (va_A wc H.size)) (hP : va_P D cl ws H) (hD : va_D A ws) (hS : va_S A H0 H locs) (hA : ∀ q : Nat, H0.size ≤ q → A q) (isC isR : List Nat) (hC : isC.map (fun i => ws[i]?) = wc.map some) (hR : isR.map (fun i => ws[i]?) = wr.map some) (hnR : va_nd isR = true) (hdis : ∀ i ∈ isR, i ∉ isC)
    (kk : ∀ (u : S) (H1 : Heap) (locs1 : List Loc), post u → va_P D cl (wr ++ wo u) H1 → va_D A (wr ++ wo u) → va_S A H0 H1 locs1 → W p l e R s m args below meth c H1 locs1 (cells + mc) (slots + ms) Q (F0 m (pc + 3) ls rest)) : W p l e R s m args below meth c H locs cells slots Q (F0 m pc ls st0) := by
  have hFc := va_free hD hS hA isC hC
  refine va_callv hr hS (fun q _ h => hFc q h) hFc (fun u t H1 locs1 ht hvm hw hB hz1 hk1 hS1 => ?_)
  obtain ⟨hP1, hD1⟩ := hB
  rw [ht] at hP1
  obtain ⟨hP2, hD2⟩ := va_join hP hD isC isR hC hR hnR hdis hk1 hFc hP1 hD1
  exact kk u H1 locs1 hw hP2 hD2 hS1
/-- behind a call that only reads: all cells are as they were -/
theorem jr_i {post : Int32 → Prop} {a : Array Value} (hr : va_Run p l e R s m args below meth c H locs cells slots 0 0 (F0 m pc ls st0) rest (Ri post a) (fun _ => False)) (hP : va_P D cl ws H) (hS : va_S A H0 H locs)
    (kk : ∀ (r : Int32) (H1 : Heap) (locs1 : List Loc), post r → va_P D cl ws H1 → va_S A H0 H1 locs1 → W p l e R s m args below meth c H1 locs1 cells slots Q (F0 m (pc + 3) ls (.int r :: rest))) : W p l e R s m args below meth c H locs cells slots Q (F0 m pc ls st0) :=
  va_calli hr hS (fun _ _ h => h.elim) (fun _ h => h.elim) (fun r _ _ H1 locs1 _ _ hw _ _ hk1 hS1 => kk r H1 locs1 hw (hP.kept (fun k q hq => hk1 q.1 (hP k q hq).lt (fun h => h.elim))) hS1)
theorem jr_l {post : Int64 → Prop} {a : Array Value} (hr : va_Run p l e R s m args below meth c H locs cells slots 0 0 (F0 m pc ls st0) rest (Rl post a) (fun _ => False)) (hP : va_P D cl ws H) (hS : va_S A H0 H locs)
    (kk : ∀ (r : Int64) (H1 : Heap) (locs1 : List Loc), post r → va_P D cl ws H1 → va_S A H0 H1 locs1 → W p l e R s m args below meth c H1 locs1 cells slots Q (F0 m (pc + 3) ls (.long r :: rest))) : W p l e R s m args below meth c H locs cells slots Q (F0 m pc ls st0) :=
  va_calll hr hS (fun _ _ h => h.elim) (fun _ h => h.elim) (fun r _ _ H1 locs1 _ _ hw _ _ hk1 hS1 => kk r H1 locs1 hw (hP.kept (fun k q hq => hk1 q.1 (hP k q hq).lt (fun h => h.elim))) hS1)
end CL
theorem bl0 : ∀ (a : Array Value) (U : State) (g : JFrame) (mk : MethodId), nE U → nE (U.calling g mk a) := fun _ _ _ _ _ => trivial
theorem e0 {s : State} {H : Heap} : ∀ U : State, U.heap = H → s.WarmedH U.vm → nE U := fun _ _ _ => trivial
