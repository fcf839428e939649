/-- the lines of a book: and every man, every number of years is 0 or more -/
def LQ (f : Nat → Int32) : Prop := LK f ∧ ∀ k : Nat, k < 40 → 0 ≤ (f (4 * k + 1)).toInt
theorem LQ.put {f : Nat → Int32} (h : LQ f) {n x v : Int32} {d : Int} (hn : 0 ≤ n.toInt ∧ n.toInt ≤ 39) (hx : x.toInt = 4 * n.toInt + d) (hd : 0 ≤ d ∧ d ≤ 3) (hv : -1 ≤ v.toInt ∧ v.toInt ≤ 40)
    (h0 : d = 0 → v.toInt = 6 ∨ (f (4 * n.toNatClampNeg + 1)).toInt ≤ 6) (h1 : d = 1 → (f (4 * n.toNatClampNeg)).toInt = 6 ∨ v.toInt ≤ 6) (h2 : d = 1 → 0 ≤ v.toInt) : LQ (upd f x.toNatClampNeg v) := by
  have q0 := cl_nn (x := x) (by omega)
  refine ⟨h.1.put hn hx hd hv h0 h1, fun k hk => ?_⟩
  by_cases c : 4 * k + 1 = x.toNatClampNeg
  · rw [up_if, if_pos c]; exact h2 (by omega)
  · rw [up_if, if_neg c]; exact h.2 k hk
theorem LQ.val {f : Nat → Int32} (h : LQ f) {x z : Int32} (hi : vp_in x 160) (e : z = f x.toNatClampNeg) : -1 ≤ z.toInt ∧ z.toInt ≤ 40 := h.1.val hi e
theorem LQ.man {f : Nat → Int32} (h : LQ f) {x y z v : Int32} {q : Int} (hk : 0 ≤ q ∧ q ≤ 39) (hx : x.toInt = 4 * q) (hy : y.toInt = 4 * q + 1) (ez : z = f x.toNatClampNeg) (ev : v = f y.toNatClampNeg) (hz : z.toInt ≠ 6) : 0 ≤ v.toInt ∧ v.toInt ≤ 6 := by
  have q2 := cl_nn (x := y) (by omega)
  have h3 := h.2 q.toNat (by omega)
  rw [show 4 * q.toNat + 1 = y.toNatClampNeg by omega, ← ev] at h3
  exact ⟨h3, h.1.man hk hx hy ez ev hz⟩
abbrev cX11_readNamed : ByteArray := prog_13_method_109_code
def yX11_readNamed : MethodName := ⟨RX11, "readNamed", "(II)Z"⟩
theorem t1998 : Cond.code yX11_readNamed cX11_readNamed 3 (some .boolean) ∈ GW := gw_mem 2112 (by decide +kernel) (by decide +kernel)
theorem dX11_readNamed_0 : decode cX11_readNamed 0 = .ok (.aload_n 0, 1) := by decide +kernel
theorem dX11_readNamed_1 : decode cX11_readNamed 1 = .ok (.invokevirtual 163, 3) := by decide +kernel
theorem dX11_readNamed_4 : decode cX11_readNamed 4 = .ok (.ifCond .ne 9, 3) := by decide +kernel
theorem dX11_readNamed_7 : decode cX11_readNamed 7 = .ok (.aload_n 0, 1) := by decide +kernel
theorem dX11_readNamed_8 : decode cX11_readNamed 8 = .ok (.iconst 1, 1) := by decide +kernel
theorem dX11_readNamed_9 : decode cX11_readNamed 9 = .ok (.invokevirtual 72, 3) := by decide +kernel
theorem dX11_readNamed_12 : decode cX11_readNamed 12 = .ok (.ireturn, 1) := by decide +kernel
theorem dX11_readNamed_13 : decode cX11_readNamed 13 = .ok (.aload_n 0, 1) := by decide +kernel
theorem dX11_readNamed_14 : decode cX11_readNamed 14 = .ok (.aload_n 0, 1) := by decide +kernel
theorem dX11_readNamed_15 : decode cX11_readNamed 15 = .ok (.getfield 113, 3) := by decide +kernel
theorem dX11_readNamed_18 : decode cX11_readNamed 18 = .ok (.iload_n 1, 1) := by decide +kernel
theorem dX11_readNamed_19 : decode cX11_readNamed 19 = .ok (.iload_n 2, 1) := by decide +kernel
theorem dX11_readNamed_20 : decode cX11_readNamed 20 = .ok (.aload_n 0, 1) := by decide +kernel
theorem dX11_readNamed_21 : decode cX11_readNamed 21 = .ok (.getfield 43, 3) := by decide +kernel
theorem dX11_readNamed_24 : decode cX11_readNamed 24 = .ok (.invokestatic 167, 3) := by decide +kernel
theorem dX11_readNamed_27 : decode cX11_readNamed 27 = .ok (.putfield 79, 3) := by decide +kernel
theorem dX11_readNamed_30 : decode cX11_readNamed 30 = .ok (.aload_n 0, 1) := by decide +kernel
theorem dX11_readNamed_31 : decode cX11_readNamed 31 = .ok (.getfield 79, 3) := by decide +kernel
theorem dX11_readNamed_34 : decode cX11_readNamed 34 = .ok (.iconst (-1), 1) := by decide +kernel
theorem dX11_readNamed_35 : decode cX11_readNamed 35 = .ok (.if_icmp .ne 9, 3) := by decide +kernel
theorem dX11_readNamed_44 : decode cX11_readNamed 44 = .ok (.aload_n 0, 1) := by decide +kernel
theorem dX11_readNamed_45 : decode cX11_readNamed 45 = .ok (.invokevirtual 82, 3) := by decide +kernel
theorem dX11_readNamed_48 : decode cX11_readNamed 48 = .ok (.iconst 1, 1) := by decide +kernel
theorem dX11_readNamed_49 : decode cX11_readNamed 49 = .ok (.ireturn, 1) := by decide +kernel
theorem dX11_readNamed_38 : decode cX11_readNamed 38 = .ok (.aload_n 0, 1) := by decide +kernel
theorem dX11_readNamed_39 : decode cX11_readNamed 39 = .ok (.iconst 3, 1) := by decide +kernel
theorem dX11_readNamed_40 : decode cX11_readNamed 40 = .ok (.invokevirtual 72, 3) := by decide +kernel
theorem dX11_readNamed_43 : decode cX11_readNamed 43 = .ok (.ireturn, 1) := by decide +kernel
abbrev cX11_readManName : ByteArray := prog_13_method_110_code
def yX11_readManName : MethodName := ⟨RX11, "readManName", "()Z"⟩
theorem t2002 : Cond.code yX11_readManName cX11_readManName 1 (some .boolean) ∈ GW := gw_mem 2116 (by decide +kernel) (by decide +kernel)
theorem dX11_readManName_0 : decode cX11_readManName 0 = .ok (.aload_n 0, 1) := by decide +kernel
theorem dX11_readManName_1 : decode cX11_readManName 1 = .ok (.iconst 0, 1) := by decide +kernel
theorem dX11_readManName_2 : decode cX11_readManName 2 = .ok (.aload_n 0, 1) := by decide +kernel
theorem dX11_readManName_3 : decode cX11_readManName 3 = .ok (.getfield 98, 3) := by decide +kernel
theorem dX11_readManName_6 : decode cX11_readManName 6 = .ok (.iconst 0, 1) := by decide +kernel
theorem dX11_readManName_7 : decode cX11_readManName 7 = .ok (.iaload, 1) := by decide +kernel
theorem dX11_readManName_8 : decode cX11_readManName 8 = .ok (.invokevirtual 370, 3) := by decide +kernel
theorem t1995 : Cond.methodLink RX11 370 yX11_readNamed ∈ GW := gw_mem 2109 (by decide +kernel) (by decide +kernel)
theorem t1997 : Cond.instanceMethod yX11_readNamed ∈ GW := gw_mem 2111 (by decide +kernel) (by decide +kernel)
theorem s101 : Cond.selects RX11 yX11_readNamed yX11_readNamed ∈ GW := gw_mem 101 (by decide +kernel) (by decide +kernel)
theorem cw_X11_370 {R : Room} {s : State} {args : Array Value} {rm : Room} {mc ms : Nat} (hts : ∀ w ∈ GW, w.before args s = true) (hrc : rm.cells = mc) (hrs : rm.slots = ms) (hR : rm.frames + 1 ≤ R.frames ∧ 8 + (3 + 11) + rm.locals ≤ R.locals) : CallW R s args RX11 RX11 370 yX11_readNamed cX11_readNamed 3 (some .boolean) (wl yX11_readNamed cX11_readNamed 3 (some .boolean)) rm mc ms 2 := cwV 2 hts (gi_V t1995 t1997 s101 t18 t1998) rfl hrc hrs (by decide +kernel) hR
theorem dX11_readManName_11 : decode cX11_readManName 11 = .ok (.ireturn, 1) := by decide +kernel
abbrev cX11_readDeedName : ByteArray := prog_13_method_111_code
def yX11_readDeedName : MethodName := ⟨RX11, "readDeedName", "()Z"⟩
theorem t1994 : Cond.code yX11_readDeedName cX11_readDeedName 1 (some .boolean) ∈ GW := gw_mem 2108 (by decide +kernel) (by decide +kernel)
theorem dX11_readDeedName_0 : decode cX11_readDeedName 0 = .ok (.aload_n 0, 1) := by decide +kernel
theorem dX11_readDeedName_1 : decode cX11_readDeedName 1 = .ok (.bipush 7, 2) := by decide +kernel
theorem dX11_readDeedName_3 : decode cX11_readDeedName 3 = .ok (.aload_n 0, 1) := by decide +kernel
theorem dX11_readDeedName_4 : decode cX11_readDeedName 4 = .ok (.getfield 98, 3) := by decide +kernel
theorem dX11_readDeedName_7 : decode cX11_readDeedName 7 = .ok (.iconst 1, 1) := by decide +kernel
theorem dX11_readDeedName_8 : decode cX11_readDeedName 8 = .ok (.iaload, 1) := by decide +kernel
theorem dX11_readDeedName_9 : decode cX11_readDeedName 9 = .ok (.invokevirtual 370, 3) := by decide +kernel
theorem dX11_readDeedName_12 : decode cX11_readDeedName 12 = .ok (.ireturn, 1) := by decide +kernel
abbrev cX11_keep : ByteArray := prog_13_method_108_code
def yX11_keep : MethodName := ⟨RX11, "keep", "(IZ)Z"⟩
theorem t1986 : Cond.code yX11_keep cX11_keep 3 (some .boolean) ∈ GW := gw_mem 2100 (by decide +kernel) (by decide +kernel)
theorem dX11_keep_0 : decode cX11_keep 0 = .ok (.iload_n 2, 1) := by decide +kernel
theorem dX11_keep_1 : decode cX11_keep 1 = .ok (.ifCond .eq 13, 3) := by decide +kernel
theorem dX11_keep_14 : decode cX11_keep 14 = .ok (.iload_n 2, 1) := by decide +kernel
theorem dX11_keep_15 : decode cX11_keep 15 = .ok (.ireturn, 1) := by decide +kernel
set_option maxHeartbeats 4000000 in
set_option maxRecDepth 100000 in
theorem m_keep_0 (l : Launch) (dC : Nat → ClassId) (dI : Nat → Nat → Nat) (cy : Nat → ClassId) (vo : Nat) (voth : Int32) (vmt : Nat) (votp : Int32) (vosz : Int32) (volm : Int32) (voto : Int32) (vofr : Int32) (vokd : Int32) (vonu : Int32) (vosg : Int32) (vofa : Int32) (vopl : Int32) (vowd : Int64) (votd : Int32) (vmn : Nat) (vmr : Nat) (vmk : Nat) (vms : Nat) (vma : Nat) (vmm : Nat) (vmrn : Nat) (vmkn : Nat) (vmik : Nat) (vmon : Nat) (vosm : Int32) (vohp : Int32) (vmw : Nat) (vmf : Nat) (vmb : Nat) (vomb : Int32) (vmd : Nat) (vmc : Nat) (vocm : Int32) (voct : Int32) (vocy : Int32) (vmx : Nat) (votx : Int32) (vose : Int32) (vml : Nat) (vmwr : Nat) (voln : Int32) (vohw : Int32) (vmno : Nat) (vond : Int32) (voon : Int32) (vowi : Int32) (votop : Int32) (vat : Int32)  : Met l yX11_keep (wl yX11_keep cX11_keep 3 (some .boolean)) ({ frames := 0, cells := 0, slots := 0, locals := 0 }) (Pr (dC, dI) vwCl cy [(vo, .inr (12, [.int voth, .ref vmt, .int votp, .int vosz, .int volm, .int voto, .int vofr, .int vokd, .int vonu, .int vosg, .int vofa, .int vopl, .long vowd, .int votd, .ref vmn, .ref vmr, .ref vmk, .ref vms, .ref vma, .ref vmm, .ref vmrn, .ref vmkn, .ref vmik, .ref vmon, .int vosm, .int vohp, .ref vmw, .ref vmf, .ref vmb, .int vomb, .ref vmd, .ref vmc, .int vocm, .int voct, .int vocy, .ref vmx, .int votx, .int vose, .ref vml, .ref vmwr, .int voln, .int vohw, .ref vmno, .int vond, .int voon, .int vowi, .int votop]))] [.ref vo, .int vat, .int 0]) (Ri (fun r => ((r = 0)))) 0 0 (fun _ => False) := by
  refine mr RX11 rfl (by decide +kernel) (Nat.le_of_ble_eq_true rfl) ?_
  intro p e s m below meth c hx hb hr hlocks av9 hav hts hown hml hK hP hS Q9 hQ9 ls hl
  have hl : lv_has ls 3 [(0, .ref vo), (1, .int vat), (2, .int 0)] := hl
  refine lv_iload_n hx hb dX11_keep_0 rfl (lv_at hl 2 rfl) ?_
  refine lv_if_eq (tgt := 14) hx hb dX11_keep_1 (by decide) (fun _ => ?_) (fun c9 => absurd (by decide) c9)
  refine lv_iload_n hx hb dX11_keep_14 rfl (lv_at hl 2 rfl) ?_
  have k_0 : (0 : Int32).toInt = 0 := by decide
  rw [hQ9]
  exact rr_z hx hb hr hlocks (Or.inl rfl) (show ((0 : Int32) = 0) from (rfl)) hS dX11_keep_15
abbrev O_m_keep_1 (cy : Nat → ClassId) (vo : Nat) (voth : Int32) (vmt : Nat) (votp : Int32) (vosz : Int32) (volm : Int32) (voto : Int32) (vofr : Int32) (vokd : Int32) (vonu : Int32) (vosg : Int32) (vofa : Int32) (vopl : Int32) (vowd : Int64) (votd : Int32) (vmn : Nat) (vmr : Nat) (vmk : Nat) (vms : Nat) (vma : Nat) (vmm : Nat) (vmrn : Nat) (vmkn : Nat) (vmik : Nat) (vmon : Nat) (vosm : Int32) (vohp : Int32) (vmw : Nat) (vmf : Nat) (vmb : Nat) (vomb : Int32) (vmd : Nat) (vmc : Nat) (vocm : Int32) (voct : Int32) (vocy : Int32) (vmx : Nat) (votx : Int32) (vose : Int32) (vml : Nat) (vmwr : Nat) (voln : Int32) (vohw : Int32) (vmno : Nat) (vond : Int32) (voon : Int32) (vowi : Int32) (votop : Int32) (vmlf : Nat → Int32) (vat : Int32) (u : (Nat → Int32)) : va_W := [(vo, .inr (12, [.int voth, .ref vmt, .int votp, .int vosz, .int volm, .int voto, .int vofr, .int vokd, .int vonu, .int vosg, .int vofa, .int vopl, .long vowd, .int votd, .ref vmn, .ref vmr, .ref vmk, .ref vms, .ref vma, .ref vmm, .ref vmrn, .ref vmkn, .ref vmik, .ref vmon, .int vosm, .int vohp, .ref vmw, .ref vmf, .ref vmb, .int vomb, .ref vmd, .ref vmc, .int vocm, .int voct, .int vocy, .ref vmx, .int votx, .int vose, .ref vml, .ref vmwr, .int voln, .int vohw, .ref vmno, .int vond, .int voon, .int vowi, .int votop])), (vml, .inl (cy 0, 160, .inl u))]
theorem dX11_keep_4 : decode cX11_keep 4 = .ok (.aload_n 0, 1) := by decide +kernel
theorem dX11_keep_5 : decode cX11_keep 5 = .ok (.getfield 151, 3) := by decide +kernel
theorem t1480 : Cond.fieldLink RX11 151 "LikenessPoundModel" "line" "[I" ∈ GW := gw_mem 1594 (by decide +kernel) (by decide +kernel)
theorem gf_X11_151 {p : Program} {l : Launch} {e : Env} {R : Room} {s : State} {m : MethodId} {args : Array Value} {below : List Frame} {meth : Method} {c : Code} {H : Heap} {locs : List Loc} {cells slots : Nat} {Q : State → Prop} {cc : ByteArray} {pc : Nat} {ls : Array Slot} {rest : List Value} {D : va_G} {a : Nat} {tys : List (ClassId × FieldType)} {ws : va_W} (hx : p.tables.exec = Jvm.exec) (hb : c.code = cc) (hts : ∀ w ∈ GW, w.before args s = true) (hown : s.vm.findClass RX11 = some m.cls) (hK : va_K D vwCl tys s) (hP : va_P D vwCl ws H) (q0 : Nat) {fs : List Value} (he : ws[q0]? = some (a, .inr (12, fs))) {v : Value} (hv : fs[38]? = some v) (hdg : decode cc pc = .ok (.getfield 151, 3)) (kk : W p l e R s m args below meth c H locs cells slots Q (F0 m (pc + 3) ls (v :: rest))) : W p l e R s m args below meth c H locs cells slots Q (F0 m pc ls (.ref a :: rest)) := va_get (C := RX11) (T := TX11) (N := 47) (ci := 12) hx hb hts inX11 hown hK hP q0 he rfl 38 (by decide) (hts _ t1480) (fun _ h => h) hv hdg kk
theorem dX11_keep_8 : decode cX11_keep 8 = .ok (.iload_n 1, 1) := by decide +kernel
theorem dX11_keep_9 : decode cX11_keep 9 = .ok (.aload_n 0, 1) := by decide +kernel
theorem dX11_keep_10 : decode cX11_keep 10 = .ok (.getfield 79, 3) := by decide +kernel
theorem dX11_keep_13 : decode cX11_keep 13 = .ok (.iastore, 1) := by decide +kernel
set_option maxHeartbeats 4000000 in
set_option maxRecDepth 100000 in
theorem m_keep_1 (l : Launch) (dC : Nat → ClassId) (dI : Nat → Nat → Nat) (cy : Nat → ClassId) (sz : Nat) (vo : Nat) (voth : Int32) (vmt : Nat) (votp : Int32) (vosz : Int32) (volm : Int32) (voto : Int32) (vofr : Int32) (vokd : Int32) (vonu : Int32) (vosg : Int32) (vofa : Int32) (vopl : Int32) (vowd : Int64) (votd : Int32) (vmn : Nat) (vmr : Nat) (vmk : Nat) (vms : Nat) (vma : Nat) (vmm : Nat) (vmrn : Nat) (vmkn : Nat) (vmik : Nat) (vmon : Nat) (vosm : Int32) (vohp : Int32) (vmw : Nat) (vmf : Nat) (vmb : Nat) (vomb : Int32) (vmd : Nat) (vmc : Nat) (vocm : Int32) (voct : Int32) (vocy : Int32) (vmx : Nat) (votx : Int32) (vose : Int32) (vml : Nat) (vmwr : Nat) (voln : Int32) (vohw : Int32) (vmno : Nat) (vond : Int32) (voon : Int32) (vowi : Int32) (votop : Int32) (vmlf : Nat → Int32) (vat : Int32) (r_votd : -1 ≤ (votd : Int32).toInt ∧ (votd : Int32).toInt ≤ 40) (r_vat : 0 ≤ (vat : Int32).toInt ∧ (vat : Int32).toInt ≤ 159) (p_vmlf : LQ vmlf) (hk : ∀ z : Int32, -1 ≤ z.toInt ∧ z.toInt ≤ 40 → z.toInt = (votd : Int32).toInt → LQ (upd vmlf (Int32.toNatClampNeg vat) z)) : Met l yX11_keep (wl yX11_keep cX11_keep 3 (some .boolean)) ({ frames := 0, cells := 0, slots := 0, locals := 0 }) (Pw (dC, dI) vwCl cy [(vo, .inr (12, [.int voth, .ref vmt, .int votp, .int vosz, .int volm, .int voto, .int vofr, .int vokd, .int vonu, .int vosg, .int vofa, .int vopl, .long vowd, .int votd, .ref vmn, .ref vmr, .ref vmk, .ref vms, .ref vma, .ref vmm, .ref vmrn, .ref vmkn, .ref vmik, .ref vmon, .int vosm, .int vohp, .ref vmw, .ref vmf, .ref vmb, .int vomb, .ref vmd, .ref vmc, .int vocm, .int voct, .int vocy, .ref vmx, .int votx, .int vose, .ref vml, .ref vmwr, .int voln, .int vohw, .ref vmno, .int vond, .int voon, .int vowi, .int votop])), (vml, .inl (cy 0, 160, .inl vmlf))] sz [.ref vo, .int vat, .int 1] nE) (Qi (dC, dI) vwCl (fun (r : Int32) (u : (Nat → Int32)) => ((r = 1)) ∧ (LQ u)) (O_m_keep_1 cy vo voth vmt votp vosz volm voto vofr vokd vonu vosg vofa vopl vowd votd vmn vmr vmk vms vma vmm vmrn vmkn vmik vmon vosm vohp vmw vmf vmb vomb vmd vmc vocm voct vocy vmx votx vose vml vmwr voln vohw vmno vond voon vowi votop vmlf vat) (va_A [(vo, .inr (12, [.int voth, .ref vmt, .int votp, .int vosz, .int volm, .int voto, .int vofr, .int vokd, .int vonu, .int vosg, .int vofa, .int vopl, .long vowd, .int votd, .ref vmn, .ref vmr, .ref vmk, .ref vms, .ref vma, .ref vmm, .ref vmrn, .ref vmkn, .ref vmik, .ref vmon, .int vosm, .int vohp, .ref vmw, .ref vmf, .ref vmb, .int vomb, .ref vmd, .ref vmc, .int vocm, .int voct, .int vocy, .ref vmx, .int votx, .int vose, .ref vml, .ref vmwr, .int voln, .int vohw, .ref vmno, .int vond, .int voon, .int vowi, .int votop])), (vml, .inl (cy 0, 160, .inl vmlf))] sz)) 0 0 (va_A [(vo, .inr (12, [.int voth, .ref vmt, .int votp, .int vosz, .int volm, .int voto, .int vofr, .int vokd, .int vonu, .int vosg, .int vofa, .int vopl, .long vowd, .int votd, .ref vmn, .ref vmr, .ref vmk, .ref vms, .ref vma, .ref vmm, .ref vmrn, .ref vmkn, .ref vmik, .ref vmon, .int vosm, .int vohp, .ref vmw, .ref vmf, .ref vmb, .int vomb, .ref vmd, .ref vmc, .int vocm, .int voct, .int vocy, .ref vmx, .int votx, .int vose, .ref vml, .ref vmwr, .int voln, .int vohw, .ref vmno, .int vond, .int voon, .int vowi, .int votop])), (vml, .inl (cy 0, 160, .inl vmlf))] sz) := by
  refine mw (Qc := Qi (dC, dI) vwCl (fun (r : Int32) (u : (Nat → Int32)) => ((r = 1)) ∧ (LQ u)) (O_m_keep_1 cy vo voth vmt votp vosz volm voto vofr vokd vonu vosg vofa vopl vowd votd vmn vmr vmk vms vma vmm vmrn vmkn vmik vmon vosm vohp vmw vmf vmb vomb vmd vmc vocm voct vocy vmx votx vose vml vmwr voln vohw vmno vond voon vowi votop vmlf vat)) RX11 rfl (by decide +kernel) (Nat.le_of_ble_eq_true rfl) ?_
  intro p e s m below meth c A hx hb hr hlocks av9 hav hts hown hnm hml hK hP hD hA hS hE hAe Q9 hQ9 ls hl
  have hl : lv_has ls 3 [(0, .ref vo), (1, .int vat), (2, .int 1)] := hl
  refine lv_iload_n hx hb dX11_keep_0 rfl (lv_at hl 2 rfl) ?_
  refine lv_if_eq (tgt := 14) hx hb dX11_keep_1 (by decide) (fun c9 => absurd c9 (by decide)) (fun _ => ?_)
  refine lv_aload_n hx hb dX11_keep_4 rfl (lv_at hl 0 rfl) ?_
  refine gf_X11_151 hx hb hts hown hK hP 0 rfl rfl dX11_keep_5 ?_
  refine lv_iload_n hx hb dX11_keep_8 rfl (lv_at hl 1 rfl) ?_
  refine lv_aload_n hx hb dX11_keep_9 rfl (lv_at hl 0 rfl) ?_
  refine gf_X11_79 hx hb hts hown hK hP 0 rfl rfl dX11_keep_10 ?_
  have hin_1 : vp_in vat 160 := vp_in_iff.mpr ⟨by omega, by omega⟩
  refine va_iast hx hb hK hP hD hS 1 0 rfl rfl hin_1 dX11_keep_13 (fun H locs hP hD hS => ?_)
  obtain ⟨f_2, ef_2⟩ : ∃ z : Nat → Int32, z = upd vmlf (Int32.toNatClampNeg vat) votd := ⟨_, rfl⟩
  have hP : va_P (dC, dI) vwCl [(vo, .inr (12, [.int voth, .ref vmt, .int votp, .int vosz, .int volm, .int voto, .int vofr, .int vokd, .int vonu, .int vosg, .int vofa, .int vopl, .long vowd, .int votd, .ref vmn, .ref vmr, .ref vmk, .ref vms, .ref vma, .ref vmm, .ref vmrn, .ref vmkn, .ref vmik, .ref vmon, .int vosm, .int vohp, .ref vmw, .ref vmf, .ref vmb, .int vomb, .ref vmd, .ref vmc, .int vocm, .int voct, .int vocy, .ref vmx, .int votx, .int vose, .ref vml, .ref vmwr, .int voln, .int vohw, .ref vmno, .int vond, .int voon, .int vowi, .int votop])), (vml, .inl (cy 0, 160, .inl f_2))] H := by rw [ef_2]; exact hP
  have hD : va_D A [(vo, .inr (12, [.int voth, .ref vmt, .int votp, .int vosz, .int volm, .int voto, .int vofr, .int vokd, .int vonu, .int vosg, .int vofa, .int vopl, .long vowd, .int votd, .ref vmn, .ref vmr, .ref vmk, .ref vms, .ref vma, .ref vmm, .ref vmrn, .ref vmkn, .ref vmik, .ref vmon, .int vosm, .int vohp, .ref vmw, .ref vmf, .ref vmb, .int vomb, .ref vmd, .ref vmc, .int vocm, .int voct, .int vocy, .ref vmx, .int votx, .int vose, .ref vml, .ref vmwr, .int voln, .int vohw, .ref vmno, .int vond, .int voon, .int vowi, .int votop])), (vml, .inl (cy 0, 160, .inl f_2))] := by rw [ef_2]; exact hD
  have p_f_2 : LQ f_2 := by rw [ef_2]; exact hk _ ⟨by omega, by omega⟩ rfl
  refine lv_iload_n hx hb dX11_keep_14 rfl (lv_at hl 2 rfl) ?_
  have k_1 : (1 : Int32).toInt = 1 := by decide
  rw [hQ9]
  exact re_z f_2 hx hb hr hlocks (Or.inr rfl) ⟨(show ((1 : Int32) = 1) from (rfl)), (show LQ f_2 from p_f_2)⟩ (hP.sub [0, 1] rfl) (hD.sub [0, 1] rfl rfl) hS dX11_keep_15
abbrev cX11_readDoes : ByteArray := prog_13_method_112_code
def yX11_readDoes : MethodName := ⟨RX11, "readDoes", "(I)Z"⟩
theorem t1990 : Cond.code yX11_readDoes cX11_readDoes 3 (some .boolean) ∈ GW := gw_mem 2104 (by decide +kernel) (by decide +kernel)
theorem dX11_readDoes_23 : decode cX11_readDoes 23 = .ok (.iload_n 2, 1) := by decide +kernel
theorem dX11_readDoes_24 : decode cX11_readDoes 24 = .ok (.bipush 13, 2) := by decide +kernel
theorem dX11_readDoes_26 : decode cX11_readDoes 26 = .ok (.if_icmp .le 9, 3) := by decide +kernel
theorem dX11_readDoes_35 : decode cX11_readDoes 35 = .ok (.aload_n 0, 1) := by decide +kernel
theorem dX11_readDoes_36 : decode cX11_readDoes 36 = .ok (.getfield 151, 3) := by decide +kernel
theorem dX11_readDoes_39 : decode cX11_readDoes 39 = .ok (.iload_n 1, 1) := by decide +kernel
theorem dX11_readDoes_40 : decode cX11_readDoes 40 = .ok (.iload_n 2, 1) := by decide +kernel
theorem dX11_readDoes_41 : decode cX11_readDoes 41 = .ok (.bipush 8, 2) := by decide +kernel
theorem dX11_readDoes_43 : decode cX11_readDoes 43 = .ok (.isub, 1) := by decide +kernel
theorem dX11_readDoes_44 : decode cX11_readDoes 44 = .ok (.iastore, 1) := by decide +kernel
theorem dX11_readDoes_45 : decode cX11_readDoes 45 = .ok (.aload_n 0, 1) := by decide +kernel
theorem dX11_readDoes_46 : decode cX11_readDoes 46 = .ok (.invokevirtual 82, 3) := by decide +kernel
theorem dX11_readDoes_49 : decode cX11_readDoes 49 = .ok (.aload_n 0, 1) := by decide +kernel
theorem dX11_readDoes_50 : decode cX11_readDoes 50 = .ok (.getfield 151, 3) := by decide +kernel
theorem dX11_readDoes_53 : decode cX11_readDoes 53 = .ok (.iload_n 1, 1) := by decide +kernel
theorem dX11_readDoes_54 : decode cX11_readDoes 54 = .ok (.iaload, 1) := by decide +kernel
theorem dX11_readDoes_55 : decode cX11_readDoes 55 = .ok (.tableswitch 116 0 4 #[33, 45, 116, 79, 79], 33) := by decide +kernel
theorem dX11_readDoes_88 : decode cX11_readDoes 88 = .ok (.aload_n 0, 1) := by decide +kernel
theorem dX11_readDoes_89 : decode cX11_readDoes 89 = .ok (.iload_n 1, 1) := by decide +kernel
theorem dX11_readDoes_90 : decode cX11_readDoes 90 = .ok (.iconst 2, 1) := by decide +kernel
theorem dX11_readDoes_91 : decode cX11_readDoes 91 = .ok (.iadd, 1) := by decide +kernel
theorem dX11_readDoes_92 : decode cX11_readDoes 92 = .ok (.aload_n 0, 1) := by decide +kernel
theorem dX11_readDoes_93 : decode cX11_readDoes 93 = .ok (.invokevirtual 373, 3) := by decide +kernel
theorem t1991 : Cond.methodLink RX11 373 yX11_readDeedName ∈ GW := gw_mem 2105 (by decide +kernel) (by decide +kernel)
theorem t1993 : Cond.instanceMethod yX11_readDeedName ∈ GW := gw_mem 2107 (by decide +kernel) (by decide +kernel)
theorem s100 : Cond.selects RX11 yX11_readDeedName yX11_readDeedName ∈ GW := gw_mem 100 (by decide +kernel) (by decide +kernel)
theorem cw_X11_373 {R : Room} {s : State} {args : Array Value} {rm : Room} {mc ms : Nat} (hts : ∀ w ∈ GW, w.before args s = true) (hrc : rm.cells = mc) (hrs : rm.slots = ms) (hR : rm.frames + 1 ≤ R.frames ∧ 8 + (1 + 11) + rm.locals ≤ R.locals) : CallW R s args RX11 RX11 373 yX11_readDeedName cX11_readDeedName 1 (some .boolean) (wl yX11_readDeedName cX11_readDeedName 1 (some .boolean)) rm mc ms 0 := cwV 0 hts (gi_V t1991 t1993 s100 t18 t1994) rfl hrc hrs (by decide +kernel) hR
theorem dX11_readDoes_96 : decode cX11_readDoes 96 = .ok (.invokevirtual 376, 3) := by decide +kernel
theorem t1983 : Cond.methodLink RX11 376 yX11_keep ∈ GW := gw_mem 2097 (by decide +kernel) (by decide +kernel)
theorem t1985 : Cond.instanceMethod yX11_keep ∈ GW := gw_mem 2099 (by decide +kernel) (by decide +kernel)
theorem s98 : Cond.selects RX11 yX11_keep yX11_keep ∈ GW := gw_mem 98 (by decide +kernel) (by decide +kernel)
theorem cw_X11_376 {R : Room} {s : State} {args : Array Value} {rm : Room} {mc ms : Nat} (hts : ∀ w ∈ GW, w.before args s = true) (hrc : rm.cells = mc) (hrs : rm.slots = ms) (hR : rm.frames + 1 ≤ R.frames ∧ 8 + (3 + 11) + rm.locals ≤ R.locals) : CallW R s args RX11 RX11 376 yX11_keep cX11_keep 3 (some .boolean) (wl yX11_keep cX11_keep 3 (some .boolean)) rm mc ms 2 := cwV 2 hts (gi_V t1983 t1985 s98 t18 t1986) rfl hrc hrs (by decide +kernel) hR
theorem dX11_readDoes_99 : decode cX11_readDoes 99 = .ok (.ireturn, 1) := by decide +kernel
theorem dX11_readDoes_100 : decode cX11_readDoes 100 = .ok (.aload_n 0, 1) := by decide +kernel
theorem dX11_readDoes_101 : decode cX11_readDoes 101 = .ok (.iload_n 1, 1) := by decide +kernel
theorem dX11_readDoes_102 : decode cX11_readDoes 102 = .ok (.iconst 2, 1) := by decide +kernel
theorem dX11_readDoes_103 : decode cX11_readDoes 103 = .ok (.iadd, 1) := by decide +kernel
theorem dX11_readDoes_104 : decode cX11_readDoes 104 = .ok (.aload_n 0, 1) := by decide +kernel
theorem dX11_readDoes_105 : decode cX11_readDoes 105 = .ok (.invokevirtual 379, 3) := by decide +kernel
theorem t1999 : Cond.methodLink RX11 379 yX11_readManName ∈ GW := gw_mem 2113 (by decide +kernel) (by decide +kernel)
theorem t2001 : Cond.instanceMethod yX11_readManName ∈ GW := gw_mem 2115 (by decide +kernel) (by decide +kernel)
theorem s102 : Cond.selects RX11 yX11_readManName yX11_readManName ∈ GW := gw_mem 102 (by decide +kernel) (by decide +kernel)
theorem cw_X11_379 {R : Room} {s : State} {args : Array Value} {rm : Room} {mc ms : Nat} (hts : ∀ w ∈ GW, w.before args s = true) (hrc : rm.cells = mc) (hrs : rm.slots = ms) (hR : rm.frames + 1 ≤ R.frames ∧ 8 + (1 + 11) + rm.locals ≤ R.locals) : CallW R s args RX11 RX11 379 yX11_readManName cX11_readManName 1 (some .boolean) (wl yX11_readManName cX11_readManName 1 (some .boolean)) rm mc ms 0 := cwV 0 hts (gi_V t1999 t2001 s102 t18 t2002) rfl hrc hrs (by decide +kernel) hR
theorem dX11_readDoes_108 : decode cX11_readDoes 108 = .ok (.invokevirtual 376, 3) := by decide +kernel
theorem dX11_readDoes_111 : decode cX11_readDoes 111 = .ok (.ifCond .eq 21, 3) := by decide +kernel
theorem dX11_readDoes_132 : decode cX11_readDoes 132 = .ok (.iconst 0, 1) := by decide +kernel
theorem dX11_readDoes_133 : decode cX11_readDoes 133 = .ok (.ireturn, 1) := by decide +kernel
theorem dX11_readDoes_114 : decode cX11_readDoes 114 = .ok (.aload_n 0, 1) := by decide +kernel
theorem dX11_readDoes_115 : decode cX11_readDoes 115 = .ok (.iload_n 1, 1) := by decide +kernel
theorem dX11_readDoes_116 : decode cX11_readDoes 116 = .ok (.iconst 3, 1) := by decide +kernel
theorem dX11_readDoes_117 : decode cX11_readDoes 117 = .ok (.iadd, 1) := by decide +kernel
theorem dX11_readDoes_118 : decode cX11_readDoes 118 = .ok (.aload_n 0, 1) := by decide +kernel
theorem dX11_readDoes_119 : decode cX11_readDoes 119 = .ok (.invokevirtual 373, 3) := by decide +kernel
theorem dX11_readDoes_122 : decode cX11_readDoes 122 = .ok (.invokevirtual 376, 3) := by decide +kernel
theorem dX11_readDoes_125 : decode cX11_readDoes 125 = .ok (.ifCond .eq 7, 3) := by decide +kernel
theorem dX11_readDoes_128 : decode cX11_readDoes 128 = .ok (.iconst 1, 1) := by decide +kernel
theorem dX11_readDoes_129 : decode cX11_readDoes 129 = .ok (.goto 4, 3) := by decide +kernel
theorem dX11_readDoes_171 : decode cX11_readDoes 171 = .ok (.iconst 1, 1) := by decide +kernel
theorem dX11_readDoes_172 : decode cX11_readDoes 172 = .ok (.ireturn, 1) := by decide +kernel
theorem dX11_readDoes_134 : decode cX11_readDoes 134 = .ok (.aload_n 0, 1) := by decide +kernel
theorem dX11_readDoes_135 : decode cX11_readDoes 135 = .ok (.iload_n 1, 1) := by decide +kernel
theorem dX11_readDoes_136 : decode cX11_readDoes 136 = .ok (.iconst 2, 1) := by decide +kernel
theorem dX11_readDoes_137 : decode cX11_readDoes 137 = .ok (.iadd, 1) := by decide +kernel
theorem dX11_readDoes_138 : decode cX11_readDoes 138 = .ok (.aload_n 0, 1) := by decide +kernel
theorem dX11_readDoes_139 : decode cX11_readDoes 139 = .ok (.invokevirtual 379, 3) := by decide +kernel
theorem dX11_readDoes_142 : decode cX11_readDoes 142 = .ok (.invokevirtual 376, 3) := by decide +kernel
theorem dX11_readDoes_145 : decode cX11_readDoes 145 = .ok (.ifCond .eq 24, 3) := by decide +kernel
theorem dX11_readDoes_169 : decode cX11_readDoes 169 = .ok (.iconst 0, 1) := by decide +kernel
theorem dX11_readDoes_170 : decode cX11_readDoes 170 = .ok (.ireturn, 1) := by decide +kernel
theorem dX11_readDoes_148 : decode cX11_readDoes 148 = .ok (.aload_n 0, 1) := by decide +kernel
theorem dX11_readDoes_149 : decode cX11_readDoes 149 = .ok (.iload_n 1, 1) := by decide +kernel
theorem dX11_readDoes_150 : decode cX11_readDoes 150 = .ok (.iconst 3, 1) := by decide +kernel
theorem dX11_readDoes_151 : decode cX11_readDoes 151 = .ok (.iadd, 1) := by decide +kernel
theorem dX11_readDoes_152 : decode cX11_readDoes 152 = .ok (.aload_n 0, 1) := by decide +kernel
theorem dX11_readDoes_153 : decode cX11_readDoes 153 = .ok (.iconst 1, 1) := by decide +kernel
theorem dX11_readDoes_154 : decode cX11_readDoes 154 = .ok (.bipush 40, 2) := by decide +kernel
theorem dX11_readDoes_156 : decode cX11_readDoes 156 = .ok (.invokevirtual 178, 3) := by decide +kernel
theorem dX11_readDoes_159 : decode cX11_readDoes 159 = .ok (.invokevirtual 376, 3) := by decide +kernel
theorem dX11_readDoes_162 : decode cX11_readDoes 162 = .ok (.ifCond .eq 7, 3) := by decide +kernel
theorem dX11_readDoes_165 : decode cX11_readDoes 165 = .ok (.iconst 1, 1) := by decide +kernel
theorem dX11_readDoes_166 : decode cX11_readDoes 166 = .ok (.goto 4, 3) := by decide +kernel
theorem dX11_readDoes_29 : decode cX11_readDoes 29 = .ok (.aload_n 0, 1) := by decide +kernel
theorem dX11_readDoes_30 : decode cX11_readDoes 30 = .ok (.iconst 1, 1) := by decide +kernel
theorem dX11_readDoes_31 : decode cX11_readDoes 31 = .ok (.invokevirtual 72, 3) := by decide +kernel
theorem dX11_readDoes_34 : decode cX11_readDoes 34 = .ok (.ireturn, 1) := by decide +kernel
theorem dX11_readDoes_0 : decode cX11_readDoes 0 = .ok (.bipush 8, 2) := by decide +kernel
theorem dX11_readDoes_2 : decode cX11_readDoes 2 = .ok (.istore_n 2, 1) := by decide +kernel
theorem dX11_readDoes_3 : decode cX11_readDoes 3 = .ok (.iload_n 2, 1) := by decide +kernel
theorem dX11_readDoes_4 : decode cX11_readDoes 4 = .ok (.bipush 13, 2) := by decide +kernel
theorem dX11_readDoes_6 : decode cX11_readDoes 6 = .ok (.if_icmp .gt 17, 3) := by decide +kernel
theorem dX11_readDoes_9 : decode cX11_readDoes 9 = .ok (.aload_n 0, 1) := by decide +kernel
theorem dX11_readDoes_10 : decode cX11_readDoes 10 = .ok (.iload_n 2, 1) := by decide +kernel
theorem dX11_readDoes_11 : decode cX11_readDoes 11 = .ok (.invokevirtual 185, 3) := by decide +kernel
theorem dX11_readDoes_14 : decode cX11_readDoes 14 = .ok (.ifCond .ne 9, 3) := by decide +kernel
theorem dX11_readDoes_17 : decode cX11_readDoes 17 = .ok (.iinc 2 1, 3) := by decide +kernel
theorem dX11_readDoes_20 : decode cX11_readDoes 20 = .ok (.goto (-17), 3) := by decide +kernel
theorem lk_at {f : Nat → Int32} {n x v : Int32} {d : Nat} (hn : 0 ≤ n.toInt) (hx : x.toInt = 4 * n.toInt + d) : upd f x.toNatClampNeg v (4 * n.toNatClampNeg + d) = v := by
  have q0 := cl_nn (x := x) (by omega)
  have q1 := cl_nn (x := n) (by omega)
  rw [up_if, if_pos (by omega)]
theorem lk_un {f : Nat → Int32} {n x v : Int32} {d : Nat} {d' : Int} (hn : 0 ≤ n.toInt) (hd : d' ≠ d) (h0 : 0 ≤ d') (hx : x.toInt = 4 * n.toInt + d') : upd f x.toNatClampNeg v (4 * n.toNatClampNeg + d) = f (4 * n.toNatClampNeg + d) := by
  have q0 := cl_nn (x := x) (by omega)
  have q1 := cl_nn (x := n) (by omega)
  rw [up_if, if_neg (by omega)]
abbrev cX11_readBookLine : ByteArray := prog_13_method_113_code
def yX11_readBookLine : MethodName := ⟨RX11, "readBookLine", "()Z"⟩
theorem t1982 : Cond.code yX11_readBookLine cX11_readBookLine 3 (some .boolean) ∈ GW := gw_mem 2096 (by decide +kernel) (by decide +kernel)
theorem dX11_readBookLine_0 : decode cX11_readBookLine 0 = .ok (.aload_n 0, 1) := by decide +kernel
theorem dX11_readBookLine_1 : decode cX11_readBookLine 1 = .ok (.bipush 14, 2) := by decide +kernel
theorem dX11_readBookLine_3 : decode cX11_readBookLine 3 = .ok (.invokevirtual 185, 3) := by decide +kernel
theorem dX11_readBookLine_6 : decode cX11_readBookLine 6 = .ok (.istore_n 1, 1) := by decide +kernel
theorem dX11_readBookLine_7 : decode cX11_readBookLine 7 = .ok (.iload_n 1, 1) := by decide +kernel
theorem dX11_readBookLine_8 : decode cX11_readBookLine 8 = .ok (.ifCond .ne 44, 3) := by decide +kernel
theorem dX11_readBookLine_11 : decode cX11_readBookLine 11 = .ok (.aload_n 0, 1) := by decide +kernel
theorem dX11_readBookLine_12 : decode cX11_readBookLine 12 = .ok (.invokevirtual 163, 3) := by decide +kernel
theorem dX11_readBookLine_15 : decode cX11_readBookLine 15 = .ok (.ifCond .ne 9, 3) := by decide +kernel
theorem dX11_readBookLine_18 : decode cX11_readBookLine 18 = .ok (.aload_n 0, 1) := by decide +kernel
theorem dX11_readBookLine_19 : decode cX11_readBookLine 19 = .ok (.iconst 1, 1) := by decide +kernel
theorem dX11_readBookLine_20 : decode cX11_readBookLine 20 = .ok (.invokevirtual 72, 3) := by decide +kernel
theorem dX11_readBookLine_23 : decode cX11_readBookLine 23 = .ok (.ireturn, 1) := by decide +kernel
theorem dX11_readBookLine_24 : decode cX11_readBookLine 24 = .ok (.aload_n 0, 1) := by decide +kernel
theorem dX11_readBookLine_25 : decode cX11_readBookLine 25 = .ok (.getfield 113, 3) := by decide +kernel
theorem dX11_readBookLine_28 : decode cX11_readBookLine 28 = .ok (.iconst 0, 1) := by decide +kernel
theorem dX11_readBookLine_29 : decode cX11_readBookLine 29 = .ok (.aload_n 0, 1) := by decide +kernel
theorem dX11_readBookLine_30 : decode cX11_readBookLine 30 = .ok (.getfield 98, 3) := by decide +kernel
theorem dX11_readBookLine_33 : decode cX11_readBookLine 33 = .ok (.iconst 0, 1) := by decide +kernel
theorem dX11_readBookLine_34 : decode cX11_readBookLine 34 = .ok (.iaload, 1) := by decide +kernel
theorem dX11_readBookLine_35 : decode cX11_readBookLine 35 = .ok (.aload_n 0, 1) := by decide +kernel
theorem dX11_readBookLine_36 : decode cX11_readBookLine 36 = .ok (.getfield 43, 3) := by decide +kernel
theorem dX11_readBookLine_39 : decode cX11_readBookLine 39 = .ok (.invokestatic 167, 3) := by decide +kernel
theorem dX11_readBookLine_42 : decode cX11_readBookLine 42 = .ok (.iconst (-1), 1) := by decide +kernel
theorem dX11_readBookLine_43 : decode cX11_readBookLine 43 = .ok (.if_icmp .ne 9, 3) := by decide +kernel
theorem dX11_readBookLine_52 : decode cX11_readBookLine 52 = .ok (.aload_n 0, 1) := by decide +kernel
theorem dX11_readBookLine_53 : decode cX11_readBookLine 53 = .ok (.getfield 382, 3) := by decide +kernel
theorem t1482 : Cond.fieldLink RX11 382 "LikenessPoundModel" "lineMany" "I" ∈ GW := gw_mem 1596 (by decide +kernel) (by decide +kernel)
theorem gf_X11_382 {p : Program} {l : Launch} {e : Env} {R : Room} {s : State} {m : MethodId} {args : Array Value} {below : List Frame} {meth : Method} {c : Code} {H : Heap} {locs : List Loc} {cells slots : Nat} {Q : State → Prop} {cc : ByteArray} {pc : Nat} {ls : Array Slot} {rest : List Value} {D : va_G} {a : Nat} {tys : List (ClassId × FieldType)} {ws : va_W} (hx : p.tables.exec = Jvm.exec) (hb : c.code = cc) (hts : ∀ w ∈ GW, w.before args s = true) (hown : s.vm.findClass RX11 = some m.cls) (hK : va_K D vwCl tys s) (hP : va_P D vwCl ws H) (q0 : Nat) {fs : List Value} (he : ws[q0]? = some (a, .inr (12, fs))) {v : Value} (hv : fs[40]? = some v) (hdg : decode cc pc = .ok (.getfield 382, 3)) (kk : W p l e R s m args below meth c H locs cells slots Q (F0 m (pc + 3) ls (v :: rest))) : W p l e R s m args below meth c H locs cells slots Q (F0 m pc ls (.ref a :: rest)) := va_get (C := RX11) (T := TX11) (N := 47) (ci := 12) hx hb hts inX11 hown hK hP q0 he rfl 40 (by decide) (hts _ t1482) (fun _ h => h) hv hdg kk
theorem dX11_readBookLine_56 : decode cX11_readBookLine 56 = .ok (.bipush 40, 2) := by decide +kernel
theorem dX11_readBookLine_58 : decode cX11_readBookLine 58 = .ok (.if_icmp .ne 9, 3) := by decide +kernel
theorem dX11_readBookLine_67 : decode cX11_readBookLine 67 = .ok (.iconst 4, 1) := by decide +kernel
theorem dX11_readBookLine_68 : decode cX11_readBookLine 68 = .ok (.aload_n 0, 1) := by decide +kernel
theorem dX11_readBookLine_69 : decode cX11_readBookLine 69 = .ok (.getfield 382, 3) := by decide +kernel
theorem dX11_readBookLine_72 : decode cX11_readBookLine 72 = .ok (.imul, 1) := by decide +kernel
theorem dX11_readBookLine_73 : decode cX11_readBookLine 73 = .ok (.istore_n 2, 1) := by decide +kernel
theorem dX11_readBookLine_74 : decode cX11_readBookLine 74 = .ok (.aload_n 0, 1) := by decide +kernel
theorem dX11_readBookLine_75 : decode cX11_readBookLine 75 = .ok (.getfield 151, 3) := by decide +kernel
theorem dX11_readBookLine_78 : decode cX11_readBookLine 78 = .ok (.iload_n 2, 1) := by decide +kernel
theorem dX11_readBookLine_79 : decode cX11_readBookLine 79 = .ok (.bipush 6, 2) := by decide +kernel
theorem dX11_readBookLine_81 : decode cX11_readBookLine 81 = .ok (.iastore, 1) := by decide +kernel
theorem dX11_readBookLine_82 : decode cX11_readBookLine 82 = .ok (.aload_n 0, 1) := by decide +kernel
theorem dX11_readBookLine_83 : decode cX11_readBookLine 83 = .ok (.getfield 151, 3) := by decide +kernel
theorem dX11_readBookLine_86 : decode cX11_readBookLine 86 = .ok (.iload_n 2, 1) := by decide +kernel
theorem dX11_readBookLine_87 : decode cX11_readBookLine 87 = .ok (.iconst 1, 1) := by decide +kernel
theorem dX11_readBookLine_88 : decode cX11_readBookLine 88 = .ok (.iadd, 1) := by decide +kernel
theorem dX11_readBookLine_89 : decode cX11_readBookLine 89 = .ok (.iload_n 1, 1) := by decide +kernel
theorem dX11_readBookLine_90 : decode cX11_readBookLine 90 = .ok (.ifCond .eq 7, 3) := by decide +kernel
theorem dX11_readBookLine_97 : decode cX11_readBookLine 97 = .ok (.aload_n 0, 1) := by decide +kernel
theorem dX11_readBookLine_98 : decode cX11_readBookLine 98 = .ok (.getfield 113, 3) := by decide +kernel
theorem dX11_readBookLine_101 : decode cX11_readBookLine 101 = .ok (.iconst 0, 1) := by decide +kernel
theorem dX11_readBookLine_102 : decode cX11_readBookLine 102 = .ok (.aload_n 0, 1) := by decide +kernel
theorem dX11_readBookLine_103 : decode cX11_readBookLine 103 = .ok (.getfield 98, 3) := by decide +kernel
theorem dX11_readBookLine_106 : decode cX11_readBookLine 106 = .ok (.iconst 0, 1) := by decide +kernel
theorem dX11_readBookLine_107 : decode cX11_readBookLine 107 = .ok (.iaload, 1) := by decide +kernel
theorem dX11_readBookLine_108 : decode cX11_readBookLine 108 = .ok (.aload_n 0, 1) := by decide +kernel
theorem dX11_readBookLine_109 : decode cX11_readBookLine 109 = .ok (.getfield 43, 3) := by decide +kernel
theorem dX11_readBookLine_112 : decode cX11_readBookLine 112 = .ok (.invokestatic 167, 3) := by decide +kernel
theorem dX11_readBookLine_115 : decode cX11_readBookLine 115 = .ok (.iastore, 1) := by decide +kernel
theorem dX11_readBookLine_116 : decode cX11_readBookLine 116 = .ok (.aload_n 0, 1) := by decide +kernel
theorem dX11_readBookLine_117 : decode cX11_readBookLine 117 = .ok (.getfield 151, 3) := by decide +kernel
theorem dX11_readBookLine_120 : decode cX11_readBookLine 120 = .ok (.iload_n 2, 1) := by decide +kernel
theorem dX11_readBookLine_121 : decode cX11_readBookLine 121 = .ok (.iconst 2, 1) := by decide +kernel
theorem dX11_readBookLine_122 : decode cX11_readBookLine 122 = .ok (.iadd, 1) := by decide +kernel
theorem dX11_readBookLine_123 : decode cX11_readBookLine 123 = .ok (.iconst 0, 1) := by decide +kernel
theorem dX11_readBookLine_124 : decode cX11_readBookLine 124 = .ok (.iastore, 1) := by decide +kernel
theorem dX11_readBookLine_125 : decode cX11_readBookLine 125 = .ok (.aload_n 0, 1) := by decide +kernel
theorem dX11_readBookLine_126 : decode cX11_readBookLine 126 = .ok (.getfield 151, 3) := by decide +kernel
theorem dX11_readBookLine_129 : decode cX11_readBookLine 129 = .ok (.iload_n 2, 1) := by decide +kernel
theorem dX11_readBookLine_130 : decode cX11_readBookLine 130 = .ok (.iconst 3, 1) := by decide +kernel
theorem dX11_readBookLine_131 : decode cX11_readBookLine 131 = .ok (.iadd, 1) := by decide +kernel
theorem dX11_readBookLine_132 : decode cX11_readBookLine 132 = .ok (.iconst 0, 1) := by decide +kernel
theorem dX11_readBookLine_133 : decode cX11_readBookLine 133 = .ok (.iastore, 1) := by decide +kernel
theorem dX11_readBookLine_134 : decode cX11_readBookLine 134 = .ok (.aload_n 0, 1) := by decide +kernel
theorem dX11_readBookLine_135 : decode cX11_readBookLine 135 = .ok (.invokevirtual 82, 3) := by decide +kernel
theorem dX11_readBookLine_138 : decode cX11_readBookLine 138 = .ok (.iload_n 1, 1) := by decide +kernel
theorem dX11_readBookLine_139 : decode cX11_readBookLine 139 = .ok (.ifCond .eq 23, 3) := by decide +kernel
theorem dX11_readBookLine_162 : decode cX11_readBookLine 162 = .ok (.aload_n 0, 1) := by decide +kernel
theorem dX11_readBookLine_163 : decode cX11_readBookLine 163 = .ok (.iload_n 2, 1) := by decide +kernel
theorem dX11_readBookLine_164 : decode cX11_readBookLine 164 = .ok (.invokevirtual 385, 3) := by decide +kernel
theorem t1987 : Cond.methodLink RX11 385 yX11_readDoes ∈ GW := gw_mem 2101 (by decide +kernel) (by decide +kernel)
theorem t1989 : Cond.instanceMethod yX11_readDoes ∈ GW := gw_mem 2103 (by decide +kernel) (by decide +kernel)
theorem s99 : Cond.selects RX11 yX11_readDoes yX11_readDoes ∈ GW := gw_mem 99 (by decide +kernel) (by decide +kernel)
theorem cw_X11_385 {R : Room} {s : State} {args : Array Value} {rm : Room} {mc ms : Nat} (hts : ∀ w ∈ GW, w.before args s = true) (hrc : rm.cells = mc) (hrs : rm.slots = ms) (hR : rm.frames + 1 ≤ R.frames ∧ 8 + (3 + 11) + rm.locals ≤ R.locals) : CallW R s args RX11 RX11 385 yX11_readDoes cX11_readDoes 3 (some .boolean) (wl yX11_readDoes cX11_readDoes 3 (some .boolean)) rm mc ms 1 := cwV 1 hts (gi_V t1987 t1989 s99 t18 t1990) rfl hrc hrs (by decide +kernel) hR
theorem dX11_readBookLine_167 : decode cX11_readBookLine 167 = .ok (.ifCond .eq 14, 3) := by decide +kernel
theorem dX11_readBookLine_181 : decode cX11_readBookLine 181 = .ok (.iconst 0, 1) := by decide +kernel
theorem dX11_readBookLine_182 : decode cX11_readBookLine 182 = .ok (.ireturn, 1) := by decide +kernel
theorem dX11_readBookLine_170 : decode cX11_readBookLine 170 = .ok (.aload_n 0, 1) := by decide +kernel
theorem dX11_readBookLine_171 : decode cX11_readBookLine 171 = .ok (.invokevirtual 222, 3) := by decide +kernel
theorem dX11_readBookLine_174 : decode cX11_readBookLine 174 = .ok (.ifCond .eq 7, 3) := by decide +kernel
theorem dX11_readBookLine_177 : decode cX11_readBookLine 177 = .ok (.iconst 1, 1) := by decide +kernel
theorem dX11_readBookLine_178 : decode cX11_readBookLine 178 = .ok (.goto 4, 3) := by decide +kernel
theorem dX11_readBookLine_61 : decode cX11_readBookLine 61 = .ok (.aload_n 0, 1) := by decide +kernel
theorem dX11_readBookLine_62 : decode cX11_readBookLine 62 = .ok (.iconst 4, 1) := by decide +kernel
theorem dX11_readBookLine_63 : decode cX11_readBookLine 63 = .ok (.invokevirtual 72, 3) := by decide +kernel
theorem dX11_readBookLine_66 : decode cX11_readBookLine 66 = .ok (.ireturn, 1) := by decide +kernel
theorem dX11_readBookLine_46 : decode cX11_readBookLine 46 = .ok (.aload_n 0, 1) := by decide +kernel
theorem dX11_readBookLine_47 : decode cX11_readBookLine 47 = .ok (.iconst 3, 1) := by decide +kernel
theorem dX11_readBookLine_48 : decode cX11_readBookLine 48 = .ok (.invokevirtual 72, 3) := by decide +kernel
theorem dX11_readBookLine_51 : decode cX11_readBookLine 51 = .ok (.ireturn, 1) := by decide +kernel
theorem dX11_readBookLine_93 : decode cX11_readBookLine 93 = .ok (.iconst 0, 1) := by decide +kernel
theorem dX11_readBookLine_94 : decode cX11_readBookLine 94 = .ok (.goto 21, 3) := by decide +kernel
theorem dX11_readBookLine_142 : decode cX11_readBookLine 142 = .ok (.aload_n 0, 1) := by decide +kernel
theorem dX11_readBookLine_143 : decode cX11_readBookLine 143 = .ok (.iload_n 2, 1) := by decide +kernel
theorem dX11_readBookLine_144 : decode cX11_readBookLine 144 = .ok (.iconst 1, 1) := by decide +kernel
theorem dX11_readBookLine_145 : decode cX11_readBookLine 145 = .ok (.iadd, 1) := by decide +kernel
theorem dX11_readBookLine_146 : decode cX11_readBookLine 146 = .ok (.aload_n 0, 1) := by decide +kernel
theorem dX11_readBookLine_147 : decode cX11_readBookLine 147 = .ok (.iconst 1, 1) := by decide +kernel
theorem dX11_readBookLine_148 : decode cX11_readBookLine 148 = .ok (.bipush 30, 2) := by decide +kernel
theorem dX11_readBookLine_150 : decode cX11_readBookLine 150 = .ok (.invokevirtual 178, 3) := by decide +kernel
theorem dX11_readBookLine_153 : decode cX11_readBookLine 153 = .ok (.invokevirtual 376, 3) := by decide +kernel
theorem dX11_readBookLine_156 : decode cX11_readBookLine 156 = .ok (.ifCond .eq 25, 3) := by decide +kernel
theorem dX11_readBookLine_159 : decode cX11_readBookLine 159 = .ok (.goto 11, 3) := by decide +kernel
abbrev cX11_goBy : ByteArray := prog_13_method_114_code
def yX11_goBy : MethodName := ⟨RX11, "goBy", "(I)I"⟩
theorem t2006 : Cond.code yX11_goBy cX11_goBy 4 (some .int) ∈ GW := gw_mem 2120 (by decide +kernel) (by decide +kernel)
abbrev O_m_goBy (cy : Nat → ClassId) (vnh : Nat → Int32) (vo : Nat) (voth : Int32) (vmt : Nat) (votp : Int32) (vosz : Int32) (volm : Int32) (voto : Int32) (vofr : Int32) (vokd : Int32) (vonu : Int32) (vosg : Int32) (vofa : Int32) (vopl : Int32) (vowd : Int64) (votd : Int32) (vmn : Nat) (vmr : Nat) (vmk : Nat) (vms : Nat) (vma : Nat) (vmm : Nat) (vmrn : Nat) (vmkn : Nat) (vmik : Nat) (vmon : Nat) (vosm : Int32) (vohp : Int32) (vmw : Nat) (vmf : Nat) (vmb : Nat) (vomb : Int32) (vmd : Nat) (vmc : Nat) (vocm : Int32) (voct : Int32) (vocy : Int32) (vmx : Nat) (votx : Int32) (vose : Int32) (vml : Nat) (vmwr : Nat) (voln : Int32) (vohw : Int32) (vmno : Nat) (vond : Int32) (voon : Int32) (vowi : Int32) (votop : Int32) (vmnf : Nat → Int32) (vmlf : Nat → Int32) (vat : Int32) (u : (Nat → Int32)) : va_W := [(vo, .inr (12, [.int voth, .ref vmt, .int votp, .int vosz, .int volm, .int voto, .int vofr, .int vokd, .int vonu, .int vosg, .int vofa, .int vopl, .long vowd, .int votd, .ref vmn, .ref vmr, .ref vmk, .ref vms, .ref vma, .ref vmm, .ref vmrn, .ref vmkn, .ref vmik, .ref vmon, .int vosm, .int vohp, .ref vmw, .ref vmf, .ref vmb, .int vomb, .ref vmd, .ref vmc, .int vocm, .int voct, .int vocy, .ref vmx, .int votx, .int vose, .ref vml, .ref vmwr, .int voln, .int vohw, .ref vmno, .int vond, .int voon, .int vowi, .int votop])), (vmn, .inl (cy 0, 575, .inl u)), (vml, .inl (cy 0, 160, .inl vmlf))]
theorem dX11_goBy_0 : decode cX11_goBy 0 = .ok (.aload_n 0, 1) := by decide +kernel
theorem dX11_goBy_1 : decode cX11_goBy 1 = .ok (.getfield 151, 3) := by decide +kernel
theorem dX11_goBy_4 : decode cX11_goBy 4 = .ok (.iload_n 1, 1) := by decide +kernel
theorem dX11_goBy_5 : decode cX11_goBy 5 = .ok (.iconst 1, 1) := by decide +kernel
theorem dX11_goBy_6 : decode cX11_goBy 6 = .ok (.iadd, 1) := by decide +kernel
theorem dX11_goBy_7 : decode cX11_goBy 7 = .ok (.iaload, 1) := by decide +kernel
theorem dX11_goBy_8 : decode cX11_goBy 8 = .ok (.istore_n 2, 1) := by decide +kernel
theorem dX11_goBy_9 : decode cX11_goBy 9 = .ok (.aload_n 0, 1) := by decide +kernel
theorem dX11_goBy_10 : decode cX11_goBy 10 = .ok (.getfield 151, 3) := by decide +kernel
theorem dX11_goBy_13 : decode cX11_goBy 13 = .ok (.iload_n 1, 1) := by decide +kernel
theorem dX11_goBy_14 : decode cX11_goBy 14 = .ok (.iaload, 1) := by decide +kernel
theorem dX11_goBy_15 : decode cX11_goBy 15 = .ok (.bipush 6, 2) := by decide +kernel
theorem dX11_goBy_17 : decode cX11_goBy 17 = .ok (.if_icmp .ne 30, 3) := by decide +kernel
theorem dX11_goBy_47 : decode cX11_goBy 47 = .ok (.aload_n 0, 1) := by decide +kernel
theorem dX11_goBy_48 : decode cX11_goBy 48 = .ok (.aload_n 0, 1) := by decide +kernel
theorem dX11_goBy_49 : decode cX11_goBy 49 = .ok (.getfield 151, 3) := by decide +kernel
theorem dX11_goBy_52 : decode cX11_goBy 52 = .ok (.iload_n 1, 1) := by decide +kernel
theorem dX11_goBy_53 : decode cX11_goBy 53 = .ok (.iaload, 1) := by decide +kernel
theorem dX11_goBy_54 : decode cX11_goBy 54 = .ok (.iload_n 2, 1) := by decide +kernel
theorem dX11_goBy_55 : decode cX11_goBy 55 = .ok (.aload_n 0, 1) := by decide +kernel
theorem dX11_goBy_56 : decode cX11_goBy 56 = .ok (.getfield 151, 3) := by decide +kernel
theorem dX11_goBy_59 : decode cX11_goBy 59 = .ok (.iload_n 1, 1) := by decide +kernel
theorem dX11_goBy_60 : decode cX11_goBy 60 = .ok (.iconst 2, 1) := by decide +kernel
theorem dX11_goBy_61 : decode cX11_goBy 61 = .ok (.iadd, 1) := by decide +kernel
theorem dX11_goBy_62 : decode cX11_goBy 62 = .ok (.iaload, 1) := by decide +kernel
theorem dX11_goBy_63 : decode cX11_goBy 63 = .ok (.aload_n 0, 1) := by decide +kernel
theorem dX11_goBy_64 : decode cX11_goBy 64 = .ok (.getfield 151, 3) := by decide +kernel
theorem dX11_goBy_67 : decode cX11_goBy 67 = .ok (.iload_n 1, 1) := by decide +kernel
theorem dX11_goBy_68 : decode cX11_goBy 68 = .ok (.iconst 3, 1) := by decide +kernel
theorem dX11_goBy_69 : decode cX11_goBy 69 = .ok (.iadd, 1) := by decide +kernel
theorem dX11_goBy_70 : decode cX11_goBy 70 = .ok (.iaload, 1) := by decide +kernel
theorem dX11_goBy_71 : decode cX11_goBy 71 = .ok (.invokevirtual 274, 3) := by decide +kernel
theorem dX11_goBy_74 : decode cX11_goBy 74 = .ok (.istore_n 3, 1) := by decide +kernel
theorem dX11_goBy_75 : decode cX11_goBy 75 = .ok (.iload_n 3, 1) := by decide +kernel
theorem dX11_goBy_76 : decode cX11_goBy 76 = .ok (.ifCond .eq 15, 3) := by decide +kernel
theorem dX11_goBy_91 : decode cX11_goBy 91 = .ok (.aload_n 0, 1) := by decide +kernel
theorem dX11_goBy_92 : decode cX11_goBy 92 = .ok (.aload_n 0, 1) := by decide +kernel
theorem dX11_goBy_93 : decode cX11_goBy 93 = .ok (.getfield 151, 3) := by decide +kernel
theorem dX11_goBy_96 : decode cX11_goBy 96 = .ok (.iload_n 1, 1) := by decide +kernel
theorem dX11_goBy_97 : decode cX11_goBy 97 = .ok (.iaload, 1) := by decide +kernel
theorem dX11_goBy_98 : decode cX11_goBy 98 = .ok (.iload_n 2, 1) := by decide +kernel
theorem dX11_goBy_99 : decode cX11_goBy 99 = .ok (.aload_n 0, 1) := by decide +kernel
theorem dX11_goBy_100 : decode cX11_goBy 100 = .ok (.getfield 151, 3) := by decide +kernel
theorem dX11_goBy_103 : decode cX11_goBy 103 = .ok (.iload_n 1, 1) := by decide +kernel
theorem dX11_goBy_104 : decode cX11_goBy 104 = .ok (.iconst 2, 1) := by decide +kernel
theorem dX11_goBy_105 : decode cX11_goBy 105 = .ok (.iadd, 1) := by decide +kernel
theorem dX11_goBy_106 : decode cX11_goBy 106 = .ok (.iaload, 1) := by decide +kernel
theorem dX11_goBy_107 : decode cX11_goBy 107 = .ok (.aload_n 0, 1) := by decide +kernel
theorem dX11_goBy_108 : decode cX11_goBy 108 = .ok (.getfield 151, 3) := by decide +kernel
theorem dX11_goBy_111 : decode cX11_goBy 111 = .ok (.iload_n 1, 1) := by decide +kernel
theorem dX11_goBy_112 : decode cX11_goBy 112 = .ok (.iconst 3, 1) := by decide +kernel
theorem dX11_goBy_113 : decode cX11_goBy 113 = .ok (.iadd, 1) := by decide +kernel
theorem dX11_goBy_114 : decode cX11_goBy 114 = .ok (.iaload, 1) := by decide +kernel
theorem dX11_goBy_115 : decode cX11_goBy 115 = .ok (.invokevirtual 281, 3) := by decide +kernel
theorem dX11_goBy_118 : decode cX11_goBy 118 = .ok (.iconst 0, 1) := by decide +kernel
theorem dX11_goBy_119 : decode cX11_goBy 119 = .ok (.ireturn, 1) := by decide +kernel
theorem dX11_goBy_79 : decode cX11_goBy 79 = .ok (.bipush 10, 2) := by decide +kernel
theorem dX11_goBy_81 : decode cX11_goBy 81 = .ok (.aload_n 0, 1) := by decide +kernel
theorem dX11_goBy_82 : decode cX11_goBy 82 = .ok (.getfield 151, 3) := by decide +kernel
theorem dX11_goBy_85 : decode cX11_goBy 85 = .ok (.iload_n 1, 1) := by decide +kernel
theorem dX11_goBy_86 : decode cX11_goBy 86 = .ok (.iaload, 1) := by decide +kernel
theorem dX11_goBy_87 : decode cX11_goBy 87 = .ok (.imul, 1) := by decide +kernel
theorem dX11_goBy_88 : decode cX11_goBy 88 = .ok (.iload_n 3, 1) := by decide +kernel
theorem dX11_goBy_89 : decode cX11_goBy 89 = .ok (.iadd, 1) := by decide +kernel
theorem dX11_goBy_90 : decode cX11_goBy 90 = .ok (.ireturn, 1) := by decide +kernel
theorem dX11_goBy_20 : decode cX11_goBy 20 = .ok (.aload_n 0, 1) := by decide +kernel
theorem dX11_goBy_21 : decode cX11_goBy 21 = .ok (.getfield 98, 3) := by decide +kernel
theorem dX11_goBy_24 : decode cX11_goBy 24 = .ok (.sipush 157, 3) := by decide +kernel
theorem dX11_goBy_27 : decode cX11_goBy 27 = .ok (.iaload, 1) := by decide +kernel
theorem dX11_goBy_28 : decode cX11_goBy 28 = .ok (.iload_n 2, 1) := by decide +kernel
theorem dX11_goBy_29 : decode cX11_goBy 29 = .ok (.iadd, 1) := by decide +kernel
theorem dX11_goBy_30 : decode cX11_goBy 30 = .ok (.sipush 200, 3) := by decide +kernel
theorem dX11_goBy_33 : decode cX11_goBy 33 = .ok (.if_icmp .le 6, 3) := by decide +kernel
theorem dX11_goBy_39 : decode cX11_goBy 39 = .ok (.aload_n 0, 1) := by decide +kernel
theorem dX11_goBy_40 : decode cX11_goBy 40 = .ok (.iload_n 2, 1) := by decide +kernel
theorem dX11_goBy_41 : decode cX11_goBy 41 = .ok (.invokevirtual 294, 3) := by decide +kernel
theorem dX11_goBy_44 : decode cX11_goBy 44 = .ok (.pop, 1) := by decide +kernel
theorem dX11_goBy_45 : decode cX11_goBy 45 = .ok (.iconst 0, 1) := by decide +kernel
theorem dX11_goBy_46 : decode cX11_goBy 46 = .ok (.ireturn, 1) := by decide +kernel
theorem dX11_goBy_36 : decode cX11_goBy 36 = .ok (.bipush 61, 2) := by decide +kernel
theorem dX11_goBy_38 : decode cX11_goBy 38 = .ok (.ireturn, 1) := by decide +kernel
set_option maxHeartbeats 4000000 in
set_option maxRecDepth 100000 in
theorem m_goBy (l : Launch) (dC : Nat → ClassId) (dI : Nat → Nat → Nat) (cy : Nat → ClassId) (sz : Nat) (vnh : Nat → Int32) (vo : Nat) (voth : Int32) (vmt : Nat) (votp : Int32) (vosz : Int32) (volm : Int32) (voto : Int32) (vofr : Int32) (vokd : Int32) (vonu : Int32) (vosg : Int32) (vofa : Int32) (vopl : Int32) (vowd : Int64) (votd : Int32) (vmn : Nat) (vmr : Nat) (vmk : Nat) (vms : Nat) (vma : Nat) (vmm : Nat) (vmrn : Nat) (vmkn : Nat) (vmik : Nat) (vmon : Nat) (vosm : Int32) (vohp : Int32) (vmw : Nat) (vmf : Nat) (vmb : Nat) (vomb : Int32) (vmd : Nat) (vmc : Nat) (vocm : Int32) (voct : Int32) (vocy : Int32) (vmx : Nat) (votx : Int32) (vose : Int32) (vml : Nat) (vmwr : Nat) (voln : Int32) (vohw : Int32) (vmno : Nat) (vond : Int32) (voon : Int32) (vowi : Int32) (votop : Int32) (vmnf : Nat → Int32) (vmlf : Nat → Int32) (vat : Int32) (r_vat : 0 ≤ (vat : Int32).toInt ∧ (vat : Int32).toInt ≤ 156) (p_vmnf : NW vnh vmnf) (p_vmlf : LQ vmlf) (hq : 4 * ((vat : Int32).toInt / 4) = (vat : Int32).toInt) : Met l yX11_goBy (wl yX11_goBy cX11_goBy 4 (some .int)) ({ frames := 5, cells := 0, slots := 0, locals := 320 }) (Pw (dC, dI) vwCl cy [(vo, .inr (12, [.int voth, .ref vmt, .int votp, .int vosz, .int volm, .int voto, .int vofr, .int vokd, .int vonu, .int vosg, .int vofa, .int vopl, .long vowd, .int votd, .ref vmn, .ref vmr, .ref vmk, .ref vms, .ref vma, .ref vmm, .ref vmrn, .ref vmkn, .ref vmik, .ref vmon, .int vosm, .int vohp, .ref vmw, .ref vmf, .ref vmb, .int vomb, .ref vmd, .ref vmc, .int vocm, .int voct, .int vocy, .ref vmx, .int votx, .int vose, .ref vml, .ref vmwr, .int voln, .int vohw, .ref vmno, .int vond, .int voon, .int vowi, .int votop])), (vmn, .inl (cy 0, 575, .inl vmnf)), (vml, .inl (cy 0, 160, .inl vmlf))] sz [.ref vo, .int vat] nE) (Qi (dC, dI) vwCl (fun (r : Int32) (u : (Nat → Int32)) => (NW vnh u)) (O_m_goBy cy vnh vo voth vmt votp vosz volm voto vofr vokd vonu vosg vofa vopl vowd votd vmn vmr vmk vms vma vmm vmrn vmkn vmik vmon vosm vohp vmw vmf vmb vomb vmd vmc vocm voct vocy vmx votx vose vml vmwr voln vohw vmno vond voon vowi votop vmnf vmlf vat) (va_A [(vo, .inr (12, [.int voth, .ref vmt, .int votp, .int vosz, .int volm, .int voto, .int vofr, .int vokd, .int vonu, .int vosg, .int vofa, .int vopl, .long vowd, .int votd, .ref vmn, .ref vmr, .ref vmk, .ref vms, .ref vma, .ref vmm, .ref vmrn, .ref vmkn, .ref vmik, .ref vmon, .int vosm, .int vohp, .ref vmw, .ref vmf, .ref vmb, .int vomb, .ref vmd, .ref vmc, .int vocm, .int voct, .int vocy, .ref vmx, .int votx, .int vose, .ref vml, .ref vmwr, .int voln, .int vohw, .ref vmno, .int vond, .int voon, .int vowi, .int votop])), (vmn, .inl (cy 0, 575, .inl vmnf)), (vml, .inl (cy 0, 160, .inl vmlf))] sz)) 0 0 (va_A [(vo, .inr (12, [.int voth, .ref vmt, .int votp, .int vosz, .int volm, .int voto, .int vofr, .int vokd, .int vonu, .int vosg, .int vofa, .int vopl, .long vowd, .int votd, .ref vmn, .ref vmr, .ref vmk, .ref vms, .ref vma, .ref vmm, .ref vmrn, .ref vmkn, .ref vmik, .ref vmon, .int vosm, .int vohp, .ref vmw, .ref vmf, .ref vmb, .int vomb, .ref vmd, .ref vmc, .int vocm, .int voct, .int vocy, .ref vmx, .int votx, .int vose, .ref vml, .ref vmwr, .int voln, .int vohw, .ref vmno, .int vond, .int voon, .int vowi, .int votop])), (vmn, .inl (cy 0, 575, .inl vmnf)), (vml, .inl (cy 0, 160, .inl vmlf))] sz) := by
  refine mw (Qc := Qi (dC, dI) vwCl (fun (r : Int32) (u : (Nat → Int32)) => (NW vnh u)) (O_m_goBy cy vnh vo voth vmt votp vosz volm voto vofr vokd vonu vosg vofa vopl vowd votd vmn vmr vmk vms vma vmm vmrn vmkn vmik vmon vosm vohp vmw vmf vmb vomb vmd vmc vocm voct vocy vmx votx vose vml vmwr voln vohw vmno vond voon vowi votop vmnf vmlf vat)) RX11 rfl (by decide +kernel) (Nat.le_of_ble_eq_true rfl) ?_
  intro p e s m below meth c A hx hb hr hlocks av9 hav hts hown hnm hml hK hP hD hA hS hE hAe Q9 hQ9 ls hl
  have hl : lv_has ls 4 [(0, .ref vo), (1, .int vat)] := hl
  refine lv_aload_n hx hb dX11_goBy_0 rfl (lv_at hl 0 rfl) ?_
  refine gf_X11_151 hx hb hts hown hK hP 0 rfl rfl dX11_goBy_1 ?_
  refine lv_iload_n hx hb dX11_goBy_4 rfl (lv_at hl 1 rfl) ?_
  refine lv_iconst (v := 1) hx hb dX11_goBy_5 (by decide) ?_
  refine lv_iadd hx hb dX11_goBy_6 ?_
  refine lv_topi (fun z_1 ez_1 => ?_)
  have k_1 : (1 : Int32).toInt = 1 := by decide
  have bz_1 : z_1.toInt = vat.toInt + (1 : Int32).toInt := i_add ez_1 (by omega) (by omega)
  have hin_2 : vp_in z_1 160 := vp_in_iff.mpr ⟨by omega, by omega⟩
  refine va_iald hx hb hK hP 2 0 rfl rfl hin_2 dX11_goBy_7 ?_
  refine lv_topi (fun z_3 ez_3 => ?_)
  have bz_3 := p_vmlf.val hin_2 ez_3
  refine lv_istore_n (lv' := [(2, .int z_3), (0, .ref vo), (1, .int vat)]) hx hb dX11_goBy_8 rfl hl (by decide) rfl (fun ls hl => ?_)
  refine lv_aload_n hx hb dX11_goBy_9 rfl (lv_at hl 1 rfl) ?_
  refine gf_X11_151 hx hb hts hown hK hP 0 rfl rfl dX11_goBy_10 ?_
  refine lv_iload_n hx hb dX11_goBy_13 rfl (lv_at hl 2 rfl) ?_
  have hin_4 : vp_in vat 160 := vp_in_iff.mpr ⟨by omega, by omega⟩
  refine va_iald hx hb hK hP 2 0 rfl rfl hin_4 dX11_goBy_14 ?_
  refine lv_topi (fun z_5 ez_5 => ?_)
  have bz_5 := p_vmlf.val hin_4 ez_5
  refine lv_bipush (v := 6) hx hb dX11_goBy_15 (by decide) ?_
  have k_6 : (6 : Int32).toInt = 6 := by decide
  refine lv_icmp_ne (tgt := 47) hx hb dX11_goBy_17 (by decide) (fun c_6 => ?_) (fun c_6 => ?_)
  · skip
    have c_6 : ¬ (z_5.toInt = (6 : Int32).toInt) := fun h9 => c_6 (i_eq.mpr h9)
    have hm_z_3 := LQ.man p_vmlf (q := vat.toInt / 4) ⟨by omega, by omega⟩ (x := vat) (y := z_1) (by omega) (by omega) ez_5 ez_3 (by omega)
    refine lv_aload_n hx hb dX11_goBy_47 rfl (lv_at hl 1 rfl) ?_
    refine lv_aload_n hx hb dX11_goBy_48 rfl (lv_at hl 1 rfl) ?_
    refine gf_X11_151 hx hb hts hown hK hP 0 rfl rfl dX11_goBy_49 ?_
    refine lv_iload_n hx hb dX11_goBy_52 rfl (lv_at hl 2 rfl) ?_
    have hin_7 : vp_in vat 160 := vp_in_iff.mpr ⟨by omega, by omega⟩
    refine va_iald hx hb hK hP 2 0 rfl rfl hin_7 dX11_goBy_53 ?_
    refine lv_topi (fun z_8 ez_8 => ?_)
    have bz_8 := p_vmlf.val hin_7 ez_8
    refine lv_iload_n hx hb dX11_goBy_54 rfl (lv_at hl 0 rfl) ?_
    refine lv_aload_n hx hb dX11_goBy_55 rfl (lv_at hl 1 rfl) ?_
    refine gf_X11_151 hx hb hts hown hK hP 0 rfl rfl dX11_goBy_56 ?_
    refine lv_iload_n hx hb dX11_goBy_59 rfl (lv_at hl 2 rfl) ?_
    refine lv_iconst (v := 2) hx hb dX11_goBy_60 (by decide) ?_
    refine lv_iadd hx hb dX11_goBy_61 ?_
    refine lv_topi (fun z_9 ez_9 => ?_)
    have k_2 : (2 : Int32).toInt = 2 := by decide
    have bz_9 : z_9.toInt = vat.toInt + (2 : Int32).toInt := i_add ez_9 (by omega) (by omega)
    have hin_10 : vp_in z_9 160 := vp_in_iff.mpr ⟨by omega, by omega⟩
    refine va_iald hx hb hK hP 2 0 rfl rfl hin_10 dX11_goBy_62 ?_
    refine lv_topi (fun z_11 ez_11 => ?_)
    have bz_11 := p_vmlf.val hin_10 ez_11
    refine lv_aload_n hx hb dX11_goBy_63 rfl (lv_at hl 1 rfl) ?_
    refine gf_X11_151 hx hb hts hown hK hP 0 rfl rfl dX11_goBy_64 ?_
    refine lv_iload_n hx hb dX11_goBy_67 rfl (lv_at hl 2 rfl) ?_
    refine lv_iconst (v := 3) hx hb dX11_goBy_68 (by decide) ?_
    refine lv_iadd hx hb dX11_goBy_69 ?_
    refine lv_topi (fun z_12 ez_12 => ?_)
    have k_3 : (3 : Int32).toInt = 3 := by decide
    have bz_12 : z_12.toInt = vat.toInt + (3 : Int32).toInt := i_add ez_12 (by omega) (by omega)
    have hin_13 : vp_in z_12 160 := vp_in_iff.mpr ⟨by omega, by omega⟩
    refine va_iald hx hb hK hP 2 0 rfl rfl hin_13 dX11_goBy_70 ?_
    refine lv_topi (fun z_14 ez_14 => ?_)
    have bz_14 := p_vmlf.val hin_13 ez_14
    refine jr_i (rVr (As := [.int z_8, .int z_3, .int z_11, .int z_14]) (rest := []) (ci := 12) ⟨hx, hb, hml, hown, hts⟩ (m_why l dC dI cy vnh vo voth vmt votp vosz volm voto vofr vokd vonu vosg vofa vopl vowd votd vmn vmr vmk vms vma vmm vmrn vmkn vmik vmon vosm vohp vmw vmf vmb vomb vmd vmc vocm voct vocy vmx votx vose vml vmwr voln vohw vmno vond voon vowi votop vmnf z_8 z_3 z_11 z_14 ⟨by omega, by omega⟩ ⟨by omega, by omega⟩ ⟨by omega, by omega⟩ p_vmnf) (cw_X11_274 hts rfl rfl ⟨Nat.le_of_ble_eq_true rfl, Nat.le_of_ble_eq_true rfl⟩) hP hK [0, 1] rfl rfl rfl rfl hl.1 rfl (Nat.le_of_ble_eq_true rfl) dX11_goBy_71 ⟨Nat.le_of_ble_eq_true rfl, Nat.le_of_ble_eq_true rfl⟩) hP hS (fun r_15 H locs hp_16 hP hS => ?_)
    have hp_16 : (0 ≤ (r_15 : Int32).toInt ∧ (r_15 : Int32).toInt ≤ 3) := hp_16
    have q_17 := hp_16
    refine lv_istore_n (lv' := [(3, .int r_15), (2, .int z_3), (0, .ref vo), (1, .int vat)]) hx hb dX11_goBy_74 rfl hl (by decide) rfl (fun ls hl => ?_)
    refine lv_iload_n hx hb dX11_goBy_75 rfl (lv_at hl 0 rfl) ?_
    have k_0 : (0 : Int32).toInt = 0 := by decide
    refine lv_if_eq (tgt := 91) hx hb dX11_goBy_76 (by decide) (fun c_18 => ?_) (fun c_18 => ?_)
    · skip
      have c_18 : r_15.toInt = (0 : Int32).toInt := i_eq.mp c_18
      refine lv_aload_n hx hb dX11_goBy_91 rfl (lv_at hl 2 rfl) ?_
      refine lv_aload_n hx hb dX11_goBy_92 rfl (lv_at hl 2 rfl) ?_
      refine gf_X11_151 hx hb hts hown hK hP 0 rfl rfl dX11_goBy_93 ?_
      refine lv_iload_n hx hb dX11_goBy_96 rfl (lv_at hl 3 rfl) ?_
      have hin_19 : vp_in vat 160 := vp_in_iff.mpr ⟨by omega, by omega⟩
      refine va_iald hx hb hK hP 2 0 rfl rfl hin_19 dX11_goBy_97 ?_
      refine lv_topi (fun z_20 ez_20 => ?_)
      have bz_20 := p_vmlf.val hin_19 ez_20
      refine lv_iload_n hx hb dX11_goBy_98 rfl (lv_at hl 1 rfl) ?_
      refine lv_aload_n hx hb dX11_goBy_99 rfl (lv_at hl 2 rfl) ?_
      refine gf_X11_151 hx hb hts hown hK hP 0 rfl rfl dX11_goBy_100 ?_
      refine lv_iload_n hx hb dX11_goBy_103 rfl (lv_at hl 3 rfl) ?_
      refine lv_iconst (v := 2) hx hb dX11_goBy_104 (by decide) ?_
      refine lv_iadd hx hb dX11_goBy_105 ?_
      refine lv_topi (fun z_21 ez_21 => ?_)
      have bz_21 : z_21.toInt = vat.toInt + (2 : Int32).toInt := i_add ez_21 (by omega) (by omega)
      have hin_22 : vp_in z_21 160 := vp_in_iff.mpr ⟨by omega, by omega⟩
      refine va_iald hx hb hK hP 2 0 rfl rfl hin_22 dX11_goBy_106 ?_
      refine lv_topi (fun z_23 ez_23 => ?_)
      have bz_23 := p_vmlf.val hin_22 ez_23
      refine lv_aload_n hx hb dX11_goBy_107 rfl (lv_at hl 2 rfl) ?_
      refine gf_X11_151 hx hb hts hown hK hP 0 rfl rfl dX11_goBy_108 ?_
      refine lv_iload_n hx hb dX11_goBy_111 rfl (lv_at hl 3 rfl) ?_
      refine lv_iconst (v := 3) hx hb dX11_goBy_112 (by decide) ?_
      refine lv_iadd hx hb dX11_goBy_113 ?_
      refine lv_topi (fun z_24 ez_24 => ?_)
      have bz_24 : z_24.toInt = vat.toInt + (3 : Int32).toInt := i_add ez_24 (by omega) (by omega)
      have hin_25 : vp_in z_24 160 := vp_in_iff.mpr ⟨by omega, by omega⟩
      refine va_iald hx hb hK hP 2 0 rfl rfl hin_25 dX11_goBy_114 ?_
      refine lv_topi (fun z_26 ez_26 => ?_)
      have bz_26 := p_vmlf.val hin_25 ez_26
      refine jn_v (wr := [(vml, .inl (cy 0, 160, .inl vmlf))]) (rV (As := [.int z_20, .int z_3, .int z_23, .int z_26]) (rest := []) (ci := 12) ⟨hx, hb, hml, hown, hts⟩ (m_live l dC dI cy _ vnh vo voth vmt votp vosz volm voto vofr vokd vonu vosg vofa vopl vowd votd vmn vmr vmk vms vma vmm vmrn vmkn vmik vmon vosm vohp vmw vmf vmb vomb vmd vmc vocm voct vocy vmx votx vose vml vmwr voln vohw vmno vond voon vowi votop vmnf z_20 z_3 z_23 z_26 ⟨by omega, by omega⟩ ⟨by omega, by omega⟩ ⟨by omega, by omega⟩ p_vmnf) (cw_X11_281 hts rfl rfl ⟨Nat.le_of_ble_eq_true rfl, Nat.le_of_ble_eq_true rfl⟩) hP hD hK [0, 1] rfl rfl rfl rfl bl0 e0 rfl hl.1 rfl (Nat.le_of_ble_eq_true rfl) dX11_goBy_115 ⟨Nat.le_of_ble_eq_true rfl, Nat.le_of_ble_eq_true rfl⟩) hP hD hS hA [0, 1] [2] rfl rfl rfl (by decide) (fun u_29 H locs hp_28 hP hD hS => ?_)
      obtain ⟨vmnf_30, rfl⟩ : ∃ z, z = u_29 := ⟨_, rfl⟩
      have hp_28 : (NW vnh vmnf_30) := hp_28
      have q_31 := hp_28
      have hP : va_P (dC, dI) vwCl [(vml, .inl (cy 0, 160, .inl vmlf)), (vo, .inr (12, [.int voth, .ref vmt, .int votp, .int vosz, .int volm, .int voto, .int vofr, .int vokd, .int vonu, .int vosg, .int vofa, .int vopl, .long vowd, .int votd, .ref vmn, .ref vmr, .ref vmk, .ref vms, .ref vma, .ref vmm, .ref vmrn, .ref vmkn, .ref vmik, .ref vmon, .int vosm, .int vohp, .ref vmw, .ref vmf, .ref vmb, .int vomb, .ref vmd, .ref vmc, .int vocm, .int voct, .int vocy, .ref vmx, .int votx, .int vose, .ref vml, .ref vmwr, .int voln, .int vohw, .ref vmno, .int vond, .int voon, .int vowi, .int votop])), (vmn, .inl (cy 0, 575, .inl vmnf_30))] H := hP
      have hD : va_D A [(vml, .inl (cy 0, 160, .inl vmlf)), (vo, .inr (12, [.int voth, .ref vmt, .int votp, .int vosz, .int volm, .int voto, .int vofr, .int vokd, .int vonu, .int vosg, .int vofa, .int vopl, .long vowd, .int votd, .ref vmn, .ref vmr, .ref vmk, .ref vms, .ref vma, .ref vmm, .ref vmrn, .ref vmkn, .ref vmik, .ref vmon, .int vosm, .int vohp, .ref vmw, .ref vmf, .ref vmb, .int vomb, .ref vmd, .ref vmc, .int vocm, .int voct, .int vocy, .ref vmx, .int votx, .int vose, .ref vml, .ref vmwr, .int voln, .int vohw, .ref vmno, .int vond, .int voon, .int vowi, .int votop])), (vmn, .inl (cy 0, 575, .inl vmnf_30))] := hD
      refine lv_iconst (v := 0) hx hb dX11_goBy_118 (by decide) ?_
      rw [hQ9]
      exact re_i vmnf_30 hx hb hr hlocks (show NW vnh vmnf_30 from q_31) (hP.sub [1, 2, 0] rfl) (hD.sub [1, 2, 0] rfl rfl) hS dX11_goBy_119
    · skip
      have c_18 : ¬ (r_15.toInt = (0 : Int32).toInt) := fun h9 => c_18 (i_eq.mpr h9)
      refine lv_bipush (v := 10) hx hb dX11_goBy_79 (by decide) ?_
      refine lv_aload_n hx hb dX11_goBy_81 rfl (lv_at hl 2 rfl) ?_
      refine gf_X11_151 hx hb hts hown hK hP 0 rfl rfl dX11_goBy_82 ?_
      refine lv_iload_n hx hb dX11_goBy_85 rfl (lv_at hl 3 rfl) ?_
      have hin_32 : vp_in vat 160 := vp_in_iff.mpr ⟨by omega, by omega⟩
      refine va_iald hx hb hK hP 2 0 rfl rfl hin_32 dX11_goBy_86 ?_
      refine lv_topi (fun z_33 ez_33 => ?_)
      have bz_33 := p_vmlf.val hin_32 ez_33
      refine lv_imul hx hb dX11_goBy_87 ?_
      refine lv_topi (fun z_34 ez_34 => ?_)
      have k_10 : (10 : Int32).toInt = 10 := by decide
      have bz_34 : z_34.toInt = z_33.toInt * 10 := i_cmul k_10 ez_34 (by omega) (by omega)
      refine lv_iload_n hx hb dX11_goBy_88 rfl (lv_at hl 0 rfl) ?_
      refine lv_iadd hx hb dX11_goBy_89 ?_
      refine lv_topi (fun z_35 ez_35 => ?_)
      have bz_35 : z_35.toInt = z_34.toInt + r_15.toInt := i_add ez_35 (by omega) (by omega)
      rw [hQ9]
      exact re_i vmnf hx hb hr hlocks (show NW vnh vmnf from p_vmnf) (hP.sub [0, 1, 2] rfl) (hD.sub [0, 1, 2] rfl rfl) hS dX11_goBy_90
  · skip
    have c_6 : z_5.toInt = (6 : Int32).toInt := i_eq.mp c_6
    refine lv_aload_n hx hb dX11_goBy_20 rfl (lv_at hl 1 rfl) ?_
    refine gf_X11_98 hx hb hts hown hK hP 0 rfl rfl dX11_goBy_21 ?_
    refine lv_sipush (v := 157) hx hb dX11_goBy_24 (by decide) ?_
    have k_157 : (157 : Int32).toInt = 157 := by decide
    have hin_36 : vp_in (157 : Int32) 575 := vp_in_iff.mpr ⟨by omega, by omega⟩
    refine va_iald hx hb hK hP 1 0 rfl rfl hin_36 dX11_goBy_27 ?_
    refine lv_topi (fun z_37 ez_37 => ?_)
    have tz_37 : z_37.toInt = (vmnf 157).toInt := by rw [ez_37]; rfl
    refine lv_iload_n hx hb dX11_goBy_28 rfl (lv_at hl 0 rfl) ?_
    refine lv_iadd hx hb dX11_goBy_29 ?_
    refine lv_topi (fun z_38 ez_38 => ?_)
    refine lv_sipush (v := 200) hx hb dX11_goBy_30 (by decide) ?_
    have k_200 : (200 : Int32).toInt = 200 := by decide
    refine lv_icmp_le (tgt := 39) hx hb dX11_goBy_33 (by decide) (fun c_39 => ?_) (fun c_39 => ?_)
    · skip
      have c_39 : z_38.toInt ≤ (200 : Int32).toInt := i_le.mp c_39
      refine lv_aload_n hx hb dX11_goBy_39 rfl (lv_at hl 1 rfl) ?_
      refine lv_iload_n hx hb dX11_goBy_40 rfl (lv_at hl 0 rfl) ?_
      refine jn_i (wr := [(vml, .inl (cy 0, 160, .inl vmlf))]) (rV (As := [.int z_3]) (rest := []) (ci := 12) ⟨hx, hb, hml, hown, hts⟩ (m_passYears l dC dI cy _ vnh vo voth vmt votp vosz volm voto vofr vokd vonu vosg vofa vopl vowd votd vmn vmr vmk vms vma vmm vmrn vmkn vmik vmon vosm vohp vmw vmf vmb vomb vmd vmc vocm voct vocy vmx votx vose vml vmwr voln vohw vmno vond voon vowi votop vmnf z_3 p_vmnf) (cw_X11_294 hts rfl rfl ⟨Nat.le_of_ble_eq_true rfl, Nat.le_of_ble_eq_true rfl⟩) hP hD hK [0, 1] rfl rfl rfl rfl bl0 e0 rfl hl.1 rfl (Nat.le_of_ble_eq_true rfl) dX11_goBy_41 ⟨Nat.le_of_ble_eq_true rfl, Nat.le_of_ble_eq_true rfl⟩) hP hD hS hA [0, 1] [2] rfl rfl rfl (by decide) (fun r_40 u_42 H locs hp_41 hP hD hS => ?_)
      obtain ⟨vmnf_43, rfl⟩ : ∃ z, z = u_42 := ⟨_, rfl⟩
      have hp_41 : (NW vnh vmnf_43) := hp_41
      have q_44 := hp_41
      have hP : va_P (dC, dI) vwCl [(vml, .inl (cy 0, 160, .inl vmlf)), (vo, .inr (12, [.int voth, .ref vmt, .int votp, .int vosz, .int volm, .int voto, .int vofr, .int vokd, .int vonu, .int vosg, .int vofa, .int vopl, .long vowd, .int votd, .ref vmn, .ref vmr, .ref vmk, .ref vms, .ref vma, .ref vmm, .ref vmrn, .ref vmkn, .ref vmik, .ref vmon, .int vosm, .int vohp, .ref vmw, .ref vmf, .ref vmb, .int vomb, .ref vmd, .ref vmc, .int vocm, .int voct, .int vocy, .ref vmx, .int votx, .int vose, .ref vml, .ref vmwr, .int voln, .int vohw, .ref vmno, .int vond, .int voon, .int vowi, .int votop])), (vmn, .inl (cy 0, 575, .inl vmnf_43))] H := hP
      have hD : va_D A [(vml, .inl (cy 0, 160, .inl vmlf)), (vo, .inr (12, [.int voth, .ref vmt, .int votp, .int vosz, .int volm, .int voto, .int vofr, .int vokd, .int vonu, .int vosg, .int vofa, .int vopl, .long vowd, .int votd, .ref vmn, .ref vmr, .ref vmk, .ref vms, .ref vma, .ref vmm, .ref vmrn, .ref vmkn, .ref vmik, .ref vmon, .int vosm, .int vohp, .ref vmw, .ref vmf, .ref vmb, .int vomb, .ref vmd, .ref vmc, .int vocm, .int voct, .int vocy, .ref vmx, .int votx, .int vose, .ref vml, .ref vmwr, .int voln, .int vohw, .ref vmno, .int vond, .int voon, .int vowi, .int votop])), (vmn, .inl (cy 0, 575, .inl vmnf_43))] := hD
      refine lv_pop hx hb dX11_goBy_44 rfl ?_
      refine lv_iconst (v := 0) hx hb dX11_goBy_45 (by decide) ?_
      have k_0 : (0 : Int32).toInt = 0 := by decide
      rw [hQ9]
      exact re_i vmnf_43 hx hb hr hlocks (show NW vnh vmnf_43 from q_44) (hP.sub [1, 2, 0] rfl) (hD.sub [1, 2, 0] rfl rfl) hS dX11_goBy_46
    · skip
      have c_39 : ¬ (z_38.toInt ≤ (200 : Int32).toInt) := fun h9 => c_39 (i_le.mpr h9)
      refine lv_bipush (v := 61) hx hb dX11_goBy_36 (by decide) ?_
      have k_61 : (61 : Int32).toInt = 61 := by decide
      rw [hQ9]
      exact re_i vmnf hx hb hr hlocks (show NW vnh vmnf from p_vmnf) (hP.sub [0, 1, 2] rfl) (hD.sub [0, 1, 2] rfl rfl) hS dX11_goBy_38
abbrev cX11_book : ByteArray := prog_13_method_115_code
def yX11_book : MethodName := ⟨RX11, "book", "(I)I"⟩
theorem t1978 : Cond.code yX11_book cX11_book 4 (some .int) ∈ GW := gw_mem 2092 (by decide +kernel) (by decide +kernel)
theorem dX11_book_0 : decode cX11_book 0 = .ok (.aload_n 0, 1) := by decide +kernel
theorem dX11_book_1 : decode cX11_book 1 = .ok (.iconst 0, 1) := by decide +kernel
theorem dX11_book_2 : decode cX11_book 2 = .ok (.putfield 1, 3) := by decide +kernel
theorem dX11_book_5 : decode cX11_book 5 = .ok (.iload_n 1, 1) := by decide +kernel
theorem dX11_book_6 : decode cX11_book 6 = .ok (.iconst 0, 1) := by decide +kernel
theorem dX11_book_7 : decode cX11_book 7 = .ok (.iconst 1, 1) := by decide +kernel
theorem dX11_book_8 : decode cX11_book 8 = .ok (.invokestatic 75, 3) := by decide +kernel
theorem dX11_book_11 : decode cX11_book 11 = .ok (.ifCond .ne 7, 3) := by decide +kernel
theorem dX11_book_14 : decode cX11_book 14 = .ok (.sipush (-1000), 3) := by decide +kernel
theorem dX11_book_17 : decode cX11_book 17 = .ok (.ireturn, 1) := by decide +kernel
theorem dX11_book_18 : decode cX11_book 18 = .ok (.aload_n 0, 1) := by decide +kernel
theorem dX11_book_19 : decode cX11_book 19 = .ok (.sipush 400, 3) := by decide +kernel
theorem dX11_book_22 : decode cX11_book 22 = .ok (.invokevirtual 216, 3) := by decide +kernel
theorem dX11_book_25 : decode cX11_book 25 = .ok (.aload_n 0, 1) := by decide +kernel
theorem dX11_book_26 : decode cX11_book 26 = .ok (.iconst 0, 1) := by decide +kernel
theorem dX11_book_27 : decode cX11_book 27 = .ok (.putfield 382, 3) := by decide +kernel
theorem pf_X11_382 {p : Program} {l : Launch} {e : Env} {R : Room} {s : State} {m : MethodId} {args : Array Value} {below : List Frame} {meth : Method} {c : Code} {H : Heap} {locs : List Loc} {cells slots : Nat} {Q : State → Prop} {cc : ByteArray} {pc : Nat} {ls : Array Slot} {rest : List Value} {D : va_G} {A : Nat → Prop} {a : Nat} {tys : List (ClassId × FieldType)} {ws : va_W} {H0 : Heap} (hx : p.tables.exec = Jvm.exec) (hb : c.code = cc) (hts : ∀ w ∈ GW, w.before args s = true) (hown : s.vm.findClass RX11 = some m.cls) (hK : va_K D vwCl tys s) (hP : va_P D vwCl ws H) (hD : va_D A ws) (hS0 : va_S A H0 H locs) (q0 : Nat) {fs : List Value} (he : ws[q0]? = some (a, .inr (12, fs))) {v : Value} (hn : narrow (tyX11 40) v = v) (hfit : fits (tyX11 40) v = true) (hl : 40 < fs.length) (hdg : decode cc pc = .ok (.putfield 382, 3)) (kk : ∀ (H1 : Heap) (locs1 : List Loc), va_P D vwCl (ws.set q0 (a, .inr (12, fs.set 40 v))) H1 → va_D A (ws.set q0 (a, .inr (12, fs.set 40 v))) → va_S A H0 H1 locs1 → W p l e R s m args below meth c H1 locs1 cells slots Q (F0 m (pc + 3) ls rest)) : W p l e R s m args below meth c H locs cells slots Q (F0 m pc ls (v :: .ref a :: rest)) := va_put (C := RX11) (T := TX11) (N := 47) (ci := 12) hx hb hts inX11 tyX11 tkX11 nmX11 hown hK hP hD hS0 q0 he rfl 40 (by decide) (hts _ t1482) (fun _ h => h) rfl (tkX11 40 (by decide)) hn hfit hl hdg kk
theorem dX11_book_30 : decode cX11_book 30 = .ok (.aload_n 0, 1) := by decide +kernel
theorem dX11_book_31 : decode cX11_book 31 = .ok (.getfield 30, 3) := by decide +kernel
theorem dX11_book_34 : decode cX11_book 34 = .ok (.ifCond .eq 31, 3) := by decide +kernel
theorem dX11_book_65 : decode cX11_book 65 = .ok (.aload_n 0, 1) := by decide +kernel
theorem dX11_book_66 : decode cX11_book 66 = .ok (.invokevirtual 364, 3) := by decide +kernel
theorem dX11_book_69 : decode cX11_book 69 = .ok (.iconst 0, 1) := by decide +kernel
theorem dX11_book_70 : decode cX11_book 70 = .ok (.istore_n 2, 1) := by decide +kernel
theorem dX11_book_103 : decode cX11_book 103 = .ok (.aload_n 0, 1) := by decide +kernel
theorem dX11_book_104 : decode cX11_book 104 = .ok (.getfield 154, 3) := by decide +kernel
theorem dX11_book_107 : decode cX11_book 107 = .ok (.iconst 0, 1) := by decide +kernel
theorem dX11_book_108 : decode cX11_book 108 = .ok (.iload_n 3, 1) := by decide +kernel
theorem dX11_book_109 : decode cX11_book 109 = .ok (.iastore, 1) := by decide +kernel
theorem dX11_book_110 : decode cX11_book 110 = .ok (.aload_n 0, 1) := by decide +kernel
theorem dX11_book_111 : decode cX11_book 111 = .ok (.getfield 154, 3) := by decide +kernel
theorem dX11_book_114 : decode cX11_book 114 = .ok (.iconst 1, 1) := by decide +kernel
theorem dX11_book_115 : decode cX11_book 115 = .ok (.iload_n 2, 1) := by decide +kernel
theorem dX11_book_116 : decode cX11_book 116 = .ok (.iastore, 1) := by decide +kernel
theorem dX11_book_117 : decode cX11_book 117 = .ok (.aload_n 0, 1) := by decide +kernel
theorem dX11_book_118 : decode cX11_book 118 = .ok (.getfield 154, 3) := by decide +kernel
theorem dX11_book_121 : decode cX11_book 121 = .ok (.iconst 2, 1) := by decide +kernel
theorem dX11_book_122 : decode cX11_book 122 = .ok (.aload_n 0, 1) := by decide +kernel
theorem dX11_book_123 : decode cX11_book 123 = .ok (.getfield 98, 3) := by decide +kernel
theorem dX11_book_126 : decode cX11_book 126 = .ok (.sipush 157, 3) := by decide +kernel
theorem dX11_book_129 : decode cX11_book 129 = .ok (.iaload, 1) := by decide +kernel
theorem dX11_book_130 : decode cX11_book 130 = .ok (.iastore, 1) := by decide +kernel
theorem dX11_book_131 : decode cX11_book 131 = .ok (.aload_n 0, 1) := by decide +kernel
theorem dX11_book_132 : decode cX11_book 132 = .ok (.getfield 154, 3) := by decide +kernel
theorem dX11_book_135 : decode cX11_book 135 = .ok (.iconst 3, 1) := by decide +kernel
theorem dX11_book_136 : decode cX11_book 136 = .ok (.aload_n 0, 1) := by decide +kernel
theorem dX11_book_137 : decode cX11_book 137 = .ok (.iconst 1, 1) := by decide +kernel
theorem dX11_book_138 : decode cX11_book 138 = .ok (.invokevirtual 262, 3) := by decide +kernel
theorem dX11_book_141 : decode cX11_book 141 = .ok (.iastore, 1) := by decide +kernel
theorem dX11_book_142 : decode cX11_book 142 = .ok (.aload_n 0, 1) := by decide +kernel
theorem dX11_book_143 : decode cX11_book 143 = .ok (.iconst 1, 1) := by decide +kernel
theorem dX11_book_144 : decode cX11_book 144 = .ok (.putfield 394, 3) := by decide +kernel
theorem pf_X11_394 {p : Program} {l : Launch} {e : Env} {R : Room} {s : State} {m : MethodId} {args : Array Value} {below : List Frame} {meth : Method} {c : Code} {H : Heap} {locs : List Loc} {cells slots : Nat} {Q : State → Prop} {cc : ByteArray} {pc : Nat} {ls : Array Slot} {rest : List Value} {D : va_G} {A : Nat → Prop} {a : Nat} {tys : List (ClassId × FieldType)} {ws : va_W} {H0 : Heap} (hx : p.tables.exec = Jvm.exec) (hb : c.code = cc) (hts : ∀ w ∈ GW, w.before args s = true) (hown : s.vm.findClass RX11 = some m.cls) (hK : va_K D vwCl tys s) (hP : va_P D vwCl ws H) (hD : va_D A ws) (hS0 : va_S A H0 H locs) (q0 : Nat) {fs : List Value} (he : ws[q0]? = some (a, .inr (12, fs))) {v : Value} (hn : narrow (tyX11 41) v = v) (hfit : fits (tyX11 41) v = true) (hl : 41 < fs.length) (hdg : decode cc pc = .ok (.putfield 394, 3)) (kk : ∀ (H1 : Heap) (locs1 : List Loc), va_P D vwCl (ws.set q0 (a, .inr (12, fs.set 41 v))) H1 → va_D A (ws.set q0 (a, .inr (12, fs.set 41 v))) → va_S A H0 H1 locs1 → W p l e R s m args below meth c H1 locs1 cells slots Q (F0 m (pc + 3) ls rest)) : W p l e R s m args below meth c H locs cells slots Q (F0 m pc ls (v :: .ref a :: rest)) := va_put (C := RX11) (T := TX11) (N := 47) (ci := 12) hx hb hts inX11 tyX11 tkX11 nmX11 hown hK hP hD hS0 q0 he rfl 41 (by decide) (hts _ t1483) (fun _ h => h) rfl (tkX11 41 (by decide)) hn hfit hl hdg kk
theorem dX11_book_147 : decode cX11_book 147 = .ok (.aload_n 0, 1) := by decide +kernel
theorem dX11_book_148 : decode cX11_book 148 = .ok (.iload_n 1, 1) := by decide +kernel
theorem dX11_book_149 : decode cX11_book 149 = .ok (.iconst 1, 1) := by decide +kernel
theorem dX11_book_150 : decode cX11_book 150 = .ok (.if_icmp .ne 11, 3) := by decide +kernel
theorem dX11_book_161 : decode cX11_book 161 = .ok (.iconst 0, 1) := by decide +kernel
theorem dX11_book_162 : decode cX11_book 162 = .ok (.invokevirtual 398, 3) := by decide +kernel
theorem t2007 : Cond.methodLink RX11 398 yX11_stay ∈ GW := gw_mem 2121 (by decide +kernel) (by decide +kernel)
theorem t2009 : Cond.instanceMethod yX11_stay ∈ GW := gw_mem 2123 (by decide +kernel) (by decide +kernel)
theorem s104 : Cond.selects RX11 yX11_stay yX11_stay ∈ GW := gw_mem 104 (by decide +kernel) (by decide +kernel)
theorem cw_X11_398 {R : Room} {s : State} {args : Array Value} {rm : Room} {mc ms : Nat} (hts : ∀ w ∈ GW, w.before args s = true) (hrc : rm.cells = mc) (hrs : rm.slots = ms) (hR : rm.frames + 1 ≤ R.frames ∧ 8 + (4 + 11) + rm.locals ≤ R.locals) : CallW R s args RX11 RX11 398 yX11_stay cX11_stay 4 none (wl yX11_stay cX11_stay 4 none) rm mc ms 1 := cwV 1 hts (gi_V t2007 t2009 s104 t18 t2010) rfl hrc hrs (by decide +kernel) hR
theorem dX11_book_165 : decode cX11_book 165 = .ok (.iload_n 3, 1) := by decide +kernel
theorem dX11_book_166 : decode cX11_book 166 = .ok (.ifCond .ne 7, 3) := by decide +kernel
theorem dX11_book_173 : decode cX11_book 173 = .ok (.iload_n 2, 1) := by decide +kernel
theorem dX11_book_174 : decode cX11_book 174 = .ok (.ireturn, 1) := by decide +kernel
theorem dX11_book_169 : decode cX11_book 169 = .ok (.iconst (-1), 1) := by decide +kernel
theorem dX11_book_170 : decode cX11_book 170 = .ok (.goto 4, 3) := by decide +kernel
theorem dX11_book_153 : decode cX11_book 153 = .ok (.iload_n 2, 1) := by decide +kernel
theorem dX11_book_154 : decode cX11_book 154 = .ok (.ifCond .le 7, 3) := by decide +kernel
theorem dX11_book_157 : decode cX11_book 157 = .ok (.iconst 1, 1) := by decide +kernel
theorem dX11_book_158 : decode cX11_book 158 = .ok (.goto 4, 3) := by decide +kernel
theorem dX11_book_71 : decode cX11_book 71 = .ok (.iconst 0, 1) := by decide +kernel
theorem dX11_book_72 : decode cX11_book 72 = .ok (.istore_n 3, 1) := by decide +kernel
theorem dX11_book_73 : decode cX11_book 73 = .ok (.iload_n 2, 1) := by decide +kernel
theorem dX11_book_74 : decode cX11_book 74 = .ok (.aload_n 0, 1) := by decide +kernel
theorem dX11_book_75 : decode cX11_book 75 = .ok (.getfield 382, 3) := by decide +kernel
theorem dX11_book_78 : decode cX11_book 78 = .ok (.if_icmp .ge 25, 3) := by decide +kernel
theorem dX11_book_81 : decode cX11_book 81 = .ok (.iload_n 3, 1) := by decide +kernel
theorem dX11_book_82 : decode cX11_book 82 = .ok (.ifCond .ne 21, 3) := by decide +kernel
theorem dX11_book_85 : decode cX11_book 85 = .ok (.aload_n 0, 1) := by decide +kernel
theorem dX11_book_86 : decode cX11_book 86 = .ok (.iconst 4, 1) := by decide +kernel
theorem dX11_book_87 : decode cX11_book 87 = .ok (.iload_n 2, 1) := by decide +kernel
theorem dX11_book_88 : decode cX11_book 88 = .ok (.imul, 1) := by decide +kernel
theorem dX11_book_89 : decode cX11_book 89 = .ok (.invokevirtual 391, 3) := by decide +kernel
theorem t2003 : Cond.methodLink RX11 391 yX11_goBy ∈ GW := gw_mem 2117 (by decide +kernel) (by decide +kernel)
theorem t2005 : Cond.instanceMethod yX11_goBy ∈ GW := gw_mem 2119 (by decide +kernel) (by decide +kernel)
theorem s103 : Cond.selects RX11 yX11_goBy yX11_goBy ∈ GW := gw_mem 103 (by decide +kernel) (by decide +kernel)
theorem cw_X11_391 {R : Room} {s : State} {args : Array Value} {rm : Room} {mc ms : Nat} (hts : ∀ w ∈ GW, w.before args s = true) (hrc : rm.cells = mc) (hrs : rm.slots = ms) (hR : rm.frames + 1 ≤ R.frames ∧ 8 + (4 + 11) + rm.locals ≤ R.locals) : CallW R s args RX11 RX11 391 yX11_goBy cX11_goBy 4 (some .int) (wl yX11_goBy cX11_goBy 4 (some .int)) rm mc ms 1 := cwV 1 hts (gi_V t2003 t2005 s103 t18 t2006) rfl hrc hrs (by decide +kernel) hR
theorem dX11_book_92 : decode cX11_book 92 = .ok (.istore_n 3, 1) := by decide +kernel
theorem dX11_book_93 : decode cX11_book 93 = .ok (.iload_n 3, 1) := by decide +kernel
theorem dX11_book_94 : decode cX11_book 94 = .ok (.ifCond .ne (-21), 3) := by decide +kernel
theorem dX11_book_97 : decode cX11_book 97 = .ok (.iinc 2 1, 3) := by decide +kernel
theorem dX11_book_100 : decode cX11_book 100 = .ok (.goto (-27), 3) := by decide +kernel
theorem dX11_book_37 : decode cX11_book 37 = .ok (.aload_n 0, 1) := by decide +kernel
theorem dX11_book_38 : decode cX11_book 38 = .ok (.invokevirtual 388, 3) := by decide +kernel
theorem t1979 : Cond.methodLink RX11 388 yX11_readBookLine ∈ GW := gw_mem 2093 (by decide +kernel) (by decide +kernel)
theorem t1981 : Cond.instanceMethod yX11_readBookLine ∈ GW := gw_mem 2095 (by decide +kernel) (by decide +kernel)
theorem s97 : Cond.selects RX11 yX11_readBookLine yX11_readBookLine ∈ GW := gw_mem 97 (by decide +kernel) (by decide +kernel)
theorem cw_X11_388 {R : Room} {s : State} {args : Array Value} {rm : Room} {mc ms : Nat} (hts : ∀ w ∈ GW, w.before args s = true) (hrc : rm.cells = mc) (hrs : rm.slots = ms) (hR : rm.frames + 1 ≤ R.frames ∧ 8 + (3 + 11) + rm.locals ≤ R.locals) : CallW R s args RX11 RX11 388 yX11_readBookLine cX11_readBookLine 3 (some .boolean) (wl yX11_readBookLine cX11_readBookLine 3 (some .boolean)) rm mc ms 0 := cwV 0 hts (gi_V t1979 t1981 s97 t18 t1982) rfl hrc hrs (by decide +kernel) hR
theorem dX11_book_41 : decode cX11_book 41 = .ok (.ifCond .ne 11, 3) := by decide +kernel
theorem dX11_book_44 : decode cX11_book 44 = .ok (.bipush (-2), 2) := by decide +kernel
theorem dX11_book_46 : decode cX11_book 46 = .ok (.aload_n 0, 1) := by decide +kernel
theorem dX11_book_47 : decode cX11_book 47 = .ok (.getfield 69, 3) := by decide +kernel
theorem dX11_book_50 : decode cX11_book 50 = .ok (.isub, 1) := by decide +kernel
theorem dX11_book_51 : decode cX11_book 51 = .ok (.ireturn, 1) := by decide +kernel
theorem dX11_book_52 : decode cX11_book 52 = .ok (.aload_n 0, 1) := by decide +kernel
theorem dX11_book_53 : decode cX11_book 53 = .ok (.dup, 1) := by decide +kernel
theorem dX11_book_54 : decode cX11_book 54 = .ok (.getfield 382, 3) := by decide +kernel
theorem dX11_book_57 : decode cX11_book 57 = .ok (.iconst 1, 1) := by decide +kernel
theorem dX11_book_58 : decode cX11_book 58 = .ok (.iadd, 1) := by decide +kernel
theorem dX11_book_59 : decode cX11_book 59 = .ok (.putfield 382, 3) := by decide +kernel
theorem dX11_book_62 : decode cX11_book 62 = .ok (.goto (-32), 3) := by decide +kernel
