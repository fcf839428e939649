/-- the fewest that a sum takes is taken by some number of times, x or more -/
def WH (f g : Nat → Int32) (e : Nat) (x : Int) : Prop := ∃ t : Nat, x ≤ (t : Int) ∧ t ≤ 9 ∧ (t : Int) * (g (11 + e / 512)).toInt ≤ ((e % 256 : Nat) : Int) ∧ (f ((e : Int) + 512 - (t : Int) * (g (11 + e / 512)).toInt).toNat).toInt + (t : Int) = (f e).toInt
def AE (f g : Nat → Int32) (e : Nat) : Prop := WH f g e 0
def FQ (f g : Nat → Int32) (k : Nat) : Prop := ∀ j : Nat, j ≠ k → g j = f j
theorem FQ.rf {f : Nat → Int32} {k : Nat} : FQ f f k := fun _ _ => rfl
theorem FQ.up {f g : Nat → Int32} {k : Nat} {v : Int32} (h : FQ f g k) : FQ f (upd g k v) k := fun j hj => by rw [pk_un hj]; exact h j hj
def LI (G w : Nat → Int32) (e : Nat) (t : Int) : Prop := (t = 0 ∧ (G e).toInt = 100000) ∨ AE G w e
theorem LI.ae {G w : Nat → Int32} {e : Nat} {t : Int} (h : LI G w e t) (ht : t ≠ 0) : AE G w e := h.resolve_left (fun z => ht z.1)
theorem pos_of {t W p : Int} (hp : p = t * W) (h : 0 < p) : t ≠ 0 := by
  intro z; rw [z, Int.zero_mul] at hp; omega
theorem LI.step {G w : Nat → Int32} {c d i1 W t p nx u a b r : Int32} {cr su : Int} (h : LI G w c.toNatClampNeg t.toInt) (hc : c.toInt = 512 * d.toInt + 256 * cr + su) (hcr : 0 ≤ cr ∧ cr ≤ 1) (hsu : 0 ≤ su ∧ su ≤ 255) (hd : 0 ≤ d.toInt ∧ d.toInt ≤ 9) (hi : i1.toInt = 11 + d.toInt) (eW : W = w i1.toNatClampNeg) (ht : 0 ≤ t.toInt ∧ t.toInt ≤ 9) (hp : p.toInt = t.toInt * W.toInt) (hps : 0 ≤ p.toInt ∧ p.toInt ≤ su) (hnx : nx.toInt = c.toInt + 512 - p.toInt) (ea : a = G c.toNatClampNeg) (eu : u = G nx.toNatClampNeg) (hu : u.toInt ≤ 100000) (hb : b.toInt = u.toInt + t.toInt) (h1 : r.toInt ≤ a.toInt) (h2 : r.toInt ≤ b.toInt) (h3 : r.toInt = a.toInt ∨ r.toInt = b.toInt) : AE (upd G c.toNatClampNeg r) w c.toNatClampNeg := by
  have q0 := cl_nn (x := c) (by omega)
  have q1 := cl_nn (x := i1) (by omega)
  have q2 := cl_nn (x := nx) (by omega)
  have hW : w (11 + c.toNatClampNeg / 512) = W := by rw [eW]; congr 1; omega
  have hm : ((c.toNatClampNeg % 256 : Nat) : Int) = su := by omega
  by_cases hr : r.toInt = b.toInt
  · have q3 : ((t.toInt.toNat : Nat) : Int) = t.toInt := by omega
    refine ⟨t.toInt.toNat, by omega, by omega, ?_, ?_⟩
    · rw [hW, hm, q3, ← hp]; omega
    · rw [hW, q3, ← hp, show ((c.toNatClampNeg : Int) + 512 - p.toInt).toNat = nx.toNatClampNeg by omega, up_if, if_neg (by omega), up_if, if_pos rfl, ← eu]; omega
  · have hra : r.toInt = a.toInt := by omega
    rcases h with ⟨z1, z2⟩ | ⟨t', y1, y2, y3, y4⟩
    · exfalso; rw [← ea] at z2; omega
    · refine ⟨t', y1, y2, y3, ?_⟩
      rw [up_if, if_neg (by omega), y4, up_if, if_pos rfl, ← ea, hra]
def LW (f w : Nat → Int32) (D d c : Int) : Prop := ∀ e : Nat, (e : Int) < 512 * D → (512 * (d + 1) ≤ (e : Int) ∨ (512 * d ≤ (e : Int) ∧ (e : Int) < c)) → AE f w e
def LWA (f w : Nat → Int32) : Prop := ∀ e : Nat, (e : Int) < 512 * (w 1).toInt → AE f w e
theorem LW.base {f w : Nat → Int32} {D d c : Int} (h : D ≤ d) : LW f w D d c := fun e h1 h2 => absurd h1 (by omega)
theorem LW.mono {f w : Nat → Int32} {D d c c' : Int} (h : LW f w D d c) (hc : c' ≤ c) : LW f w D d c' := fun e h1 h2 => h e h1 (by omega)
theorem LW.down {f w : Nat → Int32} {D d c d' c' : Int} (h : LW f w D d c) (hc : 512 * d + 512 ≤ c) (hd : d' = d - 1) (hc' : c' ≤ 512 * d') : LW f w D d' c' := fun e h1 h2 => h e h1 (by omega)
theorem LW.all {f w : Nat → Int32} {D d c : Int} (h : LW f w D d c) (hd : d < 0) (hD : D = (w 1).toInt) : LWA f w := fun e h1 => h e (by omega) (by omega)
theorem LW.next {f f' w : Nat → Int32} {D d c c' : Int} {k : Int32} (h : LW f w D d c) (hk : k.toInt = c) (hc : 512 * d ≤ c ∧ c < 512 * (d + 1)) (hd : 0 ≤ d) (h1 : FQ f f' k.toNatClampNeg) (h2 : AE f' w k.toNatClampNeg) (hc' : c' = c + 1) : LW f' w D d c' := by
  have q := cl_nn (x := k) (by omega)
  intro e he h3
  by_cases ek : e = k.toNatClampNeg
  · rw [ek]; exact h2
  · obtain ⟨t, y1, y2, y3, y4⟩ := h e he (by omega)
    refine ⟨t, y1, y2, y3, ?_⟩
    rw [h1 _ (by omega), h1 e ek]; exact y4
theorem WH.of {f w : Nat → Int32} {e : Nat} {x : Int} (h : AE f w e) (hx : x ≤ 0) : WH f w e x := by
  obtain ⟨t, y1, y2, y3, y4⟩ := h
  exact ⟨t, by omega, y2, y3, y4⟩
theorem WH.le {f w : Nat → Int32} {d cr su x i1 W : Int32} (h : WH f w (512 * d.toInt + 256 * cr.toInt + su.toInt).toNat x.toInt) (hx : 0 ≤ x.toInt) (hd : 0 ≤ d.toInt ∧ d.toInt ≤ 9) (hcr : 0 ≤ cr.toInt ∧ cr.toInt ≤ 1) (hsu : 0 ≤ su.toInt ∧ su.toInt ≤ 255) (hi : i1.toInt = 11 + d.toInt) (eW : W = w i1.toNatClampNeg) (hW : 0 ≤ W.toInt) : x.toInt * W.toInt ≤ su.toInt ∧ x.toInt ≤ 9 := by
  have q1 := cl_nn (x := i1) (by omega)
  obtain ⟨t, y1, y2, y3, y4⟩ := h
  rw [show w (11 + (512 * d.toInt + 256 * cr.toInt + su.toInt).toNat / 512) = W by rw [eW]; congr 1; omega] at y3
  have z := Int.mul_le_mul_of_nonneg_right y1 hW
  refine ⟨?_, by omega⟩
  have z2 : (((512 * d.toInt + 256 * cr.toInt + su.toInt).toNat % 256 : Nat) : Int) = su.toInt := by omega
  rw [z2] at y3; omega
theorem WH.next {f w : Nat → Int32} {d cr su x y i1 W p nx u v r2 z : Int32} (h : WH f w (512 * d.toInt + 256 * cr.toInt + su.toInt).toNat x.toInt) (hx : 0 ≤ x.toInt) (hd : 0 ≤ d.toInt ∧ d.toInt ≤ 9) (hcr : 0 ≤ cr.toInt ∧ cr.toInt ≤ 1) (hsu : 0 ≤ su.toInt ∧ su.toInt ≤ 255) (hi : i1.toInt = 11 + d.toInt) (eW : W = w i1.toNatClampNeg) (hp : p.toInt = x.toInt * W.toInt) (hps : 0 ≤ p.toInt ∧ p.toInt ≤ su.toInt) (hnx : nx.toInt = 512 * d.toInt + 256 * cr.toInt + su.toInt + 512 - p.toInt) (eu : u = f nx.toNatClampNeg) (hv : v.toInt = u.toInt + x.toInt) (hr : r2.toInt = 512 * d.toInt + 256 * cr.toInt + su.toInt) (ez : z = f r2.toNatClampNeg) (hne : ¬ (v.toInt = z.toInt)) (hy : y.toInt = x.toInt + 1) : WH f w (512 * d.toInt + 256 * cr.toInt + su.toInt).toNat y.toInt := by
  have q1 := cl_nn (x := i1) (by omega)
  have q2 := cl_nn (x := nx) (by omega)
  have q3 := cl_nn (x := r2) (by omega)
  obtain ⟨t, y1, y2, y3, y4⟩ := h
  refine ⟨t, ?_, y2, y3, y4⟩
  by_cases e : (t : Int) = x.toInt
  · exfalso
    have hW : w (11 + (512 * d.toInt + 256 * cr.toInt + su.toInt).toNat / 512) = W := by rw [eW]; congr 1; omega
    rw [hW, e, ← hp, show (((512 * d.toInt + 256 * cr.toInt + su.toInt).toNat : Int) + 512 - p.toInt).toNat = nx.toNatClampNeg by omega, ← eu, show (512 * d.toInt + 256 * cr.toInt + su.toInt).toNat = r2.toNatClampNeg by omega, ← ez] at y4
    omega
  · omega

abbrev cX11_cellOf : ByteArray := prog_13_method_85_code
def yX11_cellOf : MethodName := ⟨RX11, "cellOf", "(III)I"⟩
theorem t1892 : Cond.code yX11_cellOf cX11_cellOf 3 (some .int) ∈ GW := gw_mem 2006 (by decide +kernel) (by decide +kernel)
theorem dX11_cellOf_0 : decode cX11_cellOf 0 = .ok (.iconst 2, 1) := by decide +kernel
theorem dX11_cellOf_1 : decode cX11_cellOf 1 = .ok (.iload_n 0, 1) := by decide +kernel
theorem dX11_cellOf_2 : decode cX11_cellOf 2 = .ok (.imul, 1) := by decide +kernel
theorem dX11_cellOf_3 : decode cX11_cellOf 3 = .ok (.iload_n 1, 1) := by decide +kernel
theorem dX11_cellOf_4 : decode cX11_cellOf 4 = .ok (.iadd, 1) := by decide +kernel
theorem dX11_cellOf_5 : decode cX11_cellOf 5 = .ok (.sipush 256, 3) := by decide +kernel
theorem dX11_cellOf_8 : decode cX11_cellOf 8 = .ok (.imul, 1) := by decide +kernel
theorem dX11_cellOf_9 : decode cX11_cellOf 9 = .ok (.iload_n 2, 1) := by decide +kernel
theorem dX11_cellOf_10 : decode cX11_cellOf 10 = .ok (.iadd, 1) := by decide +kernel
theorem dX11_cellOf_11 : decode cX11_cellOf 11 = .ok (.ireturn, 1) := by decide +kernel
set_option maxHeartbeats 4000000 in
set_option maxRecDepth 100000 in
theorem m_cellOf (l : Launch) (dC : Nat → ClassId) (dI : Nat → Nat → Nat) (cy : Nat → ClassId) (vd : Int32) (vcr : Int32) (vsu : Int32) (r_vd : 0 ≤ (vd : Int32).toInt ∧ (vd : Int32).toInt ≤ 10) (r_vcr : 0 ≤ (vcr : Int32).toInt ∧ (vcr : Int32).toInt ≤ 1) (r_vsu : 0 ≤ (vsu : Int32).toInt ∧ (vsu : Int32).toInt ≤ 255) : Met l yX11_cellOf (wl yX11_cellOf cX11_cellOf 3 (some .int)) ({ frames := 0, cells := 0, slots := 0, locals := 0 }) (Pr (dC, dI) vwCl cy [] [.int vd, .int vcr, .int vsu]) (Ri (fun r => (0 ≤ (r : Int32).toInt ∧ (r : Int32).toInt ≤ 5631) ∧ ((r : Int32).toInt = 512 * (vd : Int32).toInt + 256 * (vcr : Int32).toInt + (vsu : Int32).toInt))) 0 0 (fun _ => False) := by
  refine mr RX11 rfl (by decide +kernel) (Nat.le_of_ble_eq_true rfl) ?_
  intro p e s m below meth c hx hb hr hlocks av9 hav hts hown hml hK hP hS Q9 hQ9 ls hl
  have hl : lv_has ls 3 [(0, .int vd), (1, .int vcr), (2, .int vsu)] := hl
  refine lv_iconst (v := 2) hx hb dX11_cellOf_0 (by decide) ?_
  refine lv_iload_n hx hb dX11_cellOf_1 rfl (lv_at hl 0 rfl) ?_
  refine lv_imul hx hb dX11_cellOf_2 ?_
  refine lv_topi (fun z_1 ez_1 => ?_)
  have k_2 : (2 : Int32).toInt = 2 := by decide
  have bz_1 : z_1.toInt = vd.toInt * 2 := i_cmul k_2 ez_1 (by omega) (by omega)
  refine lv_iload_n hx hb dX11_cellOf_3 rfl (lv_at hl 1 rfl) ?_
  refine lv_iadd hx hb dX11_cellOf_4 ?_
  refine lv_topi (fun z_2 ez_2 => ?_)
  have bz_2 : z_2.toInt = z_1.toInt + vcr.toInt := i_add ez_2 (by omega) (by omega)
  refine lv_sipush (v := 256) hx hb dX11_cellOf_5 (by decide) ?_
  refine lv_imul hx hb dX11_cellOf_8 ?_
  refine lv_topi (fun z_3 ez_3 => ?_)
  have k_256 : (256 : Int32).toInt = 256 := by decide
  have bz_3 : z_3.toInt = z_2.toInt * 256 := i_mulc k_256 ez_3 (by omega) (by omega)
  refine lv_iload_n hx hb dX11_cellOf_9 rfl (lv_at hl 2 rfl) ?_
  refine lv_iadd hx hb dX11_cellOf_10 ?_
  refine lv_topi (fun z_4 ez_4 => ?_)
  have bz_4 : z_4.toInt = z_3.toInt + vsu.toInt := i_add ez_4 (by omega) (by omega)
  rw [hQ9]
  exact rr_i hx hb hr hlocks ⟨(show 0 ≤ (z_4 : Int32).toInt ∧ (z_4 : Int32).toInt ≤ 5631 from ⟨by omega, by omega⟩), (show (z_4 : Int32).toInt = 512 * (vd : Int32).toInt + 256 * (vcr : Int32).toInt + (vsu : Int32).toInt from (by omega))⟩ hS dX11_cellOf_11
abbrev cX11_layCell : ByteArray := prog_13_method_87_code
def yX11_layCell : MethodName := ⟨RX11, "layCell", "(IIII)V"⟩
theorem t1897 : Cond.code yX11_layCell cX11_layCell 8 none ∈ GW := gw_mem 2011 (by decide +kernel) (by decide +kernel)
abbrev O_m_layCell (cy : Nat → ClassId) (vnh : Nat → Int32) (vo : Nat) (voth : Int32) (vmt : Nat) (votp : Int32) (vosz : Int32) (volm : Int32) (voto : Int32) (vofr : Int32) (vokd : Int32) (vonu : Int32) (vosg : Int32) (vofa : Int32) (vopl : Int32) (vowd : Int64) (votd : Int32) (vmn : Nat) (vmr : Nat) (vmk : Nat) (vms : Nat) (vma : Nat) (vmm : Nat) (vmrn : Nat) (vmkn : Nat) (vmik : Nat) (vmon : Nat) (vosm : Int32) (vohp : Int32) (vmw : Nat) (vmf : Nat) (vmb : Nat) (vomb : Int32) (vmd : Nat) (vmc : Nat) (vocm : Int32) (voct : Int32) (vocy : Int32) (vmx : Nat) (votx : Int32) (vose : Int32) (vml : Nat) (vmwr : Nat) (voln : Int32) (vohw : Int32) (vmno : Nat) (vond : Int32) (voon : Int32) (vowi : Int32) (votop : Int32) (vmnf : Nat → Int32) (vmwf : Nat → Int64) (vmff : Nat → Int32) (vd : Int32) (vcr : Int32) (vsu : Int32) (vcc : Int32) (u : (Nat → Int64) × (Nat → Int32)) : va_W := [(vo, .inr (12, [.int voth, .ref vmt, .int votp, .int vosz, .int volm, .int voto, .int vofr, .int vokd, .int vonu, .int vosg, .int vofa, .int vopl, .long vowd, .int votd, .ref vmn, .ref vmr, .ref vmk, .ref vms, .ref vma, .ref vmm, .ref vmrn, .ref vmkn, .ref vmik, .ref vmon, .int vosm, .int vohp, .ref vmw, .ref vmf, .ref vmb, .int vomb, .ref vmd, .ref vmc, .int vocm, .int voct, .int vocy, .ref vmx, .int votx, .int vose, .ref vml, .ref vmwr, .int voln, .int vohw, .ref vmno, .int vond, .int voon, .int vowi, .int votop])), (vmn, .inl (cy 0, 575, .inl vmnf)), (vmw, .inl (cy 1, 5632, .inr (.inl u.1))), (vmf, .inl (cy 0, 5632, .inl u.2))]
theorem dX11_layCell_0 : decode cX11_layCell 0 = .ok (.aload_n 0, 1) := by decide +kernel
theorem dX11_layCell_1 : decode cX11_layCell 1 = .ok (.getfield 133, 3) := by decide +kernel
theorem t1468 : Cond.fieldLink RX11 133 "LikenessPoundModel" "ways" "[J" ∈ GW := gw_mem 1582 (by decide +kernel) (by decide +kernel)
theorem gf_X11_133 {p : Program} {l : Launch} {e : Env} {R : Room} {s : State} {m : MethodId} {args : Array Value} {below : List Frame} {meth : Method} {c : Code} {H : Heap} {locs : List Loc} {cells slots : Nat} {Q : State → Prop} {cc : ByteArray} {pc : Nat} {ls : Array Slot} {rest : List Value} {D : va_G} {a : Nat} {tys : List (ClassId × FieldType)} {ws : va_W} (hx : p.tables.exec = Jvm.exec) (hb : c.code = cc) (hts : ∀ w ∈ GW, w.before args s = true) (hown : s.vm.findClass RX11 = some m.cls) (hK : va_K D vwCl tys s) (hP : va_P D vwCl ws H) (q0 : Nat) {fs : List Value} (he : ws[q0]? = some (a, .inr (12, fs))) {v : Value} (hv : fs[26]? = some v) (hdg : decode cc pc = .ok (.getfield 133, 3)) (kk : W p l e R s m args below meth c H locs cells slots Q (F0 m (pc + 3) ls (v :: rest))) : W p l e R s m args below meth c H locs cells slots Q (F0 m pc ls (.ref a :: rest)) := va_get (C := RX11) (T := TX11) (N := 47) (ci := 12) hx hb hts inX11 hown hK hP q0 he rfl 26 (by decide) (hts _ t1468) (fun _ h => h) hv hdg kk
theorem dX11_layCell_4 : decode cX11_layCell 4 = .ok (.iload 4, 2) := by decide +kernel
theorem dX11_layCell_6 : decode cX11_layCell 6 = .ok (.lconst 0, 1) := by decide +kernel
theorem dX11_layCell_7 : decode cX11_layCell 7 = .ok (.lastore, 1) := by decide +kernel
theorem dX11_layCell_8 : decode cX11_layCell 8 = .ok (.aload_n 0, 1) := by decide +kernel
theorem dX11_layCell_9 : decode cX11_layCell 9 = .ok (.getfield 136, 3) := by decide +kernel
theorem t1469 : Cond.fieldLink RX11 136 "LikenessPoundModel" "fewest" "[I" ∈ GW := gw_mem 1583 (by decide +kernel) (by decide +kernel)
theorem gf_X11_136 {p : Program} {l : Launch} {e : Env} {R : Room} {s : State} {m : MethodId} {args : Array Value} {below : List Frame} {meth : Method} {c : Code} {H : Heap} {locs : List Loc} {cells slots : Nat} {Q : State → Prop} {cc : ByteArray} {pc : Nat} {ls : Array Slot} {rest : List Value} {D : va_G} {a : Nat} {tys : List (ClassId × FieldType)} {ws : va_W} (hx : p.tables.exec = Jvm.exec) (hb : c.code = cc) (hts : ∀ w ∈ GW, w.before args s = true) (hown : s.vm.findClass RX11 = some m.cls) (hK : va_K D vwCl tys s) (hP : va_P D vwCl ws H) (q0 : Nat) {fs : List Value} (he : ws[q0]? = some (a, .inr (12, fs))) {v : Value} (hv : fs[27]? = some v) (hdg : decode cc pc = .ok (.getfield 136, 3)) (kk : W p l e R s m args below meth c H locs cells slots Q (F0 m (pc + 3) ls (v :: rest))) : W p l e R s m args below meth c H locs cells slots Q (F0 m pc ls (.ref a :: rest)) := va_get (C := RX11) (T := TX11) (N := 47) (ci := 12) hx hb hts inX11 hown hK hP q0 he rfl 27 (by decide) (hts _ t1469) (fun _ h => h) hv hdg kk
theorem dX11_layCell_12 : decode cX11_layCell 12 = .ok (.iload 4, 2) := by decide +kernel
theorem dX11_layCell_14 : decode cX11_layCell 14 = .ok (.ldc_w 310, 3) := by decide +kernel
theorem t1893 : Cond.constant RX11 310 100000 ∈ GW := gw_mem 2007 (by decide +kernel) (by decide +kernel)
theorem dX11_layCell_17 : decode cX11_layCell 17 = .ok (.iastore, 1) := by decide +kernel
theorem dX11_layCell_18 : decode cX11_layCell 18 = .ok (.aload_n 0, 1) := by decide +kernel
theorem dX11_layCell_19 : decode cX11_layCell 19 = .ok (.getfield 98, 3) := by decide +kernel
theorem dX11_layCell_22 : decode cX11_layCell 22 = .ok (.bipush 21, 2) := by decide +kernel
theorem dX11_layCell_24 : decode cX11_layCell 24 = .ok (.iload_n 1, 1) := by decide +kernel
theorem dX11_layCell_25 : decode cX11_layCell 25 = .ok (.iadd, 1) := by decide +kernel
theorem dX11_layCell_26 : decode cX11_layCell 26 = .ok (.iaload, 1) := by decide +kernel
theorem dX11_layCell_27 : decode cX11_layCell 27 = .ok (.iload_n 2, 1) := by decide +kernel
theorem dX11_layCell_28 : decode cX11_layCell 28 = .ok (.if_icmp .ne 8, 3) := by decide +kernel
theorem dX11_layCell_36 : decode cX11_layCell 36 = .ok (.iconst 0, 1) := by decide +kernel
theorem dX11_layCell_37 : decode cX11_layCell 37 = .ok (.istore 5, 2) := by decide +kernel
theorem dX11_layCell_39 : decode cX11_layCell 39 = .ok (.iconst 0, 1) := by decide +kernel
theorem dX11_layCell_40 : decode cX11_layCell 40 = .ok (.istore 6, 2) := by decide +kernel
theorem dX11_layCell_42 : decode cX11_layCell 42 = .ok (.iload 6, 2) := by decide +kernel
theorem dX11_layCell_44 : decode cX11_layCell 44 = .ok (.iload 5, 2) := by decide +kernel
theorem dX11_layCell_46 : decode cX11_layCell 46 = .ok (.if_icmp .gt 92, 3) := by decide +kernel
theorem dX11_layCell_138 : decode cX11_layCell 138 = .ok (.return_, 1) := by decide +kernel
theorem dX11_layCell_49 : decode cX11_layCell 49 = .ok (.iload 6, 2) := by decide +kernel
theorem dX11_layCell_51 : decode cX11_layCell 51 = .ok (.aload_n 0, 1) := by decide +kernel
theorem dX11_layCell_52 : decode cX11_layCell 52 = .ok (.getfield 98, 3) := by decide +kernel
theorem dX11_layCell_55 : decode cX11_layCell 55 = .ok (.bipush 11, 2) := by decide +kernel
theorem dX11_layCell_57 : decode cX11_layCell 57 = .ok (.iload_n 1, 1) := by decide +kernel
theorem dX11_layCell_58 : decode cX11_layCell 58 = .ok (.iadd, 1) := by decide +kernel
theorem dX11_layCell_59 : decode cX11_layCell 59 = .ok (.iaload, 1) := by decide +kernel
theorem dX11_layCell_60 : decode cX11_layCell 60 = .ok (.imul, 1) := by decide +kernel
theorem dX11_layCell_61 : decode cX11_layCell 61 = .ok (.iload_n 3, 1) := by decide +kernel
theorem dX11_layCell_62 : decode cX11_layCell 62 = .ok (.if_icmp .gt 76, 3) := by decide +kernel
theorem dX11_layCell_65 : decode cX11_layCell 65 = .ok (.iload_n 1, 1) := by decide +kernel
theorem dX11_layCell_66 : decode cX11_layCell 66 = .ok (.iconst 1, 1) := by decide +kernel
theorem dX11_layCell_67 : decode cX11_layCell 67 = .ok (.iadd, 1) := by decide +kernel
theorem dX11_layCell_68 : decode cX11_layCell 68 = .ok (.iload_n 2, 1) := by decide +kernel
theorem dX11_layCell_69 : decode cX11_layCell 69 = .ok (.iload_n 3, 1) := by decide +kernel
theorem dX11_layCell_70 : decode cX11_layCell 70 = .ok (.iload 6, 2) := by decide +kernel
theorem dX11_layCell_72 : decode cX11_layCell 72 = .ok (.aload_n 0, 1) := by decide +kernel
theorem dX11_layCell_73 : decode cX11_layCell 73 = .ok (.getfield 98, 3) := by decide +kernel
theorem dX11_layCell_76 : decode cX11_layCell 76 = .ok (.bipush 11, 2) := by decide +kernel
theorem dX11_layCell_78 : decode cX11_layCell 78 = .ok (.iload_n 1, 1) := by decide +kernel
theorem dX11_layCell_79 : decode cX11_layCell 79 = .ok (.iadd, 1) := by decide +kernel
theorem dX11_layCell_80 : decode cX11_layCell 80 = .ok (.iaload, 1) := by decide +kernel
theorem dX11_layCell_81 : decode cX11_layCell 81 = .ok (.imul, 1) := by decide +kernel
theorem dX11_layCell_82 : decode cX11_layCell 82 = .ok (.isub, 1) := by decide +kernel
theorem dX11_layCell_83 : decode cX11_layCell 83 = .ok (.invokestatic 306, 3) := by decide +kernel
theorem t1890 : Cond.methodLink RX11 306 yX11_cellOf ∈ GW := gw_mem 2004 (by decide +kernel) (by decide +kernel)
theorem t1891 : Cond.static yX11_cellOf ∈ GW := gw_mem 2005 (by decide +kernel) (by decide +kernel)
theorem cw_X11_306 {R : Room} {s : State} {args : Array Value} {rm : Room} {mc ms : Nat} (hts : ∀ w ∈ GW, w.before args s = true) (hrc : rm.cells = mc) (hrs : rm.slots = ms) (hR : rm.frames + 1 ≤ R.frames ∧ 8 + (3 + 11) + rm.locals ≤ R.locals) : CallB R s args RX11 306 yX11_cellOf cX11_cellOf 3 (some .int) (wl yX11_cellOf cX11_cellOf 3 (some .int)) rm mc ms 3 ∧ (Cond.static yX11_cellOf).before args s = true := va_cwS 3 hts (gi_S t1890 t1891 t18 t1892) rfl hrc hrs (by decide +kernel) hR
theorem dX11_layCell_86 : decode cX11_layCell 86 = .ok (.istore 7, 2) := by decide +kernel
theorem dX11_layCell_88 : decode cX11_layCell 88 = .ok (.aload_n 0, 1) := by decide +kernel
theorem dX11_layCell_89 : decode cX11_layCell 89 = .ok (.getfield 133, 3) := by decide +kernel
theorem dX11_layCell_92 : decode cX11_layCell 92 = .ok (.iload 4, 2) := by decide +kernel
theorem dX11_layCell_94 : decode cX11_layCell 94 = .ok (.dup2, 1) := by decide +kernel
theorem dX11_layCell_95 : decode cX11_layCell 95 = .ok (.laload, 1) := by decide +kernel
theorem dX11_layCell_96 : decode cX11_layCell 96 = .ok (.aload_n 0, 1) := by decide +kernel
theorem dX11_layCell_97 : decode cX11_layCell 97 = .ok (.getfield 133, 3) := by decide +kernel
theorem dX11_layCell_100 : decode cX11_layCell 100 = .ok (.iload 7, 2) := by decide +kernel
theorem dX11_layCell_102 : decode cX11_layCell 102 = .ok (.laload, 1) := by decide +kernel
theorem dX11_layCell_103 : decode cX11_layCell 103 = .ok (.ladd, 1) := by decide +kernel
theorem dX11_layCell_104 : decode cX11_layCell 104 = .ok (.lastore, 1) := by decide +kernel
theorem dX11_layCell_105 : decode cX11_layCell 105 = .ok (.aload_n 0, 1) := by decide +kernel
theorem dX11_layCell_106 : decode cX11_layCell 106 = .ok (.getfield 136, 3) := by decide +kernel
theorem dX11_layCell_109 : decode cX11_layCell 109 = .ok (.iload 4, 2) := by decide +kernel
theorem dX11_layCell_111 : decode cX11_layCell 111 = .ok (.aload_n 0, 1) := by decide +kernel
theorem dX11_layCell_112 : decode cX11_layCell 112 = .ok (.getfield 136, 3) := by decide +kernel
theorem dX11_layCell_115 : decode cX11_layCell 115 = .ok (.iload 4, 2) := by decide +kernel
theorem dX11_layCell_117 : decode cX11_layCell 117 = .ok (.iaload, 1) := by decide +kernel
theorem dX11_layCell_118 : decode cX11_layCell 118 = .ok (.aload_n 0, 1) := by decide +kernel
theorem dX11_layCell_119 : decode cX11_layCell 119 = .ok (.getfield 136, 3) := by decide +kernel
theorem dX11_layCell_122 : decode cX11_layCell 122 = .ok (.iload 7, 2) := by decide +kernel
theorem dX11_layCell_124 : decode cX11_layCell 124 = .ok (.iaload, 1) := by decide +kernel
theorem dX11_layCell_125 : decode cX11_layCell 125 = .ok (.iload 6, 2) := by decide +kernel
theorem dX11_layCell_127 : decode cX11_layCell 127 = .ok (.iadd, 1) := by decide +kernel
theorem dX11_layCell_128 : decode cX11_layCell 128 = .ok (.invokestatic 288, 3) := by decide +kernel
theorem dX11_layCell_131 : decode cX11_layCell 131 = .ok (.iastore, 1) := by decide +kernel
theorem dX11_layCell_132 : decode cX11_layCell 132 = .ok (.iinc 6 1, 3) := by decide +kernel
theorem dX11_layCell_135 : decode cX11_layCell 135 = .ok (.goto (-93), 3) := by decide +kernel
theorem dX11_layCell_31 : decode cX11_layCell 31 = .ok (.bipush 9, 2) := by decide +kernel
theorem dX11_layCell_33 : decode cX11_layCell 33 = .ok (.goto 4, 3) := by decide +kernel
set_option maxHeartbeats 4000000 in
set_option maxRecDepth 100000 in
theorem m_layCell (l : Launch) (dC : Nat → ClassId) (dI : Nat → Nat → Nat) (cy : Nat → ClassId) (sz : Nat) (vnh : Nat → Int32) (vo : Nat) (voth : Int32) (vmt : Nat) (votp : Int32) (vosz : Int32) (volm : Int32) (voto : Int32) (vofr : Int32) (vokd : Int32) (vonu : Int32) (vosg : Int32) (vofa : Int32) (vopl : Int32) (vowd : Int64) (votd : Int32) (vmn : Nat) (vmr : Nat) (vmk : Nat) (vms : Nat) (vma : Nat) (vmm : Nat) (vmrn : Nat) (vmkn : Nat) (vmik : Nat) (vmon : Nat) (vosm : Int32) (vohp : Int32) (vmw : Nat) (vmf : Nat) (vmb : Nat) (vomb : Int32) (vmd : Nat) (vmc : Nat) (vocm : Int32) (voct : Int32) (vocy : Int32) (vmx : Nat) (votx : Int32) (vose : Int32) (vml : Nat) (vmwr : Nat) (voln : Int32) (vohw : Int32) (vmno : Nat) (vond : Int32) (voon : Int32) (vowi : Int32) (votop : Int32) (vmnf : Nat → Int32) (vmwf : Nat → Int64) (vmff : Nat → Int32) (vd : Int32) (vcr : Int32) (vsu : Int32) (vcc : Int32) (r_vd : 0 ≤ (vd : Int32).toInt ∧ (vd : Int32).toInt ≤ 9) (r_vcr : 0 ≤ (vcr : Int32).toInt ∧ (vcr : Int32).toInt ≤ 1) (r_vsu : 0 ≤ (vsu : Int32).toInt ∧ (vsu : Int32).toInt ≤ 255) (r_vcc : 0 ≤ (vcc : Int32).toInt ∧ (vcc : Int32).toInt ≤ 5631) (p_vmnf : NW vnh vmnf) (p_vmff : Rg vmff 5632 0 100000) (hc : (vcc : Int32).toInt = 512 * (vd : Int32).toInt + 256 * (vcr : Int32).toInt + (vsu : Int32).toInt) : Met l yX11_layCell (wl yX11_layCell cX11_layCell 8 none) ({ frames := 1, cells := 0, slots := 0, locals := 64 }) (Pw (dC, dI) vwCl cy [(vo, .inr (12, [.int voth, .ref vmt, .int votp, .int vosz, .int volm, .int voto, .int vofr, .int vokd, .int vonu, .int vosg, .int vofa, .int vopl, .long vowd, .int votd, .ref vmn, .ref vmr, .ref vmk, .ref vms, .ref vma, .ref vmm, .ref vmrn, .ref vmkn, .ref vmik, .ref vmon, .int vosm, .int vohp, .ref vmw, .ref vmf, .ref vmb, .int vomb, .ref vmd, .ref vmc, .int vocm, .int voct, .int vocy, .ref vmx, .int votx, .int vose, .ref vml, .ref vmwr, .int voln, .int vohw, .ref vmno, .int vond, .int voon, .int vowi, .int votop])), (vmn, .inl (cy 0, 575, .inl vmnf)), (vmw, .inl (cy 1, 5632, .inr (.inl vmwf))), (vmf, .inl (cy 0, 5632, .inl vmff))] sz [.ref vo, .int vd, .int vcr, .int vsu, .int vcc] nE) (Qv (dC, dI) vwCl (fun (u : (Nat → Int64) × (Nat → Int32)) => (Rg u.2 5632 0 100000) ∧ (FQ vmff u.2 (Int32.toNatClampNeg vcc)) ∧ (AE u.2 vmnf (Int32.toNatClampNeg vcc))) (O_m_layCell cy vnh vo voth vmt votp vosz volm voto vofr vokd vonu vosg vofa vopl vowd votd vmn vmr vmk vms vma vmm vmrn vmkn vmik vmon vosm vohp vmw vmf vmb vomb vmd vmc vocm voct vocy vmx votx vose vml vmwr voln vohw vmno vond voon vowi votop vmnf vmwf vmff vd vcr vsu vcc) (va_A [(vo, .inr (12, [.int voth, .ref vmt, .int votp, .int vosz, .int volm, .int voto, .int vofr, .int vokd, .int vonu, .int vosg, .int vofa, .int vopl, .long vowd, .int votd, .ref vmn, .ref vmr, .ref vmk, .ref vms, .ref vma, .ref vmm, .ref vmrn, .ref vmkn, .ref vmik, .ref vmon, .int vosm, .int vohp, .ref vmw, .ref vmf, .ref vmb, .int vomb, .ref vmd, .ref vmc, .int vocm, .int voct, .int vocy, .ref vmx, .int votx, .int vose, .ref vml, .ref vmwr, .int voln, .int vohw, .ref vmno, .int vond, .int voon, .int vowi, .int votop])), (vmn, .inl (cy 0, 575, .inl vmnf)), (vmw, .inl (cy 1, 5632, .inr (.inl vmwf))), (vmf, .inl (cy 0, 5632, .inl vmff))] sz)) 0 0 (va_A [(vo, .inr (12, [.int voth, .ref vmt, .int votp, .int vosz, .int volm, .int voto, .int vofr, .int vokd, .int vonu, .int vosg, .int vofa, .int vopl, .long vowd, .int votd, .ref vmn, .ref vmr, .ref vmk, .ref vms, .ref vma, .ref vmm, .ref vmrn, .ref vmkn, .ref vmik, .ref vmon, .int vosm, .int vohp, .ref vmw, .ref vmf, .ref vmb, .int vomb, .ref vmd, .ref vmc, .int vocm, .int voct, .int vocy, .ref vmx, .int votx, .int vose, .ref vml, .ref vmwr, .int voln, .int vohw, .ref vmno, .int vond, .int voon, .int vowi, .int votop])), (vmn, .inl (cy 0, 575, .inl vmnf)), (vmw, .inl (cy 1, 5632, .inr (.inl vmwf))), (vmf, .inl (cy 0, 5632, .inl vmff))] sz) := by
  refine mw (Qc := Qv (dC, dI) vwCl (fun (u : (Nat → Int64) × (Nat → Int32)) => (Rg u.2 5632 0 100000) ∧ (FQ vmff u.2 (Int32.toNatClampNeg vcc)) ∧ (AE u.2 vmnf (Int32.toNatClampNeg vcc))) (O_m_layCell cy vnh vo voth vmt votp vosz volm voto vofr vokd vonu vosg vofa vopl vowd votd vmn vmr vmk vms vma vmm vmrn vmkn vmik vmon vosm vohp vmw vmf vmb vomb vmd vmc vocm voct vocy vmx votx vose vml vmwr voln vohw vmno vond voon vowi votop vmnf vmwf vmff vd vcr vsu vcc)) RX11 rfl (by decide +kernel) (Nat.le_of_ble_eq_true rfl) ?_
  intro p e s m below meth c A hx hb hr hlocks av9 hav hts hown hnm hml hK hP hD hA hS hE hAe Q9 hQ9 ls hl
  have hl : lv_has ls 8 [(0, .ref vo), (1, .int vd), (2, .int vcr), (3, .int vsu), (4, .int vcc)] := hl
  refine lv_aload_n hx hb dX11_layCell_0 rfl (lv_at hl 0 rfl) ?_
  refine gf_X11_133 hx hb hts hown hK hP 0 rfl rfl dX11_layCell_1 ?_
  refine lv_iload hx hb dX11_layCell_4 (lv_at hl 4 rfl) ?_
  refine lv_lconst (v := 0) hx hb dX11_layCell_6 (by decide) ?_
  have hin_1 : vp_in vcc 5632 := vp_in_iff.mpr ⟨by omega, by omega⟩
  refine va_last hx hb hK hP hD hS 2 1 rfl rfl hin_1 dX11_layCell_7 (fun H locs hP hD hS => ?_)
  obtain ⟨f_2, ef_2⟩ : ∃ z : Nat → Int64, z = vp_updL vmwf (Int32.toNatClampNeg vcc) 0 := ⟨_, rfl⟩
  have hP : va_P (dC, dI) vwCl [(vo, .inr (12, [.int voth, .ref vmt, .int votp, .int vosz, .int volm, .int voto, .int vofr, .int vokd, .int vonu, .int vosg, .int vofa, .int vopl, .long vowd, .int votd, .ref vmn, .ref vmr, .ref vmk, .ref vms, .ref vma, .ref vmm, .ref vmrn, .ref vmkn, .ref vmik, .ref vmon, .int vosm, .int vohp, .ref vmw, .ref vmf, .ref vmb, .int vomb, .ref vmd, .ref vmc, .int vocm, .int voct, .int vocy, .ref vmx, .int votx, .int vose, .ref vml, .ref vmwr, .int voln, .int vohw, .ref vmno, .int vond, .int voon, .int vowi, .int votop])), (vmn, .inl (cy 0, 575, .inl vmnf)), (vmw, .inl (cy 1, 5632, .inr (.inl f_2))), (vmf, .inl (cy 0, 5632, .inl vmff))] H := by rw [ef_2]; exact hP
  have hD : va_D A [(vo, .inr (12, [.int voth, .ref vmt, .int votp, .int vosz, .int volm, .int voto, .int vofr, .int vokd, .int vonu, .int vosg, .int vofa, .int vopl, .long vowd, .int votd, .ref vmn, .ref vmr, .ref vmk, .ref vms, .ref vma, .ref vmm, .ref vmrn, .ref vmkn, .ref vmik, .ref vmon, .int vosm, .int vohp, .ref vmw, .ref vmf, .ref vmb, .int vomb, .ref vmd, .ref vmc, .int vocm, .int voct, .int vocy, .ref vmx, .int votx, .int vose, .ref vml, .ref vmwr, .int voln, .int vohw, .ref vmno, .int vond, .int voon, .int vowi, .int votop])), (vmn, .inl (cy 0, 575, .inl vmnf)), (vmw, .inl (cy 1, 5632, .inr (.inl f_2))), (vmf, .inl (cy 0, 5632, .inl vmff))] := by rw [ef_2]; exact hD
  refine lv_aload_n hx hb dX11_layCell_8 rfl (lv_at hl 0 rfl) ?_
  refine gf_X11_136 hx hb hts hown hK hP 0 rfl rfl dX11_layCell_9 ?_
  refine lv_iload hx hb dX11_layCell_12 (lv_at hl 4 rfl) ?_
  refine lv_ldcw hx hb hown (hts _ t1893) dX11_layCell_14 ?_
  have hin_3 : vp_in vcc 5632 := vp_in_iff.mpr ⟨by omega, by omega⟩
  refine va_iast hx hb hK hP hD hS 3 0 rfl rfl hin_3 dX11_layCell_17 (fun H locs hP hD hS => ?_)
  obtain ⟨f_4, ef_4⟩ : ∃ z : Nat → Int32, z = upd vmff (Int32.toNatClampNeg vcc) 100000 := ⟨_, rfl⟩
  have hP : va_P (dC, dI) vwCl [(vo, .inr (12, [.int voth, .ref vmt, .int votp, .int vosz, .int volm, .int voto, .int vofr, .int vokd, .int vonu, .int vosg, .int vofa, .int vopl, .long vowd, .int votd, .ref vmn, .ref vmr, .ref vmk, .ref vms, .ref vma, .ref vmm, .ref vmrn, .ref vmkn, .ref vmik, .ref vmon, .int vosm, .int vohp, .ref vmw, .ref vmf, .ref vmb, .int vomb, .ref vmd, .ref vmc, .int vocm, .int voct, .int vocy, .ref vmx, .int votx, .int vose, .ref vml, .ref vmwr, .int voln, .int vohw, .ref vmno, .int vond, .int voon, .int vowi, .int votop])), (vmn, .inl (cy 0, 575, .inl vmnf)), (vmw, .inl (cy 1, 5632, .inr (.inl f_2))), (vmf, .inl (cy 0, 5632, .inl f_4))] H := by rw [ef_4]; exact hP
  have hD : va_D A [(vo, .inr (12, [.int voth, .ref vmt, .int votp, .int vosz, .int volm, .int voto, .int vofr, .int vokd, .int vonu, .int vosg, .int vofa, .int vopl, .long vowd, .int votd, .ref vmn, .ref vmr, .ref vmk, .ref vms, .ref vma, .ref vmm, .ref vmrn, .ref vmkn, .ref vmik, .ref vmon, .int vosm, .int vohp, .ref vmw, .ref vmf, .ref vmb, .int vomb, .ref vmd, .ref vmc, .int vocm, .int voct, .int vocy, .ref vmx, .int votx, .int vose, .ref vml, .ref vmwr, .int voln, .int vohw, .ref vmno, .int vond, .int voon, .int vowi, .int votop])), (vmn, .inl (cy 0, 575, .inl vmnf)), (vmw, .inl (cy 1, 5632, .inr (.inl f_2))), (vmf, .inl (cy 0, 5632, .inl f_4))] := by rw [ef_4]; exact hD
  have k_100000 : (100000 : Int32).toInt = 100000 := by decide
  have p_f_4 : Rg f_4 5632 0 100000 := by rw [ef_4]; exact p_vmff.upd ⟨by omega, by omega⟩
  refine lv_aload_n hx hb dX11_layCell_18 rfl (lv_at hl 0 rfl) ?_
  refine gf_X11_98 hx hb hts hown hK hP 0 rfl rfl dX11_layCell_19 ?_
  refine lv_bipush (v := 21) hx hb dX11_layCell_22 (by decide) ?_
  refine lv_iload_n hx hb dX11_layCell_24 rfl (lv_at hl 1 rfl) ?_
  refine lv_iadd hx hb dX11_layCell_25 ?_
  refine lv_topi (fun z_5 ez_5 => ?_)
  have k_21 : (21 : Int32).toInt = 21 := by decide
  have bz_5 : z_5.toInt = (21 : Int32).toInt + vd.toInt := i_add ez_5 (by omega) (by omega)
  have hin_6 : vp_in z_5 575 := vp_in_iff.mpr ⟨by omega, by omega⟩
  refine va_iald hx hb hK hP 1 0 rfl rfl hin_6 dX11_layCell_26 ?_
  refine lv_topi (fun z_7 ez_7 => ?_)
  refine lv_iload_n hx hb dX11_layCell_27 rfl (lv_at hl 2 rfl) ?_
  refine lv_icmp_ne (tgt := 36) hx hb dX11_layCell_28 (by decide) (fun c_8 => ?_) (fun c_8 => ?_)
  · skip
    have c_8 : ¬ (z_7.toInt = vcr.toInt) := fun h9 => c_8 (i_eq.mpr h9)
    refine lv_iconst (v := 0) hx hb dX11_layCell_36 (by decide) ?_
    refine lv_istore (lv' := [(5, .int 0), (0, .ref vo), (1, .int vd), (2, .int vcr), (3, .int vsu), (4, .int vcc)]) hx hb dX11_layCell_37 hl (by decide) rfl (fun ls hl => ?_)
    refine lv_iconst (v := 0) hx hb dX11_layCell_39 (by decide) ?_
    refine lv_istore (lv' := [(6, .int 0), (5, .int 0), (0, .ref vo), (1, .int vd), (2, .int vcr), (3, .int vsu), (4, .int vcc)]) hx hb dX11_layCell_40 hl (by decide) rfl (fun ls hl => ?_)
    have loop9 : ∀ (n9 : Nat) (x_10 : Int32) (g_11 : Nat → Int64) (g_12 : Nat → Int32), (0 ≤ x_10.toInt ∧ x_10.toInt ≤ 10) → Rg g_12 5632 0 100000 → (FQ vmff g_12 (Int32.toNatClampNeg vcc)) → (LI g_12 vmnf (Int32.toNatClampNeg vcc) x_10.toInt) → 10 - x_10.toInt < (n9 : Int) → ∀ (H : Heap) (locs : List Loc), va_P (dC, dI) vwCl [(vo, .inr (12, [.int voth, .ref vmt, .int votp, .int vosz, .int volm, .int voto, .int vofr, .int vokd, .int vonu, .int vosg, .int vofa, .int vopl, .long vowd, .int votd, .ref vmn, .ref vmr, .ref vmk, .ref vms, .ref vma, .ref vmm, .ref vmrn, .ref vmkn, .ref vmik, .ref vmon, .int vosm, .int vohp, .ref vmw, .ref vmf, .ref vmb, .int vomb, .ref vmd, .ref vmc, .int vocm, .int voct, .int vocy, .ref vmx, .int votx, .int vose, .ref vml, .ref vmwr, .int voln, .int vohw, .ref vmno, .int vond, .int voon, .int vowi, .int votop])), (vmn, .inl (cy 0, 575, .inl vmnf)), (vmw, .inl (cy 1, 5632, .inr (.inl g_11))), (vmf, .inl (cy 0, 5632, .inl g_12))] H → va_D A [(vo, .inr (12, [.int voth, .ref vmt, .int votp, .int vosz, .int volm, .int voto, .int vofr, .int vokd, .int vonu, .int vosg, .int vofa, .int vopl, .long vowd, .int votd, .ref vmn, .ref vmr, .ref vmk, .ref vms, .ref vma, .ref vmm, .ref vmrn, .ref vmkn, .ref vmik, .ref vmon, .int vosm, .int vohp, .ref vmw, .ref vmf, .ref vmb, .int vomb, .ref vmd, .ref vmc, .int vocm, .int voct, .int vocy, .ref vmx, .int votx, .int vose, .ref vml, .ref vmwr, .int voln, .int vohw, .ref vmno, .int vond, .int voon, .int vowi, .int votop])), (vmn, .inl (cy 0, 575, .inl vmnf)), (vmw, .inl (cy 1, 5632, .inr (.inl g_11))), (vmf, .inl (cy 0, 5632, .inl g_12))] → va_S A s.heap H locs → ∀ ls : Array Slot, lv_has ls 8 [(6, .int x_10), (5, .int 0), (0, .ref vo), (1, .int vd), (2, .int vcr), (3, .int vsu), (4, .int vcc)] → W p l e ({ frames := 1, cells := 0, slots := 0, locals := 64 }) s m av9 below meth c H locs 0 0 Q9 (F0 m 42 ls []) := by
      intro n9
      induction n9 with
      | zero =>
        intro x_10 g_11 g_12 bx_10 p_g_12 v9_0 v9_1 hn9 H locs hP hD hS ls hl
        exfalso; omega
      | succ n9 ih9 =>
        intro x_10 g_11 g_12 bx_10 p_g_12 v9_0 v9_1 hn9 H locs hP hD hS ls hl
        refine lv_iload hx hb dX11_layCell_42 (lv_at hl 0 rfl) ?_
        refine lv_iload hx hb dX11_layCell_44 (lv_at hl 1 rfl) ?_
        have k_0 : (0 : Int32).toInt = 0 := by decide
        refine lv_icmp_gt (tgt := 138) hx hb dX11_layCell_46 (by decide) (fun c_13 => ?_) (fun c_13 => ?_)
        · skip
          have c_13 : (0 : Int32).toInt < x_10.toInt := i_lt.mp c_13
          rw [hQ9]
          exact re_v (g_11, g_12) hx hb hr hlocks ⟨(show Rg g_12 5632 0 100000 from p_g_12), (show FQ vmff g_12 (Int32.toNatClampNeg vcc) from v9_0), (show AE g_12 vmnf (Int32.toNatClampNeg vcc) from (LI.ae v9_1 (by omega)))⟩ (hP.sub [0, 1, 2, 3] rfl) (hD.sub [0, 1, 2, 3] rfl rfl) hS dX11_layCell_138
        · skip
          have c_13 : ¬ ((0 : Int32).toInt < x_10.toInt) := fun h9 => c_13 (i_lt.mpr h9)
          refine lv_iload hx hb dX11_layCell_49 (lv_at hl 0 rfl) ?_
          refine lv_aload_n hx hb dX11_layCell_51 rfl (lv_at hl 2 rfl) ?_
          refine gf_X11_98 hx hb hts hown hK hP 0 rfl rfl dX11_layCell_52 ?_
          refine lv_bipush (v := 11) hx hb dX11_layCell_55 (by decide) ?_
          refine lv_iload_n hx hb dX11_layCell_57 rfl (lv_at hl 3 rfl) ?_
          refine lv_iadd hx hb dX11_layCell_58 ?_
          refine lv_topi (fun z_14 ez_14 => ?_)
          have k_11 : (11 : Int32).toInt = 11 := by decide
          have bz_14 : z_14.toInt = (11 : Int32).toInt + vd.toInt := i_add ez_14 (by omega) (by omega)
          have hin_15 : vp_in z_14 575 := vp_in_iff.mpr ⟨by omega, by omega⟩
          refine va_iald hx hb hK hP 1 0 rfl rfl hin_15 dX11_layCell_59 ?_
          refine lv_topi (fun z_16 ez_16 => ?_)
          have bz_16 := p_vmnf.aw (x := z_14) ⟨by omega, by omega⟩ ez_16
          refine lv_imul hx hb dX11_layCell_60 ?_
          refine lv_topi (fun z_17 ez_17 => ?_)
          have bz_17 : 0 ≤ z_17.toInt ∧ z_17.toInt ≤ 0 ∧ z_17.toInt = x_10.toInt * z_16.toInt := i_mulb (A := 0) (B := 40) ez_17 ⟨by omega, by omega⟩ ⟨by omega, by omega⟩ (by decide)
          refine lv_iload_n hx hb dX11_layCell_61 rfl (lv_at hl 5 rfl) ?_
          refine lv_icmp_gt (tgt := 138) hx hb dX11_layCell_62 (by decide) (fun c9 => absurd (i_lt.mp c9) (by omega)) (fun _ => ?_)
          refine lv_iload_n hx hb dX11_layCell_65 rfl (lv_at hl 3 rfl) ?_
          refine lv_iconst (v := 1) hx hb dX11_layCell_66 (by decide) ?_
          refine lv_iadd hx hb dX11_layCell_67 ?_
          refine lv_topi (fun z_18 ez_18 => ?_)
          have k_1 : (1 : Int32).toInt = 1 := by decide
          have bz_18 : z_18.toInt = vd.toInt + (1 : Int32).toInt := i_add ez_18 (by omega) (by omega)
          refine lv_iload_n hx hb dX11_layCell_68 rfl (lv_at hl 4 rfl) ?_
          refine lv_iload_n hx hb dX11_layCell_69 rfl (lv_at hl 5 rfl) ?_
          refine lv_iload hx hb dX11_layCell_70 (lv_at hl 0 rfl) ?_
          refine lv_aload_n hx hb dX11_layCell_72 rfl (lv_at hl 2 rfl) ?_
          refine gf_X11_98 hx hb hts hown hK hP 0 rfl rfl dX11_layCell_73 ?_
          refine lv_bipush (v := 11) hx hb dX11_layCell_76 (by decide) ?_
          refine lv_iload_n hx hb dX11_layCell_78 rfl (lv_at hl 3 rfl) ?_
          refine lv_iadd hx hb dX11_layCell_79 ?_
          refine lv_topi (fun z_19 ez_19 => ?_)
          have bz_19 : z_19.toInt = (11 : Int32).toInt + vd.toInt := i_add ez_19 (by omega) (by omega)
          have hin_20 : vp_in z_19 575 := vp_in_iff.mpr ⟨by omega, by omega⟩
          refine va_iald hx hb hK hP 1 0 rfl rfl hin_20 dX11_layCell_80 ?_
          refine lv_topi (fun z_21 ez_21 => ?_)
          have bz_21 := p_vmnf.aw (x := z_19) ⟨by omega, by omega⟩ ez_21
          refine as_i z_16 (i_eq.mpr (i_same ez_16 ez_21 (by omega))) ?_
          refine lv_imul hx hb dX11_layCell_81 ?_
          refine lv_topi (fun z_22 ez_22 => ?_)
          have bz_22 : 0 ≤ z_22.toInt ∧ z_22.toInt ≤ 0 ∧ z_22.toInt = x_10.toInt * z_16.toInt := i_mulb (A := 0) (B := 40) ez_22 ⟨by omega, by omega⟩ ⟨by omega, by omega⟩ (by decide)
          refine lv_isub hx hb dX11_layCell_82 ?_
          refine lv_topi (fun z_23 ez_23 => ?_)
          have bz_23 : z_23.toInt = vsu.toInt - z_22.toInt := i_sub ez_23 (by omega) (by omega)
          refine jr_i (rSr (As := [.int z_18, .int vcr, .int z_23]) (rest := []) ⟨hx, hb, hml, hown, hts⟩ (m_cellOf l dC dI cy z_18 vcr z_23 ⟨by omega, by omega⟩ r_vcr ⟨by omega, by omega⟩) (cw_X11_306 hts rfl rfl ⟨Nat.le_of_ble_eq_true rfl, Nat.le_of_ble_eq_true rfl⟩) hP hK [] rfl rfl hl.1 rfl (Nat.le_of_ble_eq_true rfl) dX11_layCell_83 ⟨Nat.le_of_ble_eq_true rfl, Nat.le_of_ble_eq_true rfl⟩) hP hS (fun r_24 H locs hp_25 hP hS => ?_)
          have hp_25 : (0 ≤ (r_24 : Int32).toInt ∧ (r_24 : Int32).toInt ≤ 5631) ∧ ((r_24 : Int32).toInt = 512 * (z_18 : Int32).toInt + 256 * (vcr : Int32).toInt + (z_23 : Int32).toInt) := hp_25
          obtain ⟨q_26, q_27⟩ := hp_25
          refine lv_istore (lv' := [(7, .int r_24), (6, .int x_10), (5, .int 0), (0, .ref vo), (1, .int vd), (2, .int vcr), (3, .int vsu), (4, .int vcc)]) hx hb dX11_layCell_86 hl (by decide) rfl (fun ls hl => ?_)
          refine lv_aload_n hx hb dX11_layCell_88 rfl (lv_at hl 3 rfl) ?_
          refine gf_X11_133 hx hb hts hown hK hP 0 rfl rfl dX11_layCell_89 ?_
          refine lv_iload hx hb dX11_layCell_92 (lv_at hl 7 rfl) ?_
          refine lv_dup2_11 hx hb dX11_layCell_94 rfl rfl ?_
          have hin_28 : vp_in vcc 5632 := vp_in_iff.mpr ⟨by omega, by omega⟩
          refine va_lald hx hb hK hP 2 1 rfl rfl hin_28 dX11_layCell_95 ?_
          refine lv_topl (fun y_29 ey_29 => ?_)
          refine lv_aload_n hx hb dX11_layCell_96 rfl (lv_at hl 3 rfl) ?_
          refine gf_X11_133 hx hb hts hown hK hP 0 rfl rfl dX11_layCell_97 ?_
          refine lv_iload hx hb dX11_layCell_100 (lv_at hl 0 rfl) ?_
          have hin_30 : vp_in r_24 5632 := vp_in_iff.mpr ⟨by omega, by omega⟩
          refine va_lald hx hb hK hP 2 1 rfl rfl hin_30 dX11_layCell_102 ?_
          refine lv_topl (fun y_31 ey_31 => ?_)
          refine lv_ladd hx hb dX11_layCell_103 ?_
          refine lv_topl (fun y_32 ey_32 => ?_)
          have hin_33 : vp_in vcc 5632 := vp_in_iff.mpr ⟨by omega, by omega⟩
          refine va_last hx hb hK hP hD hS 2 1 rfl rfl hin_33 dX11_layCell_104 (fun H locs hP hD hS => ?_)
          obtain ⟨f_34, ef_34⟩ : ∃ z : Nat → Int64, z = vp_updL g_11 (Int32.toNatClampNeg vcc) y_32 := ⟨_, rfl⟩
          have hP : va_P (dC, dI) vwCl [(vo, .inr (12, [.int voth, .ref vmt, .int votp, .int vosz, .int volm, .int voto, .int vofr, .int vokd, .int vonu, .int vosg, .int vofa, .int vopl, .long vowd, .int votd, .ref vmn, .ref vmr, .ref vmk, .ref vms, .ref vma, .ref vmm, .ref vmrn, .ref vmkn, .ref vmik, .ref vmon, .int vosm, .int vohp, .ref vmw, .ref vmf, .ref vmb, .int vomb, .ref vmd, .ref vmc, .int vocm, .int voct, .int vocy, .ref vmx, .int votx, .int vose, .ref vml, .ref vmwr, .int voln, .int vohw, .ref vmno, .int vond, .int voon, .int vowi, .int votop])), (vmn, .inl (cy 0, 575, .inl vmnf)), (vmw, .inl (cy 1, 5632, .inr (.inl f_34))), (vmf, .inl (cy 0, 5632, .inl g_12))] H := by rw [ef_34]; exact hP
          have hD : va_D A [(vo, .inr (12, [.int voth, .ref vmt, .int votp, .int vosz, .int volm, .int voto, .int vofr, .int vokd, .int vonu, .int vosg, .int vofa, .int vopl, .long vowd, .int votd, .ref vmn, .ref vmr, .ref vmk, .ref vms, .ref vma, .ref vmm, .ref vmrn, .ref vmkn, .ref vmik, .ref vmon, .int vosm, .int vohp, .ref vmw, .ref vmf, .ref vmb, .int vomb, .ref vmd, .ref vmc, .int vocm, .int voct, .int vocy, .ref vmx, .int votx, .int vose, .ref vml, .ref vmwr, .int voln, .int vohw, .ref vmno, .int vond, .int voon, .int vowi, .int votop])), (vmn, .inl (cy 0, 575, .inl vmnf)), (vmw, .inl (cy 1, 5632, .inr (.inl f_34))), (vmf, .inl (cy 0, 5632, .inl g_12))] := by rw [ef_34]; exact hD
          refine lv_aload_n hx hb dX11_layCell_105 rfl (lv_at hl 3 rfl) ?_
          refine gf_X11_136 hx hb hts hown hK hP 0 rfl rfl dX11_layCell_106 ?_
          refine lv_iload hx hb dX11_layCell_109 (lv_at hl 7 rfl) ?_
          refine lv_aload_n hx hb dX11_layCell_111 rfl (lv_at hl 3 rfl) ?_
          refine gf_X11_136 hx hb hts hown hK hP 0 rfl rfl dX11_layCell_112 ?_
          refine lv_iload hx hb dX11_layCell_115 (lv_at hl 7 rfl) ?_
          have hin_35 : vp_in vcc 5632 := vp_in_iff.mpr ⟨by omega, by omega⟩
          refine va_iald hx hb hK hP 3 0 rfl rfl hin_35 dX11_layCell_117 ?_
          refine lv_topi (fun z_36 ez_36 => ?_)
          have bz_36 := p_g_12.at hin_35 ez_36
          refine lv_aload_n hx hb dX11_layCell_118 rfl (lv_at hl 3 rfl) ?_
          refine gf_X11_136 hx hb hts hown hK hP 0 rfl rfl dX11_layCell_119 ?_
          refine lv_iload hx hb dX11_layCell_122 (lv_at hl 0 rfl) ?_
          have hin_37 : vp_in r_24 5632 := vp_in_iff.mpr ⟨by omega, by omega⟩
          refine va_iald hx hb hK hP 3 0 rfl rfl hin_37 dX11_layCell_124 ?_
          refine lv_topi (fun z_38 ez_38 => ?_)
          have bz_38 := p_g_12.at hin_37 ez_38
          refine lv_iload hx hb dX11_layCell_125 (lv_at hl 1 rfl) ?_
          refine lv_iadd hx hb dX11_layCell_127 ?_
          refine lv_topi (fun z_39 ez_39 => ?_)
          have bz_39 : z_39.toInt = z_38.toInt + x_10.toInt := i_add ez_39 (by omega) (by omega)
          refine jr_i (rSr (As := [.int z_36, .int z_39]) (rest := [.int vcc, .ref vmf]) ⟨hx, hb, hml, hown, hts⟩ (m_least l dC dI cy z_36 z_39 ) (cw_X11_288 hts rfl rfl ⟨Nat.le_of_ble_eq_true rfl, Nat.le_of_ble_eq_true rfl⟩) hP hK [] rfl rfl hl.1 rfl (Nat.le_of_ble_eq_true rfl) dX11_layCell_128 ⟨Nat.le_of_ble_eq_true rfl, Nat.le_of_ble_eq_true rfl⟩) hP hS (fun r_40 H locs hp_41 hP hS => ?_)
          have hp_41 : ((r_40 : Int32).toInt ≤ (z_36 : Int32).toInt) ∧ ((r_40 : Int32).toInt ≤ (z_39 : Int32).toInt) ∧ (((r_40 : Int32).toInt = (z_36 : Int32).toInt ∨ (r_40 : Int32).toInt = (z_39 : Int32).toInt)) := hp_41
          obtain ⟨q_42, q_43, q_44⟩ := hp_41
          have hin_45 : vp_in vcc 5632 := vp_in_iff.mpr ⟨by omega, by omega⟩
          refine va_iast hx hb hK hP hD hS 3 0 rfl rfl hin_45 dX11_layCell_131 (fun H locs hP hD hS => ?_)
          obtain ⟨f_46, ef_46⟩ : ∃ z : Nat → Int32, z = upd g_12 (Int32.toNatClampNeg vcc) r_40 := ⟨_, rfl⟩
          have hP : va_P (dC, dI) vwCl [(vo, .inr (12, [.int voth, .ref vmt, .int votp, .int vosz, .int volm, .int voto, .int vofr, .int vokd, .int vonu, .int vosg, .int vofa, .int vopl, .long vowd, .int votd, .ref vmn, .ref vmr, .ref vmk, .ref vms, .ref vma, .ref vmm, .ref vmrn, .ref vmkn, .ref vmik, .ref vmon, .int vosm, .int vohp, .ref vmw, .ref vmf, .ref vmb, .int vomb, .ref vmd, .ref vmc, .int vocm, .int voct, .int vocy, .ref vmx, .int votx, .int vose, .ref vml, .ref vmwr, .int voln, .int vohw, .ref vmno, .int vond, .int voon, .int vowi, .int votop])), (vmn, .inl (cy 0, 575, .inl vmnf)), (vmw, .inl (cy 1, 5632, .inr (.inl f_34))), (vmf, .inl (cy 0, 5632, .inl f_46))] H := by rw [ef_46]; exact hP
          have hD : va_D A [(vo, .inr (12, [.int voth, .ref vmt, .int votp, .int vosz, .int volm, .int voto, .int vofr, .int vokd, .int vonu, .int vosg, .int vofa, .int vopl, .long vowd, .int votd, .ref vmn, .ref vmr, .ref vmk, .ref vms, .ref vma, .ref vmm, .ref vmrn, .ref vmkn, .ref vmik, .ref vmon, .int vosm, .int vohp, .ref vmw, .ref vmf, .ref vmb, .int vomb, .ref vmd, .ref vmc, .int vocm, .int voct, .int vocy, .ref vmx, .int votx, .int vose, .ref vml, .ref vmwr, .int voln, .int vohw, .ref vmno, .int vond, .int voon, .int vowi, .int votop])), (vmn, .inl (cy 0, 575, .inl vmnf)), (vmw, .inl (cy 1, 5632, .inr (.inl f_34))), (vmf, .inl (cy 0, 5632, .inl f_46))] := by rw [ef_46]; exact hD
          have p_f_46 : Rg f_46 5632 0 100000 := by rw [ef_46]; exact p_g_12.upd ⟨by omega, by omega⟩
          obtain ⟨z_47, ez_47⟩ : ∃ z : Int32, z = x_10 + 1 := ⟨_, rfl⟩
          have bz_47 : z_47.toInt = x_10.toInt + (1 : Int32).toInt := i_add ez_47 (by omega) (by omega)
          refine lv_iinc (v := z_47) (lv' := [(6, .int z_47), (7, .int r_24), (5, .int 0), (0, .ref vo), (1, .int vd), (2, .int vcr), (3, .int vsu), (4, .int vcc)]) hx hb dX11_layCell_132 hl (k := 1) rfl ez_47.symm (by decide) rfl (fun ls hl => ?_)
          refine lv_goto (tgt := 42) hx hb dX11_layCell_135 (by decide) ?_
          exact ih9 z_47 f_34 f_46 ⟨by omega, by omega⟩ p_f_46 (ef_46 ▸ FQ.up v9_0) (Or.inr (ef_46 ▸ LI.step (d := vd) (cr := vcr.toInt) (su := vsu.toInt) v9_1 (by omega) ⟨by omega, by omega⟩ ⟨by omega, by omega⟩ ⟨by omega, by omega⟩ (i1 := z_14) (by omega) ez_16 ⟨by omega, by omega⟩ bz_22.2.2 ⟨by omega, by omega⟩ (nx := r_24) (by omega) ez_36 ez_38 (by omega) (b := z_39) (by omega) (by omega) (by omega) (by omega))) (by omega) _ _ (hP.sub [0, 1, 2, 3] rfl) (hD.sub [0, 1, 2, 3] rfl rfl) hS ls (lv_sub hl [0, 2, 3, 4, 5, 6, 7] rfl)
    have k_0 : (0 : Int32).toInt = 0 := by decide
    exact loop9 ((10 - (0 : Int32).toInt).toNat + 1) 0 f_2 f_4 ⟨by omega, by omega⟩ p_f_4 (ef_4 ▸ FQ.up FQ.rf) (Or.inl ⟨by omega, by rw [ef_4, pk_us]; omega⟩) (by omega) _ _ hP hD hS ls (lv_sub hl [0, 1, 2, 3, 4, 5, 6] rfl)
  · skip
    have c_8 : z_7.toInt = vcr.toInt := i_eq.mp c_8
    refine lv_bipush (v := 9) hx hb dX11_layCell_31 (by decide) ?_
    refine lv_goto (tgt := 37) hx hb dX11_layCell_33 (by decide) ?_
    refine lv_istore (lv' := [(5, .int 9), (0, .ref vo), (1, .int vd), (2, .int vcr), (3, .int vsu), (4, .int vcc)]) hx hb dX11_layCell_37 hl (by decide) rfl (fun ls hl => ?_)
    refine lv_iconst (v := 0) hx hb dX11_layCell_39 (by decide) ?_
    refine lv_istore (lv' := [(6, .int 0), (5, .int 9), (0, .ref vo), (1, .int vd), (2, .int vcr), (3, .int vsu), (4, .int vcc)]) hx hb dX11_layCell_40 hl (by decide) rfl (fun ls hl => ?_)
    have loop48 : ∀ (n48 : Nat) (x_49 : Int32) (g_50 : Nat → Int64) (g_51 : Nat → Int32), (0 ≤ x_49.toInt ∧ x_49.toInt ≤ 10) → Rg g_51 5632 0 100000 → (FQ vmff g_51 (Int32.toNatClampNeg vcc)) → (LI g_51 vmnf (Int32.toNatClampNeg vcc) x_49.toInt) → 10 - x_49.toInt < (n48 : Int) → ∀ (H : Heap) (locs : List Loc), va_P (dC, dI) vwCl [(vo, .inr (12, [.int voth, .ref vmt, .int votp, .int vosz, .int volm, .int voto, .int vofr, .int vokd, .int vonu, .int vosg, .int vofa, .int vopl, .long vowd, .int votd, .ref vmn, .ref vmr, .ref vmk, .ref vms, .ref vma, .ref vmm, .ref vmrn, .ref vmkn, .ref vmik, .ref vmon, .int vosm, .int vohp, .ref vmw, .ref vmf, .ref vmb, .int vomb, .ref vmd, .ref vmc, .int vocm, .int voct, .int vocy, .ref vmx, .int votx, .int vose, .ref vml, .ref vmwr, .int voln, .int vohw, .ref vmno, .int vond, .int voon, .int vowi, .int votop])), (vmn, .inl (cy 0, 575, .inl vmnf)), (vmw, .inl (cy 1, 5632, .inr (.inl g_50))), (vmf, .inl (cy 0, 5632, .inl g_51))] H → va_D A [(vo, .inr (12, [.int voth, .ref vmt, .int votp, .int vosz, .int volm, .int voto, .int vofr, .int vokd, .int vonu, .int vosg, .int vofa, .int vopl, .long vowd, .int votd, .ref vmn, .ref vmr, .ref vmk, .ref vms, .ref vma, .ref vmm, .ref vmrn, .ref vmkn, .ref vmik, .ref vmon, .int vosm, .int vohp, .ref vmw, .ref vmf, .ref vmb, .int vomb, .ref vmd, .ref vmc, .int vocm, .int voct, .int vocy, .ref vmx, .int votx, .int vose, .ref vml, .ref vmwr, .int voln, .int vohw, .ref vmno, .int vond, .int voon, .int vowi, .int votop])), (vmn, .inl (cy 0, 575, .inl vmnf)), (vmw, .inl (cy 1, 5632, .inr (.inl g_50))), (vmf, .inl (cy 0, 5632, .inl g_51))] → va_S A s.heap H locs → ∀ ls : Array Slot, lv_has ls 8 [(6, .int x_49), (5, .int 9), (0, .ref vo), (1, .int vd), (2, .int vcr), (3, .int vsu), (4, .int vcc)] → W p l e ({ frames := 1, cells := 0, slots := 0, locals := 64 }) s m av9 below meth c H locs 0 0 Q9 (F0 m 42 ls []) := by
      intro n48
      induction n48 with
      | zero =>
        intro x_49 g_50 g_51 bx_49 p_g_51 v48_0 v48_1 hn48 H locs hP hD hS ls hl
        exfalso; omega
      | succ n48 ih48 =>
        intro x_49 g_50 g_51 bx_49 p_g_51 v48_0 v48_1 hn48 H locs hP hD hS ls hl
        refine lv_iload hx hb dX11_layCell_42 (lv_at hl 0 rfl) ?_
        refine lv_iload hx hb dX11_layCell_44 (lv_at hl 1 rfl) ?_
        have k_9 : (9 : Int32).toInt = 9 := by decide
        refine lv_icmp_gt (tgt := 138) hx hb dX11_layCell_46 (by decide) (fun c_52 => ?_) (fun c_52 => ?_)
        · skip
          have c_52 : (9 : Int32).toInt < x_49.toInt := i_lt.mp c_52
          rw [hQ9]
          exact re_v (g_50, g_51) hx hb hr hlocks ⟨(show Rg g_51 5632 0 100000 from p_g_51), (show FQ vmff g_51 (Int32.toNatClampNeg vcc) from v48_0), (show AE g_51 vmnf (Int32.toNatClampNeg vcc) from (LI.ae v48_1 (by omega)))⟩ (hP.sub [0, 1, 2, 3] rfl) (hD.sub [0, 1, 2, 3] rfl rfl) hS dX11_layCell_138
        · skip
          have c_52 : ¬ ((9 : Int32).toInt < x_49.toInt) := fun h9 => c_52 (i_lt.mpr h9)
          refine lv_iload hx hb dX11_layCell_49 (lv_at hl 0 rfl) ?_
          refine lv_aload_n hx hb dX11_layCell_51 rfl (lv_at hl 2 rfl) ?_
          refine gf_X11_98 hx hb hts hown hK hP 0 rfl rfl dX11_layCell_52 ?_
          refine lv_bipush (v := 11) hx hb dX11_layCell_55 (by decide) ?_
          refine lv_iload_n hx hb dX11_layCell_57 rfl (lv_at hl 3 rfl) ?_
          refine lv_iadd hx hb dX11_layCell_58 ?_
          refine lv_topi (fun z_53 ez_53 => ?_)
          have k_11 : (11 : Int32).toInt = 11 := by decide
          have bz_53 : z_53.toInt = (11 : Int32).toInt + vd.toInt := i_add ez_53 (by omega) (by omega)
          have hin_54 : vp_in z_53 575 := vp_in_iff.mpr ⟨by omega, by omega⟩
          refine va_iald hx hb hK hP 1 0 rfl rfl hin_54 dX11_layCell_59 ?_
          refine lv_topi (fun z_55 ez_55 => ?_)
          have bz_55 := p_vmnf.aw (x := z_53) ⟨by omega, by omega⟩ ez_55
          refine lv_imul hx hb dX11_layCell_60 ?_
          refine lv_topi (fun z_56 ez_56 => ?_)
          have bz_56 : 0 ≤ z_56.toInt ∧ z_56.toInt ≤ 360 ∧ z_56.toInt = x_49.toInt * z_55.toInt := i_mulb (A := 9) (B := 40) ez_56 ⟨by omega, by omega⟩ ⟨by omega, by omega⟩ (by decide)
          refine lv_iload_n hx hb dX11_layCell_61 rfl (lv_at hl 5 rfl) ?_
          refine lv_icmp_gt (tgt := 138) hx hb dX11_layCell_62 (by decide) (fun c_57 => ?_) (fun c_57 => ?_)
          · skip
            have c_57 : vsu.toInt < z_56.toInt := i_lt.mp c_57
            rw [hQ9]
            exact re_v (g_50, g_51) hx hb hr hlocks ⟨(show Rg g_51 5632 0 100000 from p_g_51), (show FQ vmff g_51 (Int32.toNatClampNeg vcc) from v48_0), (show AE g_51 vmnf (Int32.toNatClampNeg vcc) from (LI.ae v48_1 (pos_of bz_56.2.2 (by omega))))⟩ (hP.sub [0, 1, 2, 3] rfl) (hD.sub [0, 1, 2, 3] rfl rfl) hS dX11_layCell_138
          · skip
            have c_57 : ¬ (vsu.toInt < z_56.toInt) := fun h9 => c_57 (i_lt.mpr h9)
            refine lv_iload_n hx hb dX11_layCell_65 rfl (lv_at hl 3 rfl) ?_
            refine lv_iconst (v := 1) hx hb dX11_layCell_66 (by decide) ?_
            refine lv_iadd hx hb dX11_layCell_67 ?_
            refine lv_topi (fun z_58 ez_58 => ?_)
            have k_1 : (1 : Int32).toInt = 1 := by decide
            have bz_58 : z_58.toInt = vd.toInt + (1 : Int32).toInt := i_add ez_58 (by omega) (by omega)
            refine lv_iload_n hx hb dX11_layCell_68 rfl (lv_at hl 4 rfl) ?_
            refine lv_iload_n hx hb dX11_layCell_69 rfl (lv_at hl 5 rfl) ?_
            refine lv_iload hx hb dX11_layCell_70 (lv_at hl 0 rfl) ?_
            refine lv_aload_n hx hb dX11_layCell_72 rfl (lv_at hl 2 rfl) ?_
            refine gf_X11_98 hx hb hts hown hK hP 0 rfl rfl dX11_layCell_73 ?_
            refine lv_bipush (v := 11) hx hb dX11_layCell_76 (by decide) ?_
            refine lv_iload_n hx hb dX11_layCell_78 rfl (lv_at hl 3 rfl) ?_
            refine lv_iadd hx hb dX11_layCell_79 ?_
            refine lv_topi (fun z_59 ez_59 => ?_)
            have bz_59 : z_59.toInt = (11 : Int32).toInt + vd.toInt := i_add ez_59 (by omega) (by omega)
            have hin_60 : vp_in z_59 575 := vp_in_iff.mpr ⟨by omega, by omega⟩
            refine va_iald hx hb hK hP 1 0 rfl rfl hin_60 dX11_layCell_80 ?_
            refine lv_topi (fun z_61 ez_61 => ?_)
            have bz_61 := p_vmnf.aw (x := z_59) ⟨by omega, by omega⟩ ez_61
            refine as_i z_55 (i_eq.mpr (i_same ez_55 ez_61 (by omega))) ?_
            refine lv_imul hx hb dX11_layCell_81 ?_
            refine lv_topi (fun z_62 ez_62 => ?_)
            have bz_62 : 0 ≤ z_62.toInt ∧ z_62.toInt ≤ 360 ∧ z_62.toInt = x_49.toInt * z_55.toInt := i_mulb (A := 9) (B := 40) ez_62 ⟨by omega, by omega⟩ ⟨by omega, by omega⟩ (by decide)
            refine lv_isub hx hb dX11_layCell_82 ?_
            refine lv_topi (fun z_63 ez_63 => ?_)
            have bz_63 : z_63.toInt = vsu.toInt - z_62.toInt := i_sub ez_63 (by omega) (by omega)
            refine jr_i (rSr (As := [.int z_58, .int vcr, .int z_63]) (rest := []) ⟨hx, hb, hml, hown, hts⟩ (m_cellOf l dC dI cy z_58 vcr z_63 ⟨by omega, by omega⟩ r_vcr ⟨by omega, by omega⟩) (cw_X11_306 hts rfl rfl ⟨Nat.le_of_ble_eq_true rfl, Nat.le_of_ble_eq_true rfl⟩) hP hK [] rfl rfl hl.1 rfl (Nat.le_of_ble_eq_true rfl) dX11_layCell_83 ⟨Nat.le_of_ble_eq_true rfl, Nat.le_of_ble_eq_true rfl⟩) hP hS (fun r_64 H locs hp_65 hP hS => ?_)
            have hp_65 : (0 ≤ (r_64 : Int32).toInt ∧ (r_64 : Int32).toInt ≤ 5631) ∧ ((r_64 : Int32).toInt = 512 * (z_58 : Int32).toInt + 256 * (vcr : Int32).toInt + (z_63 : Int32).toInt) := hp_65
            obtain ⟨q_66, q_67⟩ := hp_65
            refine lv_istore (lv' := [(7, .int r_64), (6, .int x_49), (5, .int 9), (0, .ref vo), (1, .int vd), (2, .int vcr), (3, .int vsu), (4, .int vcc)]) hx hb dX11_layCell_86 hl (by decide) rfl (fun ls hl => ?_)
            refine lv_aload_n hx hb dX11_layCell_88 rfl (lv_at hl 3 rfl) ?_
            refine gf_X11_133 hx hb hts hown hK hP 0 rfl rfl dX11_layCell_89 ?_
            refine lv_iload hx hb dX11_layCell_92 (lv_at hl 7 rfl) ?_
            refine lv_dup2_11 hx hb dX11_layCell_94 rfl rfl ?_
            have hin_68 : vp_in vcc 5632 := vp_in_iff.mpr ⟨by omega, by omega⟩
            refine va_lald hx hb hK hP 2 1 rfl rfl hin_68 dX11_layCell_95 ?_
            refine lv_topl (fun y_69 ey_69 => ?_)
            refine lv_aload_n hx hb dX11_layCell_96 rfl (lv_at hl 3 rfl) ?_
            refine gf_X11_133 hx hb hts hown hK hP 0 rfl rfl dX11_layCell_97 ?_
            refine lv_iload hx hb dX11_layCell_100 (lv_at hl 0 rfl) ?_
            have hin_70 : vp_in r_64 5632 := vp_in_iff.mpr ⟨by omega, by omega⟩
            refine va_lald hx hb hK hP 2 1 rfl rfl hin_70 dX11_layCell_102 ?_
            refine lv_topl (fun y_71 ey_71 => ?_)
            refine lv_ladd hx hb dX11_layCell_103 ?_
            refine lv_topl (fun y_72 ey_72 => ?_)
            have hin_73 : vp_in vcc 5632 := vp_in_iff.mpr ⟨by omega, by omega⟩
            refine va_last hx hb hK hP hD hS 2 1 rfl rfl hin_73 dX11_layCell_104 (fun H locs hP hD hS => ?_)
            obtain ⟨f_74, ef_74⟩ : ∃ z : Nat → Int64, z = vp_updL g_50 (Int32.toNatClampNeg vcc) y_72 := ⟨_, rfl⟩
            have hP : va_P (dC, dI) vwCl [(vo, .inr (12, [.int voth, .ref vmt, .int votp, .int vosz, .int volm, .int voto, .int vofr, .int vokd, .int vonu, .int vosg, .int vofa, .int vopl, .long vowd, .int votd, .ref vmn, .ref vmr, .ref vmk, .ref vms, .ref vma, .ref vmm, .ref vmrn, .ref vmkn, .ref vmik, .ref vmon, .int vosm, .int vohp, .ref vmw, .ref vmf, .ref vmb, .int vomb, .ref vmd, .ref vmc, .int vocm, .int voct, .int vocy, .ref vmx, .int votx, .int vose, .ref vml, .ref vmwr, .int voln, .int vohw, .ref vmno, .int vond, .int voon, .int vowi, .int votop])), (vmn, .inl (cy 0, 575, .inl vmnf)), (vmw, .inl (cy 1, 5632, .inr (.inl f_74))), (vmf, .inl (cy 0, 5632, .inl g_51))] H := by rw [ef_74]; exact hP
            have hD : va_D A [(vo, .inr (12, [.int voth, .ref vmt, .int votp, .int vosz, .int volm, .int voto, .int vofr, .int vokd, .int vonu, .int vosg, .int vofa, .int vopl, .long vowd, .int votd, .ref vmn, .ref vmr, .ref vmk, .ref vms, .ref vma, .ref vmm, .ref vmrn, .ref vmkn, .ref vmik, .ref vmon, .int vosm, .int vohp, .ref vmw, .ref vmf, .ref vmb, .int vomb, .ref vmd, .ref vmc, .int vocm, .int voct, .int vocy, .ref vmx, .int votx, .int vose, .ref vml, .ref vmwr, .int voln, .int vohw, .ref vmno, .int vond, .int voon, .int vowi, .int votop])), (vmn, .inl (cy 0, 575, .inl vmnf)), (vmw, .inl (cy 1, 5632, .inr (.inl f_74))), (vmf, .inl (cy 0, 5632, .inl g_51))] := by rw [ef_74]; exact hD
            refine lv_aload_n hx hb dX11_layCell_105 rfl (lv_at hl 3 rfl) ?_
            refine gf_X11_136 hx hb hts hown hK hP 0 rfl rfl dX11_layCell_106 ?_
            refine lv_iload hx hb dX11_layCell_109 (lv_at hl 7 rfl) ?_
            refine lv_aload_n hx hb dX11_layCell_111 rfl (lv_at hl 3 rfl) ?_
            refine gf_X11_136 hx hb hts hown hK hP 0 rfl rfl dX11_layCell_112 ?_
            refine lv_iload hx hb dX11_layCell_115 (lv_at hl 7 rfl) ?_
            have hin_75 : vp_in vcc 5632 := vp_in_iff.mpr ⟨by omega, by omega⟩
            refine va_iald hx hb hK hP 3 0 rfl rfl hin_75 dX11_layCell_117 ?_
            refine lv_topi (fun z_76 ez_76 => ?_)
            have bz_76 := p_g_51.at hin_75 ez_76
            refine lv_aload_n hx hb dX11_layCell_118 rfl (lv_at hl 3 rfl) ?_
            refine gf_X11_136 hx hb hts hown hK hP 0 rfl rfl dX11_layCell_119 ?_
            refine lv_iload hx hb dX11_layCell_122 (lv_at hl 0 rfl) ?_
            have hin_77 : vp_in r_64 5632 := vp_in_iff.mpr ⟨by omega, by omega⟩
            refine va_iald hx hb hK hP 3 0 rfl rfl hin_77 dX11_layCell_124 ?_
            refine lv_topi (fun z_78 ez_78 => ?_)
            have bz_78 := p_g_51.at hin_77 ez_78
            refine lv_iload hx hb dX11_layCell_125 (lv_at hl 1 rfl) ?_
            refine lv_iadd hx hb dX11_layCell_127 ?_
            refine lv_topi (fun z_79 ez_79 => ?_)
            have bz_79 : z_79.toInt = z_78.toInt + x_49.toInt := i_add ez_79 (by omega) (by omega)
            refine jr_i (rSr (As := [.int z_76, .int z_79]) (rest := [.int vcc, .ref vmf]) ⟨hx, hb, hml, hown, hts⟩ (m_least l dC dI cy z_76 z_79 ) (cw_X11_288 hts rfl rfl ⟨Nat.le_of_ble_eq_true rfl, Nat.le_of_ble_eq_true rfl⟩) hP hK [] rfl rfl hl.1 rfl (Nat.le_of_ble_eq_true rfl) dX11_layCell_128 ⟨Nat.le_of_ble_eq_true rfl, Nat.le_of_ble_eq_true rfl⟩) hP hS (fun r_80 H locs hp_81 hP hS => ?_)
            have hp_81 : ((r_80 : Int32).toInt ≤ (z_76 : Int32).toInt) ∧ ((r_80 : Int32).toInt ≤ (z_79 : Int32).toInt) ∧ (((r_80 : Int32).toInt = (z_76 : Int32).toInt ∨ (r_80 : Int32).toInt = (z_79 : Int32).toInt)) := hp_81
            obtain ⟨q_82, q_83, q_84⟩ := hp_81
            have hin_85 : vp_in vcc 5632 := vp_in_iff.mpr ⟨by omega, by omega⟩
            refine va_iast hx hb hK hP hD hS 3 0 rfl rfl hin_85 dX11_layCell_131 (fun H locs hP hD hS => ?_)
            obtain ⟨f_86, ef_86⟩ : ∃ z : Nat → Int32, z = upd g_51 (Int32.toNatClampNeg vcc) r_80 := ⟨_, rfl⟩
            have hP : va_P (dC, dI) vwCl [(vo, .inr (12, [.int voth, .ref vmt, .int votp, .int vosz, .int volm, .int voto, .int vofr, .int vokd, .int vonu, .int vosg, .int vofa, .int vopl, .long vowd, .int votd, .ref vmn, .ref vmr, .ref vmk, .ref vms, .ref vma, .ref vmm, .ref vmrn, .ref vmkn, .ref vmik, .ref vmon, .int vosm, .int vohp, .ref vmw, .ref vmf, .ref vmb, .int vomb, .ref vmd, .ref vmc, .int vocm, .int voct, .int vocy, .ref vmx, .int votx, .int vose, .ref vml, .ref vmwr, .int voln, .int vohw, .ref vmno, .int vond, .int voon, .int vowi, .int votop])), (vmn, .inl (cy 0, 575, .inl vmnf)), (vmw, .inl (cy 1, 5632, .inr (.inl f_74))), (vmf, .inl (cy 0, 5632, .inl f_86))] H := by rw [ef_86]; exact hP
            have hD : va_D A [(vo, .inr (12, [.int voth, .ref vmt, .int votp, .int vosz, .int volm, .int voto, .int vofr, .int vokd, .int vonu, .int vosg, .int vofa, .int vopl, .long vowd, .int votd, .ref vmn, .ref vmr, .ref vmk, .ref vms, .ref vma, .ref vmm, .ref vmrn, .ref vmkn, .ref vmik, .ref vmon, .int vosm, .int vohp, .ref vmw, .ref vmf, .ref vmb, .int vomb, .ref vmd, .ref vmc, .int vocm, .int voct, .int vocy, .ref vmx, .int votx, .int vose, .ref vml, .ref vmwr, .int voln, .int vohw, .ref vmno, .int vond, .int voon, .int vowi, .int votop])), (vmn, .inl (cy 0, 575, .inl vmnf)), (vmw, .inl (cy 1, 5632, .inr (.inl f_74))), (vmf, .inl (cy 0, 5632, .inl f_86))] := by rw [ef_86]; exact hD
            have p_f_86 : Rg f_86 5632 0 100000 := by rw [ef_86]; exact p_g_51.upd ⟨by omega, by omega⟩
            obtain ⟨z_87, ez_87⟩ : ∃ z : Int32, z = x_49 + 1 := ⟨_, rfl⟩
            have bz_87 : z_87.toInt = x_49.toInt + (1 : Int32).toInt := i_add ez_87 (by omega) (by omega)
            refine lv_iinc (v := z_87) (lv' := [(6, .int z_87), (7, .int r_64), (5, .int 9), (0, .ref vo), (1, .int vd), (2, .int vcr), (3, .int vsu), (4, .int vcc)]) hx hb dX11_layCell_132 hl (k := 1) rfl ez_87.symm (by decide) rfl (fun ls hl => ?_)
            refine lv_goto (tgt := 42) hx hb dX11_layCell_135 (by decide) ?_
            exact ih48 z_87 f_74 f_86 ⟨by omega, by omega⟩ p_f_86 (ef_86 ▸ FQ.up v48_0) (Or.inr (ef_86 ▸ LI.step (d := vd) (cr := vcr.toInt) (su := vsu.toInt) v48_1 (by omega) ⟨by omega, by omega⟩ ⟨by omega, by omega⟩ ⟨by omega, by omega⟩ (i1 := z_53) (by omega) ez_55 ⟨by omega, by omega⟩ bz_62.2.2 ⟨by omega, by omega⟩ (nx := r_64) (by omega) ez_76 ez_78 (by omega) (b := z_79) (by omega) (by omega) (by omega) (by omega))) (by omega) _ _ (hP.sub [0, 1, 2, 3] rfl) (hD.sub [0, 1, 2, 3] rfl rfl) hS ls (lv_sub hl [0, 2, 3, 4, 5, 6, 7] rfl)
    have k_0 : (0 : Int32).toInt = 0 := by decide
    exact loop48 ((10 - (0 : Int32).toInt).toNat + 1) 0 f_2 f_4 ⟨by omega, by omega⟩ p_f_4 (ef_4 ▸ FQ.up FQ.rf) (Or.inl ⟨by omega, by rw [ef_4, pk_us]; omega⟩) (by omega) _ _ hP hD hS ls (lv_sub hl [0, 1, 2, 3, 4, 5, 6] rfl)
abbrev cX11_layWays : ByteArray := prog_13_method_86_code
def yX11_layWays : MethodName := ⟨RX11, "layWays", "()V"⟩
theorem t1889 : Cond.code yX11_layWays cX11_layWays 5 none ∈ GW := gw_mem 2003 (by decide +kernel) (by decide +kernel)
abbrev O_m_layWays (cy : Nat → ClassId) (vnh : Nat → Int32) (vo : Nat) (voth : Int32) (vmt : Nat) (votp : Int32) (vosz : Int32) (volm : Int32) (voto : Int32) (vofr : Int32) (vokd : Int32) (vonu : Int32) (vosg : Int32) (vofa : Int32) (vopl : Int32) (vowd : Int64) (votd : Int32) (vmn : Nat) (vmr : Nat) (vmk : Nat) (vms : Nat) (vma : Nat) (vmm : Nat) (vmrn : Nat) (vmkn : Nat) (vmik : Nat) (vmon : Nat) (vosm : Int32) (vohp : Int32) (vmw : Nat) (vmf : Nat) (vmb : Nat) (vomb : Int32) (vmd : Nat) (vmc : Nat) (vocm : Int32) (voct : Int32) (vocy : Int32) (vmx : Nat) (votx : Int32) (vose : Int32) (vml : Nat) (vmwr : Nat) (voln : Int32) (vohw : Int32) (vmno : Nat) (vond : Int32) (voon : Int32) (vowi : Int32) (votop : Int32) (vmnf : Nat → Int32) (vmwf : Nat → Int64) (vmff : Nat → Int32) (u : (Nat → Int64) × (Nat → Int32)) : va_W := [(vo, .inr (12, [.int voth, .ref vmt, .int votp, .int vosz, .int volm, .int voto, .int vofr, .int vokd, .int vonu, .int vosg, .int vofa, .int vopl, .long vowd, .int votd, .ref vmn, .ref vmr, .ref vmk, .ref vms, .ref vma, .ref vmm, .ref vmrn, .ref vmkn, .ref vmik, .ref vmon, .int vosm, .int vohp, .ref vmw, .ref vmf, .ref vmb, .int vomb, .ref vmd, .ref vmc, .int vocm, .int voct, .int vocy, .ref vmx, .int votx, .int vose, .ref vml, .ref vmwr, .int voln, .int vohw, .ref vmno, .int vond, .int voon, .int vowi, .int votop])), (vmn, .inl (cy 0, 575, .inl vmnf)), (vmw, .inl (cy 1, 5632, .inr (.inl u.1))), (vmf, .inl (cy 0, 5632, .inl u.2))]
theorem dX11_layWays_0 : decode cX11_layWays 0 = .ok (.aload_n 0, 1) := by decide +kernel
theorem dX11_layWays_1 : decode cX11_layWays 1 = .ok (.getfield 98, 3) := by decide +kernel
theorem dX11_layWays_4 : decode cX11_layWays 4 = .ok (.iconst 1, 1) := by decide +kernel
theorem dX11_layWays_5 : decode cX11_layWays 5 = .ok (.iaload, 1) := by decide +kernel
theorem dX11_layWays_6 : decode cX11_layWays 6 = .ok (.istore_n 1, 1) := by decide +kernel
theorem dX11_layWays_7 : decode cX11_layWays 7 = .ok (.iload_n 1, 1) := by decide +kernel
theorem dX11_layWays_8 : decode cX11_layWays 8 = .ok (.ifCond .lt 101, 3) := by decide +kernel
theorem dX11_layWays_109 : decode cX11_layWays 109 = .ok (.return_, 1) := by decide +kernel
theorem dX11_layWays_11 : decode cX11_layWays 11 = .ok (.iconst 0, 1) := by decide +kernel
theorem dX11_layWays_12 : decode cX11_layWays 12 = .ok (.istore_n 2, 1) := by decide +kernel
theorem dX11_layWays_13 : decode cX11_layWays 13 = .ok (.iload_n 2, 1) := by decide +kernel
theorem dX11_layWays_14 : decode cX11_layWays 14 = .ok (.iconst 2, 1) := by decide +kernel
theorem dX11_layWays_15 : decode cX11_layWays 15 = .ok (.if_icmp .ge 88, 3) := by decide +kernel
theorem dX11_layWays_103 : decode cX11_layWays 103 = .ok (.iinc 1 (-1), 3) := by decide +kernel
theorem dX11_layWays_106 : decode cX11_layWays 106 = .ok (.goto (-99), 3) := by decide +kernel
theorem dX11_layWays_18 : decode cX11_layWays 18 = .ok (.iconst 0, 1) := by decide +kernel
theorem dX11_layWays_19 : decode cX11_layWays 19 = .ok (.istore_n 3, 1) := by decide +kernel
theorem dX11_layWays_20 : decode cX11_layWays 20 = .ok (.iload_n 3, 1) := by decide +kernel
theorem dX11_layWays_21 : decode cX11_layWays 21 = .ok (.sipush 256, 3) := by decide +kernel
theorem dX11_layWays_24 : decode cX11_layWays 24 = .ok (.if_icmp .ge 73, 3) := by decide +kernel
theorem dX11_layWays_97 : decode cX11_layWays 97 = .ok (.iinc 2 1, 3) := by decide +kernel
theorem dX11_layWays_100 : decode cX11_layWays 100 = .ok (.goto (-87), 3) := by decide +kernel
theorem dX11_layWays_27 : decode cX11_layWays 27 = .ok (.iload_n 1, 1) := by decide +kernel
theorem dX11_layWays_28 : decode cX11_layWays 28 = .ok (.iload_n 2, 1) := by decide +kernel
theorem dX11_layWays_29 : decode cX11_layWays 29 = .ok (.iload_n 3, 1) := by decide +kernel
theorem dX11_layWays_30 : decode cX11_layWays 30 = .ok (.invokestatic 306, 3) := by decide +kernel
theorem dX11_layWays_33 : decode cX11_layWays 33 = .ok (.istore 4, 2) := by decide +kernel
theorem dX11_layWays_35 : decode cX11_layWays 35 = .ok (.iload_n 1, 1) := by decide +kernel
theorem dX11_layWays_36 : decode cX11_layWays 36 = .ok (.aload_n 0, 1) := by decide +kernel
theorem dX11_layWays_37 : decode cX11_layWays 37 = .ok (.getfield 98, 3) := by decide +kernel
theorem dX11_layWays_40 : decode cX11_layWays 40 = .ok (.iconst 1, 1) := by decide +kernel
theorem dX11_layWays_41 : decode cX11_layWays 41 = .ok (.iaload, 1) := by decide +kernel
theorem dX11_layWays_42 : decode cX11_layWays 42 = .ok (.if_icmp .ne 40, 3) := by decide +kernel
theorem dX11_layWays_82 : decode cX11_layWays 82 = .ok (.aload_n 0, 1) := by decide +kernel
theorem dX11_layWays_83 : decode cX11_layWays 83 = .ok (.iload_n 1, 1) := by decide +kernel
theorem dX11_layWays_84 : decode cX11_layWays 84 = .ok (.iload_n 2, 1) := by decide +kernel
theorem dX11_layWays_85 : decode cX11_layWays 85 = .ok (.iload_n 3, 1) := by decide +kernel
theorem dX11_layWays_86 : decode cX11_layWays 86 = .ok (.iload 4, 2) := by decide +kernel
theorem dX11_layWays_88 : decode cX11_layWays 88 = .ok (.invokevirtual 311, 3) := by decide +kernel
theorem t1894 : Cond.methodLink RX11 311 yX11_layCell ∈ GW := gw_mem 2008 (by decide +kernel) (by decide +kernel)
theorem t1896 : Cond.instanceMethod yX11_layCell ∈ GW := gw_mem 2010 (by decide +kernel) (by decide +kernel)
theorem s86 : Cond.selects RX11 yX11_layCell yX11_layCell ∈ GW := gw_mem 86 (by decide +kernel) (by decide +kernel)
theorem cw_X11_311 {R : Room} {s : State} {args : Array Value} {rm : Room} {mc ms : Nat} (hts : ∀ w ∈ GW, w.before args s = true) (hrc : rm.cells = mc) (hrs : rm.slots = ms) (hR : rm.frames + 1 ≤ R.frames ∧ 8 + (8 + 11) + rm.locals ≤ R.locals) : CallW R s args RX11 RX11 311 yX11_layCell cX11_layCell 8 none (wl yX11_layCell cX11_layCell 8 none) rm mc ms 4 := cwV 4 hts (gi_V t1894 t1896 s86 t18 t1897) rfl hrc hrs (by decide +kernel) hR
theorem dX11_layWays_91 : decode cX11_layWays 91 = .ok (.iinc 3 1, 3) := by decide +kernel
theorem dX11_layWays_94 : decode cX11_layWays 94 = .ok (.goto (-74), 3) := by decide +kernel
theorem dX11_layWays_45 : decode cX11_layWays 45 = .ok (.aload_n 0, 1) := by decide +kernel
theorem dX11_layWays_46 : decode cX11_layWays 46 = .ok (.getfield 133, 3) := by decide +kernel
theorem dX11_layWays_49 : decode cX11_layWays 49 = .ok (.iload 4, 2) := by decide +kernel
theorem dX11_layWays_51 : decode cX11_layWays 51 = .ok (.iload_n 3, 1) := by decide +kernel
theorem dX11_layWays_52 : decode cX11_layWays 52 = .ok (.ifCond .ne 7, 3) := by decide +kernel
theorem dX11_layWays_59 : decode cX11_layWays 59 = .ok (.lconst 0, 1) := by decide +kernel
theorem dX11_layWays_60 : decode cX11_layWays 60 = .ok (.lastore, 1) := by decide +kernel
theorem dX11_layWays_61 : decode cX11_layWays 61 = .ok (.aload_n 0, 1) := by decide +kernel
theorem dX11_layWays_62 : decode cX11_layWays 62 = .ok (.getfield 136, 3) := by decide +kernel
theorem dX11_layWays_65 : decode cX11_layWays 65 = .ok (.iload 4, 2) := by decide +kernel
theorem dX11_layWays_67 : decode cX11_layWays 67 = .ok (.iload_n 3, 1) := by decide +kernel
theorem dX11_layWays_68 : decode cX11_layWays 68 = .ok (.ifCond .ne 7, 3) := by decide +kernel
theorem dX11_layWays_75 : decode cX11_layWays 75 = .ok (.ldc_w 310, 3) := by decide +kernel
theorem dX11_layWays_78 : decode cX11_layWays 78 = .ok (.iastore, 1) := by decide +kernel
theorem dX11_layWays_79 : decode cX11_layWays 79 = .ok (.goto 12, 3) := by decide +kernel
theorem dX11_layWays_55 : decode cX11_layWays 55 = .ok (.lconst 1, 1) := by decide +kernel
theorem dX11_layWays_56 : decode cX11_layWays 56 = .ok (.goto 4, 3) := by decide +kernel
theorem dX11_layWays_71 : decode cX11_layWays 71 = .ok (.iconst 0, 1) := by decide +kernel
theorem dX11_layWays_72 : decode cX11_layWays 72 = .ok (.goto 6, 3) := by decide +kernel
set_option maxHeartbeats 4000000 in
set_option maxRecDepth 100000 in
theorem m_layWays (l : Launch) (dC : Nat → ClassId) (dI : Nat → Nat → Nat) (cy : Nat → ClassId) (sz : Nat) (vnh : Nat → Int32) (vo : Nat) (voth : Int32) (vmt : Nat) (votp : Int32) (vosz : Int32) (volm : Int32) (voto : Int32) (vofr : Int32) (vokd : Int32) (vonu : Int32) (vosg : Int32) (vofa : Int32) (vopl : Int32) (vowd : Int64) (votd : Int32) (vmn : Nat) (vmr : Nat) (vmk : Nat) (vms : Nat) (vma : Nat) (vmm : Nat) (vmrn : Nat) (vmkn : Nat) (vmik : Nat) (vmon : Nat) (vosm : Int32) (vohp : Int32) (vmw : Nat) (vmf : Nat) (vmb : Nat) (vomb : Int32) (vmd : Nat) (vmc : Nat) (vocm : Int32) (voct : Int32) (vocy : Int32) (vmx : Nat) (votx : Int32) (vose : Int32) (vml : Nat) (vmwr : Nat) (voln : Int32) (vohw : Int32) (vmno : Nat) (vond : Int32) (voon : Int32) (vowi : Int32) (votop : Int32) (vmnf : Nat → Int32) (vmwf : Nat → Int64) (vmff : Nat → Int32) (p_vmnf : NW vnh vmnf) (p_vmff : Rg vmff 5632 0 100000) : Met l yX11_layWays (wl yX11_layWays cX11_layWays 5 none) ({ frames := 2, cells := 0, slots := 0, locals := 128 }) (Pw (dC, dI) vwCl cy [(vo, .inr (12, [.int voth, .ref vmt, .int votp, .int vosz, .int volm, .int voto, .int vofr, .int vokd, .int vonu, .int vosg, .int vofa, .int vopl, .long vowd, .int votd, .ref vmn, .ref vmr, .ref vmk, .ref vms, .ref vma, .ref vmm, .ref vmrn, .ref vmkn, .ref vmik, .ref vmon, .int vosm, .int vohp, .ref vmw, .ref vmf, .ref vmb, .int vomb, .ref vmd, .ref vmc, .int vocm, .int voct, .int vocy, .ref vmx, .int votx, .int vose, .ref vml, .ref vmwr, .int voln, .int vohw, .ref vmno, .int vond, .int voon, .int vowi, .int votop])), (vmn, .inl (cy 0, 575, .inl vmnf)), (vmw, .inl (cy 1, 5632, .inr (.inl vmwf))), (vmf, .inl (cy 0, 5632, .inl vmff))] sz [.ref vo] nE) (Qv (dC, dI) vwCl (fun (u : (Nat → Int64) × (Nat → Int32)) => (Rg u.2 5632 0 100000) ∧ (LWA u.2 vmnf)) (O_m_layWays cy vnh vo voth vmt votp vosz volm voto vofr vokd vonu vosg vofa vopl vowd votd vmn vmr vmk vms vma vmm vmrn vmkn vmik vmon vosm vohp vmw vmf vmb vomb vmd vmc vocm voct vocy vmx votx vose vml vmwr voln vohw vmno vond voon vowi votop vmnf vmwf vmff) (va_A [(vo, .inr (12, [.int voth, .ref vmt, .int votp, .int vosz, .int volm, .int voto, .int vofr, .int vokd, .int vonu, .int vosg, .int vofa, .int vopl, .long vowd, .int votd, .ref vmn, .ref vmr, .ref vmk, .ref vms, .ref vma, .ref vmm, .ref vmrn, .ref vmkn, .ref vmik, .ref vmon, .int vosm, .int vohp, .ref vmw, .ref vmf, .ref vmb, .int vomb, .ref vmd, .ref vmc, .int vocm, .int voct, .int vocy, .ref vmx, .int votx, .int vose, .ref vml, .ref vmwr, .int voln, .int vohw, .ref vmno, .int vond, .int voon, .int vowi, .int votop])), (vmn, .inl (cy 0, 575, .inl vmnf)), (vmw, .inl (cy 1, 5632, .inr (.inl vmwf))), (vmf, .inl (cy 0, 5632, .inl vmff))] sz)) 0 0 (va_A [(vo, .inr (12, [.int voth, .ref vmt, .int votp, .int vosz, .int volm, .int voto, .int vofr, .int vokd, .int vonu, .int vosg, .int vofa, .int vopl, .long vowd, .int votd, .ref vmn, .ref vmr, .ref vmk, .ref vms, .ref vma, .ref vmm, .ref vmrn, .ref vmkn, .ref vmik, .ref vmon, .int vosm, .int vohp, .ref vmw, .ref vmf, .ref vmb, .int vomb, .ref vmd, .ref vmc, .int vocm, .int voct, .int vocy, .ref vmx, .int votx, .int vose, .ref vml, .ref vmwr, .int voln, .int vohw, .ref vmno, .int vond, .int voon, .int vowi, .int votop])), (vmn, .inl (cy 0, 575, .inl vmnf)), (vmw, .inl (cy 1, 5632, .inr (.inl vmwf))), (vmf, .inl (cy 0, 5632, .inl vmff))] sz) := by
  refine mw (Qc := Qv (dC, dI) vwCl (fun (u : (Nat → Int64) × (Nat → Int32)) => (Rg u.2 5632 0 100000) ∧ (LWA u.2 vmnf)) (O_m_layWays cy vnh vo voth vmt votp vosz volm voto vofr vokd vonu vosg vofa vopl vowd votd vmn vmr vmk vms vma vmm vmrn vmkn vmik vmon vosm vohp vmw vmf vmb vomb vmd vmc vocm voct vocy vmx votx vose vml vmwr voln vohw vmno vond voon vowi votop vmnf vmwf vmff)) RX11 rfl (by decide +kernel) (Nat.le_of_ble_eq_true rfl) ?_
  intro p e s m below meth c A hx hb hr hlocks av9 hav hts hown hnm hml hK hP hD hA hS hE hAe Q9 hQ9 ls hl
  have hl : lv_has ls 5 [(0, .ref vo)] := hl
  refine lv_aload_n hx hb dX11_layWays_0 rfl (lv_at hl 0 rfl) ?_
  refine gf_X11_98 hx hb hts hown hK hP 0 rfl rfl dX11_layWays_1 ?_
  refine lv_iconst (v := 1) hx hb dX11_layWays_4 (by decide) ?_
  have k_1 : (1 : Int32).toInt = 1 := by decide
  have hin_1 : vp_in (1 : Int32) 575 := vp_in_iff.mpr ⟨by omega, by omega⟩
  refine va_iald hx hb hK hP 1 0 rfl rfl hin_1 dX11_layWays_5 ?_
  refine lv_topi (fun z_2 ez_2 => ?_)
  have bz_2 := p_vmnf.a1 (x := 1) ⟨by omega, by omega⟩ ez_2
  have tz_2 : z_2.toInt = (vmnf 1).toInt := by rw [ez_2]; rfl
  refine lv_istore_n (lv' := [(1, .int z_2), (0, .ref vo)]) hx hb dX11_layWays_6 rfl hl (by decide) rfl (fun ls hl => ?_)
  have loop3 : ∀ (n3 : Nat) (x_4 : Int32) (g_5 : Nat → Int64) (g_6 : Nat → Int32), (-1 ≤ x_4.toInt ∧ x_4.toInt ≤ 10) → Rg g_6 5632 0 100000 → (x_4.toInt ≤ (vmnf 1).toInt) → (LW g_6 vmnf (vmnf 1).toInt x_4.toInt (512 * x_4.toInt)) → x_4.toInt + 1 < (n3 : Int) → ∀ (H : Heap) (locs : List Loc), va_P (dC, dI) vwCl [(vo, .inr (12, [.int voth, .ref vmt, .int votp, .int vosz, .int volm, .int voto, .int vofr, .int vokd, .int vonu, .int vosg, .int vofa, .int vopl, .long vowd, .int votd, .ref vmn, .ref vmr, .ref vmk, .ref vms, .ref vma, .ref vmm, .ref vmrn, .ref vmkn, .ref vmik, .ref vmon, .int vosm, .int vohp, .ref vmw, .ref vmf, .ref vmb, .int vomb, .ref vmd, .ref vmc, .int vocm, .int voct, .int vocy, .ref vmx, .int votx, .int vose, .ref vml, .ref vmwr, .int voln, .int vohw, .ref vmno, .int vond, .int voon, .int vowi, .int votop])), (vmn, .inl (cy 0, 575, .inl vmnf)), (vmw, .inl (cy 1, 5632, .inr (.inl g_5))), (vmf, .inl (cy 0, 5632, .inl g_6))] H → va_D A [(vo, .inr (12, [.int voth, .ref vmt, .int votp, .int vosz, .int volm, .int voto, .int vofr, .int vokd, .int vonu, .int vosg, .int vofa, .int vopl, .long vowd, .int votd, .ref vmn, .ref vmr, .ref vmk, .ref vms, .ref vma, .ref vmm, .ref vmrn, .ref vmkn, .ref vmik, .ref vmon, .int vosm, .int vohp, .ref vmw, .ref vmf, .ref vmb, .int vomb, .ref vmd, .ref vmc, .int vocm, .int voct, .int vocy, .ref vmx, .int votx, .int vose, .ref vml, .ref vmwr, .int voln, .int vohw, .ref vmno, .int vond, .int voon, .int vowi, .int votop])), (vmn, .inl (cy 0, 575, .inl vmnf)), (vmw, .inl (cy 1, 5632, .inr (.inl g_5))), (vmf, .inl (cy 0, 5632, .inl g_6))] → va_S A s.heap H locs → ∀ ls : Array Slot, lv_has ls 5 [(1, .int x_4), (0, .ref vo)] → W p l e ({ frames := 2, cells := 0, slots := 0, locals := 128 }) s m av9 below meth c H locs 0 0 Q9 (F0 m 7 ls []) := by
    intro n3
    induction n3 with
    | zero =>
      intro x_4 g_5 g_6 bx_4 p_g_6 v3_0 v3_1 hn3 H locs hP hD hS ls hl
      exfalso; omega
    | succ n3 ih3 =>
      intro x_4 g_5 g_6 bx_4 p_g_6 v3_0 v3_1 hn3 H locs hP hD hS ls hl
      refine lv_iload_n hx hb dX11_layWays_7 rfl (lv_at hl 0 rfl) ?_
      have k_0 : (0 : Int32).toInt = 0 := by decide
      refine lv_if_lt (tgt := 109) hx hb dX11_layWays_8 (by decide) (fun c_7 => ?_) (fun c_7 => ?_)
      · skip
        have c_7 : x_4.toInt < (0 : Int32).toInt := i_lt.mp c_7
        rw [hQ9]
        exact re_v (g_5, g_6) hx hb hr hlocks ⟨(show Rg g_6 5632 0 100000 from p_g_6), (show LWA g_6 vmnf from (LW.all v3_1 (by omega) rfl))⟩ (hP.sub [0, 1, 2, 3] rfl) (hD.sub [0, 1, 2, 3] rfl rfl) hS dX11_layWays_109
      · skip
        have c_7 : ¬ (x_4.toInt < (0 : Int32).toInt) := fun h9 => c_7 (i_lt.mpr h9)
        refine lv_iconst (v := 0) hx hb dX11_layWays_11 (by decide) ?_
        refine lv_istore_n (lv' := [(2, .int 0), (1, .int x_4), (0, .ref vo)]) hx hb dX11_layWays_12 rfl hl (by decide) rfl (fun ls hl => ?_)
        have loop8 : ∀ (n8 : Nat) (x_9 : Int32) (g_10 : Nat → Int64) (g_11 : Nat → Int32), (0 ≤ x_9.toInt ∧ x_9.toInt ≤ 2) → Rg g_11 5632 0 100000 → (0 ≤ 0) → (LW g_11 vmnf (vmnf 1).toInt x_4.toInt (512 * x_4.toInt + 256 * x_9.toInt)) → 2 - x_9.toInt < (n8 : Int) → ∀ (H : Heap) (locs : List Loc), va_P (dC, dI) vwCl [(vo, .inr (12, [.int voth, .ref vmt, .int votp, .int vosz, .int volm, .int voto, .int vofr, .int vokd, .int vonu, .int vosg, .int vofa, .int vopl, .long vowd, .int votd, .ref vmn, .ref vmr, .ref vmk, .ref vms, .ref vma, .ref vmm, .ref vmrn, .ref vmkn, .ref vmik, .ref vmon, .int vosm, .int vohp, .ref vmw, .ref vmf, .ref vmb, .int vomb, .ref vmd, .ref vmc, .int vocm, .int voct, .int vocy, .ref vmx, .int votx, .int vose, .ref vml, .ref vmwr, .int voln, .int vohw, .ref vmno, .int vond, .int voon, .int vowi, .int votop])), (vmn, .inl (cy 0, 575, .inl vmnf)), (vmw, .inl (cy 1, 5632, .inr (.inl g_10))), (vmf, .inl (cy 0, 5632, .inl g_11))] H → va_D A [(vo, .inr (12, [.int voth, .ref vmt, .int votp, .int vosz, .int volm, .int voto, .int vofr, .int vokd, .int vonu, .int vosg, .int vofa, .int vopl, .long vowd, .int votd, .ref vmn, .ref vmr, .ref vmk, .ref vms, .ref vma, .ref vmm, .ref vmrn, .ref vmkn, .ref vmik, .ref vmon, .int vosm, .int vohp, .ref vmw, .ref vmf, .ref vmb, .int vomb, .ref vmd, .ref vmc, .int vocm, .int voct, .int vocy, .ref vmx, .int votx, .int vose, .ref vml, .ref vmwr, .int voln, .int vohw, .ref vmno, .int vond, .int voon, .int vowi, .int votop])), (vmn, .inl (cy 0, 575, .inl vmnf)), (vmw, .inl (cy 1, 5632, .inr (.inl g_10))), (vmf, .inl (cy 0, 5632, .inl g_11))] → va_S A s.heap H locs → ∀ ls : Array Slot, lv_has ls 5 [(2, .int x_9), (1, .int x_4), (0, .ref vo)] → W p l e ({ frames := 2, cells := 0, slots := 0, locals := 128 }) s m av9 below meth c H locs 0 0 Q9 (F0 m 13 ls []) := by
          intro n8
          induction n8 with
          | zero =>
            intro x_9 g_10 g_11 bx_9 p_g_11 v8_0 v8_1 hn8 H locs hP hD hS ls hl
            exfalso; omega
          | succ n8 ih8 =>
            intro x_9 g_10 g_11 bx_9 p_g_11 v8_0 v8_1 hn8 H locs hP hD hS ls hl
            refine lv_iload_n hx hb dX11_layWays_13 rfl (lv_at hl 0 rfl) ?_
            refine lv_iconst (v := 2) hx hb dX11_layWays_14 (by decide) ?_
            have k_2 : (2 : Int32).toInt = 2 := by decide
            refine lv_icmp_ge (tgt := 103) hx hb dX11_layWays_15 (by decide) (fun c_12 => ?_) (fun c_12 => ?_)
            · skip
              have c_12 : (2 : Int32).toInt ≤ x_9.toInt := i_le.mp c_12
              obtain ⟨z_13, ez_13⟩ : ∃ z : Int32, z = x_4 + (-1) := ⟨_, rfl⟩
              have k_m1 : ((-1) : Int32).toInt = (-1) := by decide
              have bz_13 : z_13.toInt = x_4.toInt + ((-1) : Int32).toInt := i_add ez_13 (by omega) (by omega)
              refine lv_iinc (v := z_13) (lv' := [(1, .int z_13), (2, .int x_9), (0, .ref vo)]) hx hb dX11_layWays_103 hl (k := 1) rfl ez_13.symm (by decide) rfl (fun ls hl => ?_)
              refine lv_goto (tgt := 7) hx hb dX11_layWays_106 (by decide) ?_
              exact ih3 z_13 g_10 g_11 ⟨by omega, by omega⟩ p_g_11 (by omega) (LW.down v8_1 (by omega) (by omega) (by omega)) (by omega) _ _ (hP.sub [0, 1, 2, 3] rfl) (hD.sub [0, 1, 2, 3] rfl rfl) hS ls (lv_sub hl [0, 2] rfl)
            · skip
              have c_12 : ¬ ((2 : Int32).toInt ≤ x_9.toInt) := fun h9 => c_12 (i_le.mpr h9)
              refine lv_iconst (v := 0) hx hb dX11_layWays_18 (by decide) ?_
              refine lv_istore_n (lv' := [(3, .int 0), (2, .int x_9), (1, .int x_4), (0, .ref vo)]) hx hb dX11_layWays_19 rfl hl (by decide) rfl (fun ls hl => ?_)
              have loop14 : ∀ (n14 : Nat) (x_15 : Int32) (g_16 : Nat → Int64) (g_17 : Nat → Int32), (0 ≤ x_15.toInt ∧ x_15.toInt ≤ 256) → Rg g_17 5632 0 100000 → (0 ≤ 0) → (LW g_17 vmnf (vmnf 1).toInt x_4.toInt (512 * x_4.toInt + 256 * x_9.toInt + x_15.toInt)) → 256 - x_15.toInt < (n14 : Int) → ∀ (H : Heap) (locs : List Loc), va_P (dC, dI) vwCl [(vo, .inr (12, [.int voth, .ref vmt, .int votp, .int vosz, .int volm, .int voto, .int vofr, .int vokd, .int vonu, .int vosg, .int vofa, .int vopl, .long vowd, .int votd, .ref vmn, .ref vmr, .ref vmk, .ref vms, .ref vma, .ref vmm, .ref vmrn, .ref vmkn, .ref vmik, .ref vmon, .int vosm, .int vohp, .ref vmw, .ref vmf, .ref vmb, .int vomb, .ref vmd, .ref vmc, .int vocm, .int voct, .int vocy, .ref vmx, .int votx, .int vose, .ref vml, .ref vmwr, .int voln, .int vohw, .ref vmno, .int vond, .int voon, .int vowi, .int votop])), (vmn, .inl (cy 0, 575, .inl vmnf)), (vmw, .inl (cy 1, 5632, .inr (.inl g_16))), (vmf, .inl (cy 0, 5632, .inl g_17))] H → va_D A [(vo, .inr (12, [.int voth, .ref vmt, .int votp, .int vosz, .int volm, .int voto, .int vofr, .int vokd, .int vonu, .int vosg, .int vofa, .int vopl, .long vowd, .int votd, .ref vmn, .ref vmr, .ref vmk, .ref vms, .ref vma, .ref vmm, .ref vmrn, .ref vmkn, .ref vmik, .ref vmon, .int vosm, .int vohp, .ref vmw, .ref vmf, .ref vmb, .int vomb, .ref vmd, .ref vmc, .int vocm, .int voct, .int vocy, .ref vmx, .int votx, .int vose, .ref vml, .ref vmwr, .int voln, .int vohw, .ref vmno, .int vond, .int voon, .int vowi, .int votop])), (vmn, .inl (cy 0, 575, .inl vmnf)), (vmw, .inl (cy 1, 5632, .inr (.inl g_16))), (vmf, .inl (cy 0, 5632, .inl g_17))] → va_S A s.heap H locs → ∀ ls : Array Slot, lv_has ls 5 [(3, .int x_15), (2, .int x_9), (1, .int x_4), (0, .ref vo)] → W p l e ({ frames := 2, cells := 0, slots := 0, locals := 128 }) s m av9 below meth c H locs 0 0 Q9 (F0 m 20 ls []) := by
                intro n14
                induction n14 with
                | zero =>
                  intro x_15 g_16 g_17 bx_15 p_g_17 v14_0 v14_1 hn14 H locs hP hD hS ls hl
                  exfalso; omega
                | succ n14 ih14 =>
                  intro x_15 g_16 g_17 bx_15 p_g_17 v14_0 v14_1 hn14 H locs hP hD hS ls hl
                  refine lv_iload_n hx hb dX11_layWays_20 rfl (lv_at hl 0 rfl) ?_
                  refine lv_sipush (v := 256) hx hb dX11_layWays_21 (by decide) ?_
                  have k_256 : (256 : Int32).toInt = 256 := by decide
                  refine lv_icmp_ge (tgt := 97) hx hb dX11_layWays_24 (by decide) (fun c_18 => ?_) (fun c_18 => ?_)
                  · skip
                    have c_18 : (256 : Int32).toInt ≤ x_15.toInt := i_le.mp c_18
                    obtain ⟨z_19, ez_19⟩ : ∃ z : Int32, z = x_9 + 1 := ⟨_, rfl⟩
                    have bz_19 : z_19.toInt = x_9.toInt + (1 : Int32).toInt := i_add ez_19 (by omega) (by omega)
                    refine lv_iinc (v := z_19) (lv' := [(2, .int z_19), (3, .int x_15), (1, .int x_4), (0, .ref vo)]) hx hb dX11_layWays_97 hl (k := 1) rfl ez_19.symm (by decide) rfl (fun ls hl => ?_)
                    refine lv_goto (tgt := 13) hx hb dX11_layWays_100 (by decide) ?_
                    exact ih8 z_19 g_16 g_17 ⟨by omega, by omega⟩ p_g_17 v14_0 (LW.mono v14_1 (by omega)) (by omega) _ _ (hP.sub [0, 1, 2, 3] rfl) (hD.sub [0, 1, 2, 3] rfl rfl) hS ls (lv_sub hl [0, 2, 3] rfl)
                  · skip
                    have c_18 : ¬ ((256 : Int32).toInt ≤ x_15.toInt) := fun h9 => c_18 (i_le.mpr h9)
                    refine lv_iload_n hx hb dX11_layWays_27 rfl (lv_at hl 2 rfl) ?_
                    refine lv_iload_n hx hb dX11_layWays_28 rfl (lv_at hl 1 rfl) ?_
                    refine lv_iload_n hx hb dX11_layWays_29 rfl (lv_at hl 0 rfl) ?_
                    refine jr_i (rSr (As := [.int x_4, .int x_9, .int x_15]) (rest := []) ⟨hx, hb, hml, hown, hts⟩ (m_cellOf l dC dI cy x_4 x_9 x_15 ⟨by omega, by omega⟩ ⟨by omega, by omega⟩ ⟨by omega, by omega⟩) (cw_X11_306 hts rfl rfl ⟨Nat.le_of_ble_eq_true rfl, Nat.le_of_ble_eq_true rfl⟩) hP hK [] rfl rfl hl.1 rfl (Nat.le_of_ble_eq_true rfl) dX11_layWays_30 ⟨Nat.le_of_ble_eq_true rfl, Nat.le_of_ble_eq_true rfl⟩) hP hS (fun r_20 H locs hp_21 hP hS => ?_)
                    have hp_21 : (0 ≤ (r_20 : Int32).toInt ∧ (r_20 : Int32).toInt ≤ 5631) ∧ ((r_20 : Int32).toInt = 512 * (x_4 : Int32).toInt + 256 * (x_9 : Int32).toInt + (x_15 : Int32).toInt) := hp_21
                    obtain ⟨q_22, q_23⟩ := hp_21
                    refine lv_istore (lv' := [(4, .int r_20), (3, .int x_15), (2, .int x_9), (1, .int x_4), (0, .ref vo)]) hx hb dX11_layWays_33 hl (by decide) rfl (fun ls hl => ?_)
                    refine lv_iload_n hx hb dX11_layWays_35 rfl (lv_at hl 3 rfl) ?_
                    refine lv_aload_n hx hb dX11_layWays_36 rfl (lv_at hl 4 rfl) ?_
                    refine gf_X11_98 hx hb hts hown hK hP 0 rfl rfl dX11_layWays_37 ?_
                    refine lv_iconst (v := 1) hx hb dX11_layWays_40 (by decide) ?_
                    have hin_24 : vp_in (1 : Int32) 575 := vp_in_iff.mpr ⟨by omega, by omega⟩
                    refine va_iald hx hb hK hP 1 0 rfl rfl hin_24 dX11_layWays_41 ?_
                    refine lv_topi (fun z_25 ez_25 => ?_)
                    have bz_25 := p_vmnf.a1 (x := 1) ⟨by omega, by omega⟩ ez_25
                    have tz_25 : z_25.toInt = (vmnf 1).toInt := by rw [ez_25]; rfl
                    refine lv_icmp_ne (tgt := 82) hx hb dX11_layWays_42 (by decide) (fun c_26 => ?_) (fun c_26 => ?_)
                    · skip
                      have c_26 : ¬ (x_4.toInt = z_25.toInt) := fun h9 => c_26 (i_eq.mpr h9)
                      refine lv_aload_n hx hb dX11_layWays_82 rfl (lv_at hl 4 rfl) ?_
                      refine lv_iload_n hx hb dX11_layWays_83 rfl (lv_at hl 3 rfl) ?_
                      refine lv_iload_n hx hb dX11_layWays_84 rfl (lv_at hl 2 rfl) ?_
                      refine lv_iload_n hx hb dX11_layWays_85 rfl (lv_at hl 1 rfl) ?_
                      refine lv_iload hx hb dX11_layWays_86 (lv_at hl 0 rfl) ?_
                      refine jn_v (wr := []) (rV (As := [.int x_4, .int x_9, .int x_15, .int r_20]) (rest := []) (ci := 12) ⟨hx, hb, hml, hown, hts⟩ (m_layCell l dC dI cy _ vnh vo voth vmt votp vosz volm voto vofr vokd vonu vosg vofa vopl vowd votd vmn vmr vmk vms vma vmm vmrn vmkn vmik vmon vosm vohp vmw vmf vmb vomb vmd vmc vocm voct vocy vmx votx vose vml vmwr voln vohw vmno vond voon vowi votop vmnf g_16 g_17 x_4 x_9 x_15 r_20 ⟨by omega, by omega⟩ ⟨by omega, by omega⟩ ⟨by omega, by omega⟩ ⟨by omega, by omega⟩ p_vmnf p_g_17 q_23) (cw_X11_311 hts rfl rfl ⟨Nat.le_of_ble_eq_true rfl, Nat.le_of_ble_eq_true rfl⟩) hP hD hK [0, 1, 2, 3] rfl rfl rfl rfl bl0 e0 rfl hl.1 rfl (Nat.le_of_ble_eq_true rfl) dX11_layWays_88 ⟨Nat.le_of_ble_eq_true rfl, Nat.le_of_ble_eq_true rfl⟩) hP hD hS hA [0, 1, 2, 3] [] rfl rfl rfl (by decide) (fun u_29 H locs hp_28 hP hD hS => ?_)
                      obtain ⟨vmwf_30, vmff_31⟩ := u_29
                      have hp_28 : (Rg vmff_31 5632 0 100000) ∧ (FQ g_17 vmff_31 (Int32.toNatClampNeg r_20)) ∧ (AE vmff_31 vmnf (Int32.toNatClampNeg r_20)) := hp_28
                      obtain ⟨q_32, q_33, q_34⟩ := hp_28
                      have hP : va_P (dC, dI) vwCl [(vo, .inr (12, [.int voth, .ref vmt, .int votp, .int vosz, .int volm, .int voto, .int vofr, .int vokd, .int vonu, .int vosg, .int vofa, .int vopl, .long vowd, .int votd, .ref vmn, .ref vmr, .ref vmk, .ref vms, .ref vma, .ref vmm, .ref vmrn, .ref vmkn, .ref vmik, .ref vmon, .int vosm, .int vohp, .ref vmw, .ref vmf, .ref vmb, .int vomb, .ref vmd, .ref vmc, .int vocm, .int voct, .int vocy, .ref vmx, .int votx, .int vose, .ref vml, .ref vmwr, .int voln, .int vohw, .ref vmno, .int vond, .int voon, .int vowi, .int votop])), (vmn, .inl (cy 0, 575, .inl vmnf)), (vmw, .inl (cy 1, 5632, .inr (.inl vmwf_30))), (vmf, .inl (cy 0, 5632, .inl vmff_31))] H := hP
                      have hD : va_D A [(vo, .inr (12, [.int voth, .ref vmt, .int votp, .int vosz, .int volm, .int voto, .int vofr, .int vokd, .int vonu, .int vosg, .int vofa, .int vopl, .long vowd, .int votd, .ref vmn, .ref vmr, .ref vmk, .ref vms, .ref vma, .ref vmm, .ref vmrn, .ref vmkn, .ref vmik, .ref vmon, .int vosm, .int vohp, .ref vmw, .ref vmf, .ref vmb, .int vomb, .ref vmd, .ref vmc, .int vocm, .int voct, .int vocy, .ref vmx, .int votx, .int vose, .ref vml, .ref vmwr, .int voln, .int vohw, .ref vmno, .int vond, .int voon, .int vowi, .int votop])), (vmn, .inl (cy 0, 575, .inl vmnf)), (vmw, .inl (cy 1, 5632, .inr (.inl vmwf_30))), (vmf, .inl (cy 0, 5632, .inl vmff_31))] := hD
                      obtain ⟨z_35, ez_35⟩ : ∃ z : Int32, z = x_15 + 1 := ⟨_, rfl⟩
                      have bz_35 : z_35.toInt = x_15.toInt + (1 : Int32).toInt := i_add ez_35 (by omega) (by omega)
                      refine lv_iinc (v := z_35) (lv' := [(3, .int z_35), (4, .int r_20), (2, .int x_9), (1, .int x_4), (0, .ref vo)]) hx hb dX11_layWays_91 hl (k := 1) rfl ez_35.symm (by decide) rfl (fun ls hl => ?_)
                      refine lv_goto (tgt := 20) hx hb dX11_layWays_94 (by decide) ?_
                      exact ih14 z_35 vmwf_30 vmff_31 ⟨by omega, by omega⟩ q_32 v14_0 (LW.next v14_1 (k := r_20) (by omega) ⟨by omega, by omega⟩ (by omega) q_33 q_34 (by omega)) (by omega) _ _ (hP.sub [0, 1, 2, 3] rfl) (hD.sub [0, 1, 2, 3] rfl rfl) hS ls (lv_sub hl [0, 2, 3, 4] rfl)
                    · skip
                      have c_26 : x_4.toInt = z_25.toInt := i_eq.mp c_26
                      refine lv_aload_n hx hb dX11_layWays_45 rfl (lv_at hl 4 rfl) ?_
                      refine gf_X11_133 hx hb hts hown hK hP 0 rfl rfl dX11_layWays_46 ?_
                      refine lv_iload hx hb dX11_layWays_49 (lv_at hl 0 rfl) ?_
                      refine lv_iload_n hx hb dX11_layWays_51 rfl (lv_at hl 1 rfl) ?_
                      refine lv_if_ne (tgt := 59) hx hb dX11_layWays_52 (by decide) (fun c_36 => ?_) (fun c_36 => ?_)
                      · skip
                        have c_36 : ¬ (x_15.toInt = (0 : Int32).toInt) := fun h9 => c_36 (i_eq.mpr h9)
                        refine lv_lconst (v := 0) hx hb dX11_layWays_59 (by decide) ?_
                        have hin_37 : vp_in r_20 5632 := vp_in_iff.mpr ⟨by omega, by omega⟩
                        refine va_last hx hb hK hP hD hS 2 1 rfl rfl hin_37 dX11_layWays_60 (fun H locs hP hD hS => ?_)
                        obtain ⟨f_38, ef_38⟩ : ∃ z : Nat → Int64, z = vp_updL g_16 (Int32.toNatClampNeg r_20) 0 := ⟨_, rfl⟩
                        have hP : va_P (dC, dI) vwCl [(vo, .inr (12, [.int voth, .ref vmt, .int votp, .int vosz, .int volm, .int voto, .int vofr, .int vokd, .int vonu, .int vosg, .int vofa, .int vopl, .long vowd, .int votd, .ref vmn, .ref vmr, .ref vmk, .ref vms, .ref vma, .ref vmm, .ref vmrn, .ref vmkn, .ref vmik, .ref vmon, .int vosm, .int vohp, .ref vmw, .ref vmf, .ref vmb, .int vomb, .ref vmd, .ref vmc, .int vocm, .int voct, .int vocy, .ref vmx, .int votx, .int vose, .ref vml, .ref vmwr, .int voln, .int vohw, .ref vmno, .int vond, .int voon, .int vowi, .int votop])), (vmn, .inl (cy 0, 575, .inl vmnf)), (vmw, .inl (cy 1, 5632, .inr (.inl f_38))), (vmf, .inl (cy 0, 5632, .inl g_17))] H := by rw [ef_38]; exact hP
                        have hD : va_D A [(vo, .inr (12, [.int voth, .ref vmt, .int votp, .int vosz, .int volm, .int voto, .int vofr, .int vokd, .int vonu, .int vosg, .int vofa, .int vopl, .long vowd, .int votd, .ref vmn, .ref vmr, .ref vmk, .ref vms, .ref vma, .ref vmm, .ref vmrn, .ref vmkn, .ref vmik, .ref vmon, .int vosm, .int vohp, .ref vmw, .ref vmf, .ref vmb, .int vomb, .ref vmd, .ref vmc, .int vocm, .int voct, .int vocy, .ref vmx, .int votx, .int vose, .ref vml, .ref vmwr, .int voln, .int vohw, .ref vmno, .int vond, .int voon, .int vowi, .int votop])), (vmn, .inl (cy 0, 575, .inl vmnf)), (vmw, .inl (cy 1, 5632, .inr (.inl f_38))), (vmf, .inl (cy 0, 5632, .inl g_17))] := by rw [ef_38]; exact hD
                        refine lv_aload_n hx hb dX11_layWays_61 rfl (lv_at hl 4 rfl) ?_
                        refine gf_X11_136 hx hb hts hown hK hP 0 rfl rfl dX11_layWays_62 ?_
                        refine lv_iload hx hb dX11_layWays_65 (lv_at hl 0 rfl) ?_
                        refine lv_iload_n hx hb dX11_layWays_67 rfl (lv_at hl 1 rfl) ?_
                        refine lv_if_ne (tgt := 75) hx hb dX11_layWays_68 (by decide) (fun _ => ?_) (fun c9 => absurd (i_eq.mp c9) (by omega))
                        refine lv_ldcw hx hb hown (hts _ t1893) dX11_layWays_75 ?_
                        have hin_39 : vp_in r_20 5632 := vp_in_iff.mpr ⟨by omega, by omega⟩
                        refine va_iast hx hb hK hP hD hS 3 0 rfl rfl hin_39 dX11_layWays_78 (fun H locs hP hD hS => ?_)
                        obtain ⟨f_40, ef_40⟩ : ∃ z : Nat → Int32, z = upd g_17 (Int32.toNatClampNeg r_20) 100000 := ⟨_, rfl⟩
                        have hP : va_P (dC, dI) vwCl [(vo, .inr (12, [.int voth, .ref vmt, .int votp, .int vosz, .int volm, .int voto, .int vofr, .int vokd, .int vonu, .int vosg, .int vofa, .int vopl, .long vowd, .int votd, .ref vmn, .ref vmr, .ref vmk, .ref vms, .ref vma, .ref vmm, .ref vmrn, .ref vmkn, .ref vmik, .ref vmon, .int vosm, .int vohp, .ref vmw, .ref vmf, .ref vmb, .int vomb, .ref vmd, .ref vmc, .int vocm, .int voct, .int vocy, .ref vmx, .int votx, .int vose, .ref vml, .ref vmwr, .int voln, .int vohw, .ref vmno, .int vond, .int voon, .int vowi, .int votop])), (vmn, .inl (cy 0, 575, .inl vmnf)), (vmw, .inl (cy 1, 5632, .inr (.inl f_38))), (vmf, .inl (cy 0, 5632, .inl f_40))] H := by rw [ef_40]; exact hP
                        have hD : va_D A [(vo, .inr (12, [.int voth, .ref vmt, .int votp, .int vosz, .int volm, .int voto, .int vofr, .int vokd, .int vonu, .int vosg, .int vofa, .int vopl, .long vowd, .int votd, .ref vmn, .ref vmr, .ref vmk, .ref vms, .ref vma, .ref vmm, .ref vmrn, .ref vmkn, .ref vmik, .ref vmon, .int vosm, .int vohp, .ref vmw, .ref vmf, .ref vmb, .int vomb, .ref vmd, .ref vmc, .int vocm, .int voct, .int vocy, .ref vmx, .int votx, .int vose, .ref vml, .ref vmwr, .int voln, .int vohw, .ref vmno, .int vond, .int voon, .int vowi, .int votop])), (vmn, .inl (cy 0, 575, .inl vmnf)), (vmw, .inl (cy 1, 5632, .inr (.inl f_38))), (vmf, .inl (cy 0, 5632, .inl f_40))] := by rw [ef_40]; exact hD
                        have k_100000 : (100000 : Int32).toInt = 100000 := by decide
                        have p_f_40 : Rg f_40 5632 0 100000 := by rw [ef_40]; exact p_g_17.upd ⟨by omega, by omega⟩
                        refine lv_goto (tgt := 91) hx hb dX11_layWays_79 (by decide) ?_
                        obtain ⟨z_41, ez_41⟩ : ∃ z : Int32, z = x_15 + 1 := ⟨_, rfl⟩
                        have bz_41 : z_41.toInt = x_15.toInt + (1 : Int32).toInt := i_add ez_41 (by omega) (by omega)
                        refine lv_iinc (v := z_41) (lv' := [(3, .int z_41), (4, .int r_20), (2, .int x_9), (1, .int x_4), (0, .ref vo)]) hx hb dX11_layWays_91 hl (k := 1) rfl ez_41.symm (by decide) rfl (fun ls hl => ?_)
                        refine lv_goto (tgt := 20) hx hb dX11_layWays_94 (by decide) ?_
                        exact ih14 z_41 f_38 f_40 ⟨by omega, by omega⟩ p_f_40 v14_0 (LW.base (by omega)) (by omega) _ _ (hP.sub [0, 1, 2, 3] rfl) (hD.sub [0, 1, 2, 3] rfl rfl) hS ls (lv_sub hl [0, 2, 3, 4] rfl)
                      · skip
                        have c_36 : x_15.toInt = (0 : Int32).toInt := i_eq.mp c_36
                        refine lv_lconst (v := 1) hx hb dX11_layWays_55 (by decide) ?_
                        refine lv_goto (tgt := 60) hx hb dX11_layWays_56 (by decide) ?_
                        have hin_42 : vp_in r_20 5632 := vp_in_iff.mpr ⟨by omega, by omega⟩
                        refine va_last hx hb hK hP hD hS 2 1 rfl rfl hin_42 dX11_layWays_60 (fun H locs hP hD hS => ?_)
                        obtain ⟨f_43, ef_43⟩ : ∃ z : Nat → Int64, z = vp_updL g_16 (Int32.toNatClampNeg r_20) 1 := ⟨_, rfl⟩
                        have hP : va_P (dC, dI) vwCl [(vo, .inr (12, [.int voth, .ref vmt, .int votp, .int vosz, .int volm, .int voto, .int vofr, .int vokd, .int vonu, .int vosg, .int vofa, .int vopl, .long vowd, .int votd, .ref vmn, .ref vmr, .ref vmk, .ref vms, .ref vma, .ref vmm, .ref vmrn, .ref vmkn, .ref vmik, .ref vmon, .int vosm, .int vohp, .ref vmw, .ref vmf, .ref vmb, .int vomb, .ref vmd, .ref vmc, .int vocm, .int voct, .int vocy, .ref vmx, .int votx, .int vose, .ref vml, .ref vmwr, .int voln, .int vohw, .ref vmno, .int vond, .int voon, .int vowi, .int votop])), (vmn, .inl (cy 0, 575, .inl vmnf)), (vmw, .inl (cy 1, 5632, .inr (.inl f_43))), (vmf, .inl (cy 0, 5632, .inl g_17))] H := by rw [ef_43]; exact hP
                        have hD : va_D A [(vo, .inr (12, [.int voth, .ref vmt, .int votp, .int vosz, .int volm, .int voto, .int vofr, .int vokd, .int vonu, .int vosg, .int vofa, .int vopl, .long vowd, .int votd, .ref vmn, .ref vmr, .ref vmk, .ref vms, .ref vma, .ref vmm, .ref vmrn, .ref vmkn, .ref vmik, .ref vmon, .int vosm, .int vohp, .ref vmw, .ref vmf, .ref vmb, .int vomb, .ref vmd, .ref vmc, .int vocm, .int voct, .int vocy, .ref vmx, .int votx, .int vose, .ref vml, .ref vmwr, .int voln, .int vohw, .ref vmno, .int vond, .int voon, .int vowi, .int votop])), (vmn, .inl (cy 0, 575, .inl vmnf)), (vmw, .inl (cy 1, 5632, .inr (.inl f_43))), (vmf, .inl (cy 0, 5632, .inl g_17))] := by rw [ef_43]; exact hD
                        refine lv_aload_n hx hb dX11_layWays_61 rfl (lv_at hl 4 rfl) ?_
                        refine gf_X11_136 hx hb hts hown hK hP 0 rfl rfl dX11_layWays_62 ?_
                        refine lv_iload hx hb dX11_layWays_65 (lv_at hl 0 rfl) ?_
                        refine lv_iload_n hx hb dX11_layWays_67 rfl (lv_at hl 1 rfl) ?_
                        refine lv_if_ne (tgt := 75) hx hb dX11_layWays_68 (by decide) (fun c9 => (c9 (i_eq.mpr (by omega))).elim) (fun _ => ?_)
                        refine lv_iconst (v := 0) hx hb dX11_layWays_71 (by decide) ?_
                        refine lv_goto (tgt := 78) hx hb dX11_layWays_72 (by decide) ?_
                        have hin_44 : vp_in r_20 5632 := vp_in_iff.mpr ⟨by omega, by omega⟩
                        refine va_iast hx hb hK hP hD hS 3 0 rfl rfl hin_44 dX11_layWays_78 (fun H locs hP hD hS => ?_)
                        obtain ⟨f_45, ef_45⟩ : ∃ z : Nat → Int32, z = upd g_17 (Int32.toNatClampNeg r_20) 0 := ⟨_, rfl⟩
                        have hP : va_P (dC, dI) vwCl [(vo, .inr (12, [.int voth, .ref vmt, .int votp, .int vosz, .int volm, .int voto, .int vofr, .int vokd, .int vonu, .int vosg, .int vofa, .int vopl, .long vowd, .int votd, .ref vmn, .ref vmr, .ref vmk, .ref vms, .ref vma, .ref vmm, .ref vmrn, .ref vmkn, .ref vmik, .ref vmon, .int vosm, .int vohp, .ref vmw, .ref vmf, .ref vmb, .int vomb, .ref vmd, .ref vmc, .int vocm, .int voct, .int vocy, .ref vmx, .int votx, .int vose, .ref vml, .ref vmwr, .int voln, .int vohw, .ref vmno, .int vond, .int voon, .int vowi, .int votop])), (vmn, .inl (cy 0, 575, .inl vmnf)), (vmw, .inl (cy 1, 5632, .inr (.inl f_43))), (vmf, .inl (cy 0, 5632, .inl f_45))] H := by rw [ef_45]; exact hP
                        have hD : va_D A [(vo, .inr (12, [.int voth, .ref vmt, .int votp, .int vosz, .int volm, .int voto, .int vofr, .int vokd, .int vonu, .int vosg, .int vofa, .int vopl, .long vowd, .int votd, .ref vmn, .ref vmr, .ref vmk, .ref vms, .ref vma, .ref vmm, .ref vmrn, .ref vmkn, .ref vmik, .ref vmon, .int vosm, .int vohp, .ref vmw, .ref vmf, .ref vmb, .int vomb, .ref vmd, .ref vmc, .int vocm, .int voct, .int vocy, .ref vmx, .int votx, .int vose, .ref vml, .ref vmwr, .int voln, .int vohw, .ref vmno, .int vond, .int voon, .int vowi, .int votop])), (vmn, .inl (cy 0, 575, .inl vmnf)), (vmw, .inl (cy 1, 5632, .inr (.inl f_43))), (vmf, .inl (cy 0, 5632, .inl f_45))] := by rw [ef_45]; exact hD
                        have p_f_45 : Rg f_45 5632 0 100000 := by rw [ef_45]; exact p_g_17.upd ⟨by omega, by omega⟩
                        refine lv_goto (tgt := 91) hx hb dX11_layWays_79 (by decide) ?_
                        obtain ⟨z_46, ez_46⟩ : ∃ z : Int32, z = x_15 + 1 := ⟨_, rfl⟩
                        have bz_46 : z_46.toInt = x_15.toInt + (1 : Int32).toInt := i_add ez_46 (by omega) (by omega)
                        refine lv_iinc (v := z_46) (lv' := [(3, .int z_46), (4, .int r_20), (2, .int x_9), (1, .int x_4), (0, .ref vo)]) hx hb dX11_layWays_91 hl (k := 1) rfl ez_46.symm (by decide) rfl (fun ls hl => ?_)
                        refine lv_goto (tgt := 20) hx hb dX11_layWays_94 (by decide) ?_
                        exact ih14 z_46 f_43 f_45 ⟨by omega, by omega⟩ p_f_45 v14_0 (LW.base (by omega)) (by omega) _ _ (hP.sub [0, 1, 2, 3] rfl) (hD.sub [0, 1, 2, 3] rfl rfl) hS ls (lv_sub hl [0, 2, 3, 4] rfl)
              exact loop14 ((256 - (0 : Int32).toInt).toNat + 1) 0 g_10 g_11 ⟨by omega, by omega⟩ p_g_11 v8_0 (LW.mono v8_1 (by omega)) (by omega) _ _ hP hD hS ls (lv_sub hl [0, 1, 2, 3] rfl)
        exact loop8 ((2 - (0 : Int32).toInt).toNat + 1) 0 g_5 g_6 ⟨by omega, by omega⟩ p_g_6 (by omega) (LW.mono v3_1 (by omega)) (by omega) _ _ hP hD hS ls (lv_sub hl [0, 1, 2] rfl)
  exact loop3 ((z_2.toInt + 1).toNat + 1) z_2 vmwf vmff ⟨by omega, by omega⟩ p_vmff (by omega) (LW.base (by omega)) (by omega) _ _ hP hD hS ls (lv_sub hl [0, 1] rfl)
