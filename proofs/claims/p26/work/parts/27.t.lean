/-! the reference's sums: a cell, a row of cells from the last deed down -/
def suK (d c s : Nat) : Nat := 512 * d + 256 * c + s
def suF (m : Nat → Int64) (d c : Nat) : Nat → Int64 := fun s => m (suK d c s)
/-- a cell under way: so many times are added -/
def suCl (m m2 : Nat → Int64) (d c s w k : Nat) : Prop := (∀ j : Nat, j ≠ suK d c s → m2 j = m j) ∧ m2 (suK d c s) = su_S (suT w (suF m (d + 1) c) s) k
theorem suCl_0 {m m2 : Nat → Int64} {d c s w : Nat} {x : Int32} {k : Int} (hx : x.toInt = ((suK d c s : Nat) : Int)) (e : m2 = vp_updL m x.toNatClampNeg 0) (hk : k = 0) : suCl m m2 d c s w k.toNat := by
  have h1 := cl_nn (x := x) (by omega)
  have h2 : x.toNatClampNeg = suK d c s := by omega
  subst hk
  refine ⟨fun j hj => ?_, ?_⟩
  · rw [e, h2, pk_uLn hj]
  · rw [e, h2, pk_uLs]; rfl
theorem suCl_s {m m2 m3 : Nat → Int64} {d c s : Nat} {x1 x2 nx t p t2 : Int32} {w : Nat} {y1 y2 y3 : Int64} (h : suCl m m2 d c s w t.toInt.toNat) (hc : c ≤ 1) (hs : s ≤ 255) (h0 : 0 ≤ t.toInt) (hp : ((t.toInt.toNat * w : Nat) : Int) = p.toInt) (hps : p.toInt ≤ (s : Int)) (hx1 : x1.toInt = ((suK d c s : Nat) : Int)) (hx2 : x2.toInt = ((suK d c s : Nat) : Int)) (hn : nx.toInt = 512 * ((d : Int) + 1) + 256 * (c : Int) + ((s : Int) - p.toInt)) (e1 : y1 = m2 x1.toNatClampNeg) (e2 : y2 = m2 nx.toNatClampNeg) (e3 : y3 = y1 + y2) (e : m3 = vp_updL m2 x2.toNatClampNeg y3) (ht : t2.toInt = t.toInt + 1) : suCl m m3 d c s w t2.toInt.toNat := by
  have q1 := cl_nn (x := x1) (by omega)
  have q2 := cl_nn (x := x2) (by omega)
  have q3 : 0 ≤ nx.toInt := by omega
  have q4 := cl_nn (x := nx) q3
  have r1 : x1.toNatClampNeg = suK d c s := by omega
  have r2 : x2.toNatClampNeg = suK d c s := by omega
  have r3 : nx.toNatClampNeg = suK (d + 1) c (s - t.toInt.toNat * w) := by unfold suK; omega
  have r4 : suK (d + 1) c (s - t.toInt.toNat * w) ≠ suK d c s := by unfold suK; omega
  obtain ⟨h1, h2⟩ := h
  refine ⟨fun j hj => ?_, ?_⟩
  · rw [e, r2, pk_uLn hj]; exact h1 j hj
  · rw [e, r2, pk_uLs, e3, e1, e2, r1, r3, h2, h1 _ r4, show t2.toInt.toNat = t.toInt.toNat + 1 by omega, su_S_e]
    refine congrArg (fun q => su_S (suT w (suF m (d + 1) c) s) t.toInt.toNat + q) ?_
    show m _ = suT _ _ _ _
    unfold suT
    rw [if_pos (by omega)]; rfl
theorem suCl_e {m m2 : Nat → Int64} {d c s w k t : Nat} (h : suCl m m2 d c s w k) (hk : k = t ∨ (s < k * w ∧ k ≤ t)) : m2 (suK d c s) = su_W t w (suF m (d + 1) c) s := by
  rw [h.2, su_W_T]
  rcases hk with hk | ⟨a, b⟩
  · rw [hk]
  · refine (su_stop t b (fun q q1 q2 => ?_)).symm
    have := Nat.mul_le_mul_right w q1
    exact if_neg (by omega)
/-- all cells from a place on are right -/
def suOK (m : Nat → Int64) (f3 f4 : Nat → Int32) (D : Nat) (d : Int) (p : Int) : Prop := ∀ e c s : Nat, c ≤ 1 → s ≤ 255 → e ≤ D → (d < (e : Int) ∨ (d = (e : Int) ∧ ((suK e c s : Nat) : Int) < p)) → m (suK e c s) = su_L (suTm f4 (c : Int)) (suWt f3) D (D - e) s
theorem suOK_base {m : Nat → Int64} {f3 f4 : Nat → Int32} {D : Nat} {d p : Int} (h : (D : Int) ≤ d) (hp : p ≤ 512 * d) : suOK m f3 f4 D d p := by
  intro e c s _ _ he h2
  rcases h2 with h2 | ⟨h2, h3⟩
  · exfalso; omega
  · exfalso; unfold suK at h3; omega
theorem suOK_mono {m : Nat → Int64} {f3 f4 : Nat → Int32} {D : Nat} {d p p2 : Int} (h : suOK m f3 f4 D d p) (hp : p2 ≤ p) : suOK m f3 f4 D d p2 := fun e c s a1 a2 a3 a4 => h e c s a1 a2 a3 (by omega)
theorem suOK_down {m : Nat → Int64} {f3 f4 : Nat → Int32} {D : Nat} {d d2 p p2 : Int} (h : suOK m f3 f4 D d p) (hp : 512 * d + 512 ≤ p) (hd : d2 = d - 1) (hp2 : p2 ≤ 512 * d2) : suOK m f3 f4 D d2 p2 := by
  intro e c s a1 a2 a3 a4
  refine h e c s a1 a2 a3 ?_
  rcases a4 with a4 | ⟨a4, a5⟩
  · by_cases q : d = (e : Int)
    · exact Or.inr ⟨q, by unfold suK; omega⟩
    · exact Or.inl (by omega)
  · exfalso; unfold suK at a5; omega
theorem suOK_next {m m2 : Nat → Int64} {f3 f4 : Nat → Int32} {D d c s : Nat} {p p2 : Int} {di : Int} (h : suOK m f3 f4 D di p) (hdi : di = (d : Int)) (hp : p = ((suK d c s : Nat) : Int)) (hp2 : p2 = p + 1) (hd : d ≤ D) (hc : c ≤ 1) (hs : s ≤ 255) (h1 : ∀ j : Nat, j ≠ suK d c s → m2 j = m j) (h2 : (d = D ∧ m2 (suK d c s) = su_0 s) ∨ (d < D ∧ m2 (suK d c s) = su_W (suTm f4 (c : Int) d) (suWt f3 d) (suF m (d + 1) c) s)) : suOK m2 f3 f4 D di p2 := by
  subst hdi
  intro e c' s' a1 a2 a3 a4
  by_cases q : suK e c' s' = suK d c s
  · have qe : e = d := by unfold suK at q; omega
    have qc : c' = c := by unfold suK at q; omega
    have qs : s' = s := by unfold suK at q; omega
    subst qe qc qs
    rcases h2 with ⟨b1, b2⟩ | ⟨b1, b2⟩
    · rw [b2, show D - e = 0 by omega]; rfl
    · rw [b2, show D - e = (D - e - 1) + 1 by omega]
      show _ = su_W (suTm f4 (c' : Int) (D - 1 - (D - e - 1))) (suWt f3 (D - 1 - (D - e - 1))) (su_L (suTm f4 (c' : Int)) (suWt f3) D (D - e - 1)) s'
      rw [show D - 1 - (D - e - 1) = e by omega]
      refine su_W_cg (fun j hj => ?_)
      have := h (e + 1) c' j a1 (by omega) (by omega) (Or.inl (by omega))
      rw [show D - (e + 1) = D - e - 1 by omega] at this
      exact this
  · rw [h1 _ q]
    refine h e c' s' a1 a2 a3 ?_
    rcases a4 with a4 | ⟨a4, a5⟩
    · exact Or.inl a4
    · exact Or.inr ⟨a4, by omega⟩
theorem suOK_all {m : Nat → Int64} {f3 f4 : Nat → Int32} {D : Nat} {d p : Int} (h : suOK m f3 f4 D d p) (hd : d = -1) : ∀ c s : Nat, c ≤ 1 → s ≤ 255 → m (suK 0 c s) = su_C (suTm f4 (c : Int)) (suWt f3) D s := by
  intro c s hc hs
  have := h 0 c s hc hs (Nat.zero_le D) (Or.inl (by omega))
  rw [Nat.sub_zero, su_L_C] at this
  exact this
theorem suOK_put {m m2 : Nat → Int64} {f3 f4 : Nat → Int32} {D d c s : Nat} {x : Int32} {v : Int64} {p p2 di : Int} (h : suOK m f3 f4 D di p) (hdi : di = (d : Int)) (hp : p = ((suK d c s : Nat) : Int)) (hp2 : p2 = p + 1) (hd : d = D) (hc : c ≤ 1) (hs : s ≤ 255) (hx : x.toInt = ((suK d c s : Nat) : Int)) (e : m2 = vp_updL m x.toNatClampNeg v) (hv : v = su_0 s) : suOK m2 f3 f4 D di p2 := by
  have h1 := cl_nn (x := x) (by omega)
  have h2 : x.toNatClampNeg = suK d c s := by omega
  refine suOK_next h hdi hp hp2 (by omega) hc hs (fun j hj => ?_) (Or.inl ⟨hd, ?_⟩)
  · rw [e, h2, pk_uLn hj]
  · rw [e, h2, pk_uLs, hv]
theorem tkMay_eq {g : Nat → Int32} {gn : Nat → Int64} {cm cd cr cw : Int32} {cf1 cf2 : Nat → Int64} {cf3 cf4 cf5 : Nat → Int32} (h : tkHD g gn cm cd cr cw cf1 cf2 cf3 cf4 cf5) {b : Nat → Int32} {n : Int} {r r2 : Int64} (hc : (n ≠ 2 ∧ r = -1) ∨ (n = 2 ∧ r = su_C (suTm cf4 0) (suWt cf3) cd.toInt.toNat (b 0).toInt.toNat * su_C (suTm cf4 1) (suWt cf3) cd.toInt.toNat (b 1).toInt.toNat)) (hm : (n ≠ 2 ∧ r2 = -1) ∨ (n = 2 ∧ r2 = su_C (suTm (fun e9 => g (21 + e9)) 0) (suWt (fun e9 => g (11 + e9))) (g 1).toInt.toNat (b 0).toInt.toNat * su_C (suTm (fun e9 => g (21 + e9)) 1) (suWt (fun e9 => g (11 + e9))) (g 1).toInt.toNat (b 1).toInt.toNat)) : r = r2 := by
  have e : ∀ c : Int, su_C (suTm cf4 c) (suWt cf3) cd.toInt.toNat = su_C (suTm (fun e9 => g (21 + e9)) c) (suWt (fun e9 => g (11 + e9))) (g 1).toInt.toNat := by
    intro c
    rw [← h.1.2.1]
    refine su_C_cg _ (fun j hj => ⟨?_, ?_⟩)
    · unfold suTm; rw [(h.2.2.2.2.2.2 j (by omega)).1]
    · unfold suWt; rw [h.2.2.1 j (by omega)]
  rcases hc with ⟨a, e1⟩ | ⟨a, e1⟩ <;> rcases hm with ⟨c, e2⟩ | ⟨c, e2⟩
  · rw [e1, e2]
  · exact absurd c a
  · exact absurd a c
  · rw [e1, e2, e, e]
abbrev O_s_layCell (cy : Nat → ClassId) (vnh : Nat → Int32) (vo : Nat) (voth : Int32) (vmt : Nat) (votp : Int32) (vosz : Int32) (volm : Int32) (voto : Int32) (vofr : Int32) (vokd : Int32) (vonu : Int32) (vosg : Int32) (vofa : Int32) (vopl : Int32) (vowd : Int64) (votd : Int32) (vmn : Nat) (vmr : Nat) (vmk : Nat) (vms : Nat) (vma : Nat) (vmm : Nat) (vmrn : Nat) (vmkn : Nat) (vmik : Nat) (vmon : Nat) (vosm : Int32) (vohp : Int32) (vmw : Nat) (vmf : Nat) (vmb : Nat) (vomb : Int32) (vmd : Nat) (vmc : Nat) (vocm : Int32) (voct : Int32) (vocy : Int32) (vmx : Nat) (votx : Int32) (vose : Int32) (vml : Nat) (vmwr : Nat) (voln : Int32) (vohw : Int32) (vmno : Nat) (vond : Int32) (voon : Int32) (vowi : Int32) (votop : Int32) (vmnf : Nat → Int32) (vmwf : Nat → Int64) (vmff : Nat → Int32) (vd : Int32) (vcr : Int32) (vsu : Int32) (vcc : Int32) (u : (Nat → Int64) × (Nat → Int32)) : va_W := [(vo, .inr (12, [.int voth, .ref vmt, .int votp, .int vosz, .int volm, .int voto, .int vofr, .int vokd, .int vonu, .int vosg, .int vofa, .int vopl, .long vowd, .int votd, .ref vmn, .ref vmr, .ref vmk, .ref vms, .ref vma, .ref vmm, .ref vmrn, .ref vmkn, .ref vmik, .ref vmon, .int vosm, .int vohp, .ref vmw, .ref vmf, .ref vmb, .int vomb, .ref vmd, .ref vmc, .int vocm, .int voct, .int vocy, .ref vmx, .int votx, .int vose, .ref vml, .ref vmwr, .int voln, .int vohw, .ref vmno, .int vond, .int voon, .int vowi, .int votop])), (vmn, .inl (cy 0, 575, .inl vmnf)), (vmw, .inl (cy 1, 5632, .inr (.inl u.1))), (vmf, .inl (cy 0, 5632, .inl u.2))]
set_option maxHeartbeats 4000000 in
set_option maxRecDepth 100000 in
theorem s_layCell (l : Launch) (dC : Nat → ClassId) (dI : Nat → Nat → Nat) (cy : Nat → ClassId) (sz : Nat) (vnh : Nat → Int32) (vo : Nat) (voth : Int32) (vmt : Nat) (votp : Int32) (vosz : Int32) (volm : Int32) (voto : Int32) (vofr : Int32) (vokd : Int32) (vonu : Int32) (vosg : Int32) (vofa : Int32) (vopl : Int32) (vowd : Int64) (votd : Int32) (vmn : Nat) (vmr : Nat) (vmk : Nat) (vms : Nat) (vma : Nat) (vmm : Nat) (vmrn : Nat) (vmkn : Nat) (vmik : Nat) (vmon : Nat) (vosm : Int32) (vohp : Int32) (vmw : Nat) (vmf : Nat) (vmb : Nat) (vomb : Int32) (vmd : Nat) (vmc : Nat) (vocm : Int32) (voct : Int32) (vocy : Int32) (vmx : Nat) (votx : Int32) (vose : Int32) (vml : Nat) (vmwr : Nat) (voln : Int32) (vohw : Int32) (vmno : Nat) (vond : Int32) (voon : Int32) (vowi : Int32) (votop : Int32) (vmnf : Nat → Int32) (vmwf : Nat → Int64) (vmff : Nat → Int32) (vd : Int32) (vcr : Int32) (vsu : Int32) (vcc : Int32) (r_vd : 0 ≤ (vd : Int32).toInt ∧ (vd : Int32).toInt ≤ 9) (r_vcr : 0 ≤ (vcr : Int32).toInt ∧ (vcr : Int32).toInt ≤ 1) (r_vsu : 0 ≤ (vsu : Int32).toInt ∧ (vsu : Int32).toInt ≤ 255) (r_vcc : 0 ≤ (vcc : Int32).toInt ∧ (vcc : Int32).toInt ≤ 5631) (p_vmnf : NW vnh vmnf) (p_vmff : Rg vmff 5632 0 100000) (hc : (vcc : Int32).toInt = 512 * (vd : Int32).toInt + 256 * (vcr : Int32).toInt + (vsu : Int32).toInt) : Met l yX11_layCell (wl yX11_layCell cX11_layCell 8 none) ({ frames := 1, cells := 0, slots := 0, locals := 64 }) (Pw (dC, dI) vwCl cy [(vo, .inr (12, [.int voth, .ref vmt, .int votp, .int vosz, .int volm, .int voto, .int vofr, .int vokd, .int vonu, .int vosg, .int vofa, .int vopl, .long vowd, .int votd, .ref vmn, .ref vmr, .ref vmk, .ref vms, .ref vma, .ref vmm, .ref vmrn, .ref vmkn, .ref vmik, .ref vmon, .int vosm, .int vohp, .ref vmw, .ref vmf, .ref vmb, .int vomb, .ref vmd, .ref vmc, .int vocm, .int voct, .int vocy, .ref vmx, .int votx, .int vose, .ref vml, .ref vmwr, .int voln, .int vohw, .ref vmno, .int vond, .int voon, .int vowi, .int votop])), (vmn, .inl (cy 0, 575, .inl vmnf)), (vmw, .inl (cy 1, 5632, .inr (.inl vmwf))), (vmf, .inl (cy 0, 5632, .inl vmff))] sz [.ref vo, .int vd, .int vcr, .int vsu, .int vcc] nE) (Qv (dC, dI) vwCl (fun (u : (Nat → Int64) × (Nat → Int32)) => (Rg u.2 5632 0 100000) ∧ (FQ vmff u.2 (Int32.toNatClampNeg vcc)) ∧ (AE u.2 vmnf (Int32.toNatClampNeg vcc)) ∧ (∀ j : Nat, j ≠ suK (vd : Int32).toInt.toNat (vcr : Int32).toInt.toNat (vsu : Int32).toInt.toNat → u.1 j = vmwf j) ∧ (u.1 (suK (vd : Int32).toInt.toNat (vcr : Int32).toInt.toNat (vsu : Int32).toInt.toNat) = su_W (suTm (fun e9 => vmnf (21 + e9)) (vcr : Int32).toInt (vd : Int32).toInt.toNat) (suWt (fun e9 => vmnf (11 + e9)) (vd : Int32).toInt.toNat) (suF vmwf ((vd : Int32).toInt.toNat + 1) (vcr : Int32).toInt.toNat) (vsu : Int32).toInt.toNat)) (O_s_layCell cy vnh vo voth vmt votp vosz volm voto vofr vokd vonu vosg vofa vopl vowd votd vmn vmr vmk vms vma vmm vmrn vmkn vmik vmon vosm vohp vmw vmf vmb vomb vmd vmc vocm voct vocy vmx votx vose vml vmwr voln vohw vmno vond voon vowi votop vmnf vmwf vmff vd vcr vsu vcc) (va_A [(vo, .inr (12, [.int voth, .ref vmt, .int votp, .int vosz, .int volm, .int voto, .int vofr, .int vokd, .int vonu, .int vosg, .int vofa, .int vopl, .long vowd, .int votd, .ref vmn, .ref vmr, .ref vmk, .ref vms, .ref vma, .ref vmm, .ref vmrn, .ref vmkn, .ref vmik, .ref vmon, .int vosm, .int vohp, .ref vmw, .ref vmf, .ref vmb, .int vomb, .ref vmd, .ref vmc, .int vocm, .int voct, .int vocy, .ref vmx, .int votx, .int vose, .ref vml, .ref vmwr, .int voln, .int vohw, .ref vmno, .int vond, .int voon, .int vowi, .int votop])), (vmn, .inl (cy 0, 575, .inl vmnf)), (vmw, .inl (cy 1, 5632, .inr (.inl vmwf))), (vmf, .inl (cy 0, 5632, .inl vmff))] sz)) 0 0 (va_A [(vo, .inr (12, [.int voth, .ref vmt, .int votp, .int vosz, .int volm, .int voto, .int vofr, .int vokd, .int vonu, .int vosg, .int vofa, .int vopl, .long vowd, .int votd, .ref vmn, .ref vmr, .ref vmk, .ref vms, .ref vma, .ref vmm, .ref vmrn, .ref vmkn, .ref vmik, .ref vmon, .int vosm, .int vohp, .ref vmw, .ref vmf, .ref vmb, .int vomb, .ref vmd, .ref vmc, .int vocm, .int voct, .int vocy, .ref vmx, .int votx, .int vose, .ref vml, .ref vmwr, .int voln, .int vohw, .ref vmno, .int vond, .int voon, .int vowi, .int votop])), (vmn, .inl (cy 0, 575, .inl vmnf)), (vmw, .inl (cy 1, 5632, .inr (.inl vmwf))), (vmf, .inl (cy 0, 5632, .inl vmff))] sz) := by
  refine mw (Qc := Qv (dC, dI) vwCl (fun (u : (Nat → Int64) × (Nat → Int32)) => (Rg u.2 5632 0 100000) ∧ (FQ vmff u.2 (Int32.toNatClampNeg vcc)) ∧ (AE u.2 vmnf (Int32.toNatClampNeg vcc)) ∧ (∀ j : Nat, j ≠ suK (vd : Int32).toInt.toNat (vcr : Int32).toInt.toNat (vsu : Int32).toInt.toNat → u.1 j = vmwf j) ∧ (u.1 (suK (vd : Int32).toInt.toNat (vcr : Int32).toInt.toNat (vsu : Int32).toInt.toNat) = su_W (suTm (fun e9 => vmnf (21 + e9)) (vcr : Int32).toInt (vd : Int32).toInt.toNat) (suWt (fun e9 => vmnf (11 + e9)) (vd : Int32).toInt.toNat) (suF vmwf ((vd : Int32).toInt.toNat + 1) (vcr : Int32).toInt.toNat) (vsu : Int32).toInt.toNat)) (O_s_layCell cy vnh vo voth vmt votp vosz volm voto vofr vokd vonu vosg vofa vopl vowd votd vmn vmr vmk vms vma vmm vmrn vmkn vmik vmon vosm vohp vmw vmf vmb vomb vmd vmc vocm voct vocy vmx votx vose vml vmwr voln vohw vmno vond voon vowi votop vmnf vmwf vmff vd vcr vsu vcc)) RX11 rfl (by decide +kernel) (Nat.le_of_ble_eq_true rfl) ?_
  intro p e s m below meth c A hx hb hr hlocks av9 hav hts hown hnm hml hK hP hD hA hS hE hAe Q9 hQ9 ls hl
  have hl : lv_has ls 8 [(0, .ref vo), (1, .int vd), (2, .int vcr), (3, .int vsu), (4, .int vcc)] := hl
  refine lv_aload_n hx hb dX11_layCell_0 rfl (lv_at hl 0 rfl) ?_
  refine gf_X11_133 hx hb hts hown hK hP 0 rfl rfl dX11_layCell_1 ?_
  refine lv_iload hx hb dX11_layCell_4 (lv_at hl 4 rfl) ?_
  refine lv_lconst (v := 0) hx hb dX11_layCell_6 (by decide) ?_
  have hin_1 : vp_in vcc 5632 := vp_in_iff.mpr ⟨by omega, by omega⟩
  refine va_last hx hb hK hP hD hS 2 1 rfl rfl hin_1 dX11_layCell_7 (fun H locs hP hD hS => ?_)
  obtain ⟨f_2, ef_2⟩ : ∃ z : Nat → Int64, z = vp_updL vmwf (Int32.toNatClampNeg vcc) 0 := ⟨_, rfl⟩
  have hP : va_P (dC, dI) vwCl [(vo, .inr (12, [.int voth, .ref vmt, .int votp, .int vosz, .int volm, .int voto, .int vofr, .int vokd, .int vonu, .int vosg, .int vofa, .int vopl, .long vowd, .int votd, .ref vmn, .ref vmr, .ref vmk, .ref vms, .ref vma, .ref vmm, .ref vmrn, .ref vmkn, .ref vmik, .ref vmon, .int vosm, .int vohp, .ref vmw, .ref vmf, .ref vmb, .int vomb, .ref vmd, .ref vmc, .int vocm, .int voct, .int vocy, .ref vmx, .int votx, .int vose, .ref vml, .ref vmwr, .int voln, .int vohw, .ref vmno, .int vond, .int voon, .int vowi, .int votop])), (vmn, .inl (cy 0, 575, .inl vmnf)), (vmw, .inl (cy 1, 5632, .inr (.inl f_2))), (vmf, .inl (cy 0, 5632, .inl vmff))] H := by rw [ef_2]; exact hP
  have hD : va_D A [(vo, .inr (12, [.int voth, .ref vmt, .int votp, .int vosz, .int volm, .int voto, .int vofr, .int vokd, .int vonu, .int vosg, .int vofa, .int vopl, .long vowd, .int votd, .ref vmn, .ref vmr, .ref vmk, .ref vms, .ref vma, .ref vmm, .ref vmrn, .ref vmkn, .ref vmik, .ref vmon, .int vosm, .int vohp, .ref vmw, .ref vmf, .ref vmb, .int vomb, .ref vmd, .ref vmc, .int vocm, .int voct, .int vocy, .ref vmx, .int votx, .int vose, .ref vml, .ref vmwr, .int voln, .int vohw, .ref vmno, .int vond, .int voon, .int vowi, .int votop])), (vmn, .inl (cy 0, 575, .inl vmnf)), (vmw, .inl (cy 1, 5632, .inr (.inl f_2))), (vmf, .inl (cy 0, 5632, .inl vmff))] := by rw [ef_2]; exact hD
  refine lv_aload_n hx hb dX11_layCell_8 rfl (lv_at hl 0 rfl) ?_
  refine gf_X11_136 hx hb hts hown hK hP 0 rfl rfl dX11_layCell_9 ?_
  refine lv_iload hx hb dX11_layCell_12 (lv_at hl 4 rfl) ?_
  refine lv_ldcw hx hb hown (hts _ t1893) dX11_layCell_14 ?_
  have hin_3 : vp_in vcc 5632 := vp_in_iff.mpr ⟨by omega, by omega⟩
  refine va_iast hx hb hK hP hD hS 3 0 rfl rfl hin_3 dX11_layCell_17 (fun H locs hP hD hS => ?_)
  obtain ⟨f_4, ef_4⟩ : ∃ z : Nat → Int32, z = upd vmff (Int32.toNatClampNeg vcc) 100000 := ⟨_, rfl⟩
  have hP : va_P (dC, dI) vwCl [(vo, .inr (12, [.int voth, .ref vmt, .int votp, .int vosz, .int volm, .int voto, .int vofr, .int vokd, .int vonu, .int vosg, .int vofa, .int vopl, .long vowd, .int votd, .ref vmn, .ref vmr, .ref vmk, .ref vms, .ref vma, .ref vmm, .ref vmrn, .ref vmkn, .ref vmik, .ref vmon, .int vosm, .int vohp, .ref vmw, .ref vmf, .ref vmb, .int vomb, .ref vmd, .ref vmc, .int vocm, .int voct, .int vocy, .ref vmx, .int votx, .int vose, .ref vml, .ref vmwr, .int voln, .int vohw, .ref vmno, .int vond, .int voon, .int vowi, .int votop])), (vmn, .inl (cy 0, 575, .inl vmnf)), (vmw, .inl (cy 1, 5632, .inr (.inl f_2))), (vmf, .inl (cy 0, 5632, .inl f_4))] H := by rw [ef_4]; exact hP
  have hD : va_D A [(vo, .inr (12, [.int voth, .ref vmt, .int votp, .int vosz, .int volm, .int voto, .int vofr, .int vokd, .int vonu, .int vosg, .int vofa, .int vopl, .long vowd, .int votd, .ref vmn, .ref vmr, .ref vmk, .ref vms, .ref vma, .ref vmm, .ref vmrn, .ref vmkn, .ref vmik, .ref vmon, .int vosm, .int vohp, .ref vmw, .ref vmf, .ref vmb, .int vomb, .ref vmd, .ref vmc, .int vocm, .int voct, .int vocy, .ref vmx, .int votx, .int vose, .ref vml, .ref vmwr, .int voln, .int vohw, .ref vmno, .int vond, .int voon, .int vowi, .int votop])), (vmn, .inl (cy 0, 575, .inl vmnf)), (vmw, .inl (cy 1, 5632, .inr (.inl f_2))), (vmf, .inl (cy 0, 5632, .inl f_4))] := by rw [ef_4]; exact hD
  have k_100000 : (100000 : Int32).toInt = 100000 := by decide
  have p_f_4 : Rg f_4 5632 0 100000 := by rw [ef_4]; exact p_vmff.upd ⟨by omega, by omega⟩
  refine lv_aload_n hx hb dX11_layCell_18 rfl (lv_at hl 0 rfl) ?_
  refine gf_X11_98 hx hb hts hown hK hP 0 rfl rfl dX11_layCell_19 ?_
  refine lv_bipush (v := 21) hx hb dX11_layCell_22 (by decide) ?_
  refine lv_iload_n hx hb dX11_layCell_24 rfl (lv_at hl 1 rfl) ?_
  refine lv_iadd hx hb dX11_layCell_25 ?_
  refine lv_topi (fun z_5 ez_5 => ?_)
  have k_21 : (21 : Int32).toInt = 21 := by decide
  have bz_5 : z_5.toInt = (21 : Int32).toInt + vd.toInt := i_add ez_5 (by omega) (by omega)
  have hin_6 : vp_in z_5 575 := vp_in_iff.mpr ⟨by omega, by omega⟩
  refine va_iald hx hb hK hP 1 0 rfl rfl hin_6 dX11_layCell_26 ?_
  refine lv_topi (fun z_7 ez_7 => ?_)
  have hC : z_7.toInt = (vmnf (21 + vd.toInt.toNat)).toInt := by rw [ez_7, show Int32.toNatClampNeg z_5 = 21 + vd.toInt.toNat by have := cl_nn (x := z_5) (by omega); omega]
  refine lv_iload_n hx hb dX11_layCell_27 rfl (lv_at hl 2 rfl) ?_
  refine lv_icmp_ne (tgt := 36) hx hb dX11_layCell_28 (by decide) (fun c_8 => ?_) (fun c_8 => ?_)
  · skip
    have c_8 : ¬ (z_7.toInt = vcr.toInt) := fun h9 => c_8 (i_eq.mpr h9)
    refine lv_iconst (v := 0) hx hb dX11_layCell_36 (by decide) ?_
    refine lv_istore (lv' := [(5, .int 0), (0, .ref vo), (1, .int vd), (2, .int vcr), (3, .int vsu), (4, .int vcc)]) hx hb dX11_layCell_37 hl (by decide) rfl (fun ls hl => ?_)
    refine lv_iconst (v := 0) hx hb dX11_layCell_39 (by decide) ?_
    refine lv_istore (lv' := [(6, .int 0), (5, .int 0), (0, .ref vo), (1, .int vd), (2, .int vcr), (3, .int vsu), (4, .int vcc)]) hx hb dX11_layCell_40 hl (by decide) rfl (fun ls hl => ?_)
    have loop9 : ∀ (n9 : Nat) (x_10 : Int32) (g_11 : Nat → Int64) (g_12 : Nat → Int32), (0 ≤ x_10.toInt ∧ x_10.toInt ≤ 10) → Rg g_12 5632 0 100000 → (FQ vmff g_12 (Int32.toNatClampNeg vcc)) → (LI g_12 vmnf (Int32.toNatClampNeg vcc) x_10.toInt) → (suCl vmwf g_11 vd.toInt.toNat vcr.toInt.toNat vsu.toInt.toNat (vmnf (11 + vd.toInt.toNat)).toInt.toNat (x_10.toInt).toNat) → (x_10.toInt ≤ (0 : Int32).toInt + 1) → 10 - x_10.toInt < (n9 : Int) → ∀ (H : Heap) (locs : List Loc), va_P (dC, dI) vwCl [(vo, .inr (12, [.int voth, .ref vmt, .int votp, .int vosz, .int volm, .int voto, .int vofr, .int vokd, .int vonu, .int vosg, .int vofa, .int vopl, .long vowd, .int votd, .ref vmn, .ref vmr, .ref vmk, .ref vms, .ref vma, .ref vmm, .ref vmrn, .ref vmkn, .ref vmik, .ref vmon, .int vosm, .int vohp, .ref vmw, .ref vmf, .ref vmb, .int vomb, .ref vmd, .ref vmc, .int vocm, .int voct, .int vocy, .ref vmx, .int votx, .int vose, .ref vml, .ref vmwr, .int voln, .int vohw, .ref vmno, .int vond, .int voon, .int vowi, .int votop])), (vmn, .inl (cy 0, 575, .inl vmnf)), (vmw, .inl (cy 1, 5632, .inr (.inl g_11))), (vmf, .inl (cy 0, 5632, .inl g_12))] H → va_D A [(vo, .inr (12, [.int voth, .ref vmt, .int votp, .int vosz, .int volm, .int voto, .int vofr, .int vokd, .int vonu, .int vosg, .int vofa, .int vopl, .long vowd, .int votd, .ref vmn, .ref vmr, .ref vmk, .ref vms, .ref vma, .ref vmm, .ref vmrn, .ref vmkn, .ref vmik, .ref vmon, .int vosm, .int vohp, .ref vmw, .ref vmf, .ref vmb, .int vomb, .ref vmd, .ref vmc, .int vocm, .int voct, .int vocy, .ref vmx, .int votx, .int vose, .ref vml, .ref vmwr, .int voln, .int vohw, .ref vmno, .int vond, .int voon, .int vowi, .int votop])), (vmn, .inl (cy 0, 575, .inl vmnf)), (vmw, .inl (cy 1, 5632, .inr (.inl g_11))), (vmf, .inl (cy 0, 5632, .inl g_12))] → va_S A s.heap H locs → ∀ ls : Array Slot, lv_has ls 8 [(6, .int x_10), (5, .int 0), (0, .ref vo), (1, .int vd), (2, .int vcr), (3, .int vsu), (4, .int vcc)] → W p l e ({ frames := 1, cells := 0, slots := 0, locals := 64 }) s m av9 below meth c H locs 0 0 Q9 (F0 m 42 ls []) := by
      intro n9
      induction n9 with
      | zero =>
        intro x_10 g_11 g_12 bx_10 p_g_12 v9_0 v9_1 v9_2 v9_3 hn9 H locs hP hD hS ls hl
        exfalso; omega
      | succ n9 ih9 =>
        intro x_10 g_11 g_12 bx_10 p_g_12 v9_0 v9_1 v9_2 v9_3 hn9 H locs hP hD hS ls hl
        refine lv_iload hx hb dX11_layCell_42 (lv_at hl 0 rfl) ?_
        refine lv_iload hx hb dX11_layCell_44 (lv_at hl 1 rfl) ?_
        have k_0 : (0 : Int32).toInt = 0 := by decide
        refine lv_icmp_gt (tgt := 138) hx hb dX11_layCell_46 (by decide) (fun c_13 => ?_) (fun c_13 => ?_)
        · skip
          have c_13 : (0 : Int32).toInt < x_10.toInt := i_lt.mp c_13
          rw [hQ9]
          exact re_v (g_11, g_12) hx hb hr hlocks ⟨(show Rg g_12 5632 0 100000 from p_g_12), (show FQ vmff g_12 (Int32.toNatClampNeg vcc) from v9_0), (show AE g_12 vmnf (Int32.toNatClampNeg vcc) from (LI.ae v9_1 (by omega))), (show ∀ j : Nat, j ≠ suK (vd : Int32).toInt.toNat (vcr : Int32).toInt.toNat (vsu : Int32).toInt.toNat → g_11 j = vmwf j from (v9_2.1)), (show g_11 (suK (vd : Int32).toInt.toNat (vcr : Int32).toInt.toNat (vsu : Int32).toInt.toNat) = su_W (suTm (fun e9 => vmnf (21 + e9)) (vcr : Int32).toInt (vd : Int32).toInt.toNat) (suWt (fun e9 => vmnf (11 + e9)) (vd : Int32).toInt.toNat) (suF vmwf ((vd : Int32).toInt.toNat + 1) (vcr : Int32).toInt.toNat) (vsu : Int32).toInt.toNat from (by have h9 := suCl_e (t := 1) v9_2 (Or.inl (by omega)); rw [show suTm (fun e9 => vmnf (21 + e9)) vcr.toInt vd.toInt.toNat = 1 from if_neg (show ¬ ((vmnf (21 + vd.toInt.toNat)).toInt = vcr.toInt) by omega)]; exact h9))⟩ (hP.sub [0, 1, 2, 3] rfl) (hD.sub [0, 1, 2, 3] rfl rfl) hS dX11_layCell_138
        · skip
          have c_13 : ¬ ((0 : Int32).toInt < x_10.toInt) := fun h9 => c_13 (i_lt.mpr h9)
          refine lv_iload hx hb dX11_layCell_49 (lv_at hl 0 rfl) ?_
          refine lv_aload_n hx hb dX11_layCell_51 rfl (lv_at hl 2 rfl) ?_
          refine gf_X11_98 hx hb hts hown hK hP 0 rfl rfl dX11_layCell_52 ?_
          refine lv_bipush (v := 11) hx hb dX11_layCell_55 (by decide) ?_
          refine lv_iload_n hx hb dX11_layCell_57 rfl (lv_at hl 3 rfl) ?_
          refine lv_iadd hx hb dX11_layCell_58 ?_
          refine lv_topi (fun z_14 ez_14 => ?_)
          have k_11 : (11 : Int32).toInt = 11 := by decide
          have bz_14 : z_14.toInt = (11 : Int32).toInt + vd.toInt := i_add ez_14 (by omega) (by omega)
          have hin_15 : vp_in z_14 575 := vp_in_iff.mpr ⟨by omega, by omega⟩
          refine va_iald hx hb hK hP 1 0 rfl rfl hin_15 dX11_layCell_59 ?_
          refine lv_topi (fun z_16 ez_16 => ?_)
          have bz_16 := p_vmnf.aw (x := z_14) ⟨by omega, by omega⟩ ez_16
          have hW : z_16.toInt.toNat = (vmnf (11 + vd.toInt.toNat)).toInt.toNat := by rw [ez_16, show Int32.toNatClampNeg z_14 = 11 + vd.toInt.toNat by have := cl_nn (x := z_14) (by omega); omega]
          refine lv_imul hx hb dX11_layCell_60 ?_
          refine lv_topi (fun z_17 ez_17 => ?_)
          have bz_17 : 0 ≤ z_17.toInt ∧ z_17.toInt ≤ 0 ∧ z_17.toInt = x_10.toInt * z_16.toInt := i_mulb (A := 0) (B := 40) ez_17 ⟨by omega, by omega⟩ ⟨by omega, by omega⟩ (by decide)
          refine lv_iload_n hx hb dX11_layCell_61 rfl (lv_at hl 5 rfl) ?_
          refine lv_icmp_gt (tgt := 138) hx hb dX11_layCell_62 (by decide) (fun c9 => absurd (i_lt.mp c9) (by omega)) (fun _ => ?_)
          refine lv_iload_n hx hb dX11_layCell_65 rfl (lv_at hl 3 rfl) ?_
          refine lv_iconst (v := 1) hx hb dX11_layCell_66 (by decide) ?_
          refine lv_iadd hx hb dX11_layCell_67 ?_
          refine lv_topi (fun z_18 ez_18 => ?_)
          have k_1 : (1 : Int32).toInt = 1 := by decide
          have bz_18 : z_18.toInt = vd.toInt + (1 : Int32).toInt := i_add ez_18 (by omega) (by omega)
          refine lv_iload_n hx hb dX11_layCell_68 rfl (lv_at hl 4 rfl) ?_
          refine lv_iload_n hx hb dX11_layCell_69 rfl (lv_at hl 5 rfl) ?_
          refine lv_iload hx hb dX11_layCell_70 (lv_at hl 0 rfl) ?_
          refine lv_aload_n hx hb dX11_layCell_72 rfl (lv_at hl 2 rfl) ?_
          refine gf_X11_98 hx hb hts hown hK hP 0 rfl rfl dX11_layCell_73 ?_
          refine lv_bipush (v := 11) hx hb dX11_layCell_76 (by decide) ?_
          refine lv_iload_n hx hb dX11_layCell_78 rfl (lv_at hl 3 rfl) ?_
          refine lv_iadd hx hb dX11_layCell_79 ?_
          refine lv_topi (fun z_19 ez_19 => ?_)
          have bz_19 : z_19.toInt = (11 : Int32).toInt + vd.toInt := i_add ez_19 (by omega) (by omega)
          have hin_20 : vp_in z_19 575 := vp_in_iff.mpr ⟨by omega, by omega⟩
          refine va_iald hx hb hK hP 1 0 rfl rfl hin_20 dX11_layCell_80 ?_
          refine lv_topi (fun z_21 ez_21 => ?_)
          have bz_21 := p_vmnf.aw (x := z_19) ⟨by omega, by omega⟩ ez_21
          refine as_i z_16 (i_eq.mpr (i_same ez_16 ez_21 (by omega))) ?_
          refine lv_imul hx hb dX11_layCell_81 ?_
          refine lv_topi (fun z_22 ez_22 => ?_)
          have bz_22 : 0 ≤ z_22.toInt ∧ z_22.toInt ≤ 0 ∧ z_22.toInt = x_10.toInt * z_16.toInt := i_mulb (A := 0) (B := 40) ez_22 ⟨by omega, by omega⟩ ⟨by omega, by omega⟩ (by decide)
          refine lv_isub hx hb dX11_layCell_82 ?_
          refine lv_topi (fun z_23 ez_23 => ?_)
          have bz_23 : z_23.toInt = vsu.toInt - z_22.toInt := i_sub ez_23 (by omega) (by omega)
          refine jr_i (rSr (As := [.int z_18, .int vcr, .int z_23]) (rest := []) ⟨hx, hb, hml, hown, hts⟩ (m_cellOf l dC dI cy z_18 vcr z_23 ⟨by omega, by omega⟩ r_vcr ⟨by omega, by omega⟩) (cw_X11_306 hts rfl rfl ⟨Nat.le_of_ble_eq_true rfl, Nat.le_of_ble_eq_true rfl⟩) hP hK [] rfl rfl hl.1 rfl (Nat.le_of_ble_eq_true rfl) dX11_layCell_83 ⟨Nat.le_of_ble_eq_true rfl, Nat.le_of_ble_eq_true rfl⟩) hP hS (fun r_24 H locs hp_25 hP hS => ?_)
          have hp_25 : (0 ≤ (r_24 : Int32).toInt ∧ (r_24 : Int32).toInt ≤ 5631) ∧ ((r_24 : Int32).toInt = 512 * (z_18 : Int32).toInt + 256 * (vcr : Int32).toInt + (z_23 : Int32).toInt) := hp_25
          obtain ⟨q_26, q_27⟩ := hp_25
          refine lv_istore (lv' := [(7, .int r_24), (6, .int x_10), (5, .int 0), (0, .ref vo), (1, .int vd), (2, .int vcr), (3, .int vsu), (4, .int vcc)]) hx hb dX11_layCell_86 hl (by decide) rfl (fun ls hl => ?_)
          refine lv_aload_n hx hb dX11_layCell_88 rfl (lv_at hl 3 rfl) ?_
          refine gf_X11_133 hx hb hts hown hK hP 0 rfl rfl dX11_layCell_89 ?_
          refine lv_iload hx hb dX11_layCell_92 (lv_at hl 7 rfl) ?_
          refine lv_dup2_11 hx hb dX11_layCell_94 rfl rfl ?_
          have hin_28 : vp_in vcc 5632 := vp_in_iff.mpr ⟨by omega, by omega⟩
          refine va_lald hx hb hK hP 2 1 rfl rfl hin_28 dX11_layCell_95 ?_
          refine lv_topl (fun y_29 ey_29 => ?_)
          refine lv_aload_n hx hb dX11_layCell_96 rfl (lv_at hl 3 rfl) ?_
          refine gf_X11_133 hx hb hts hown hK hP 0 rfl rfl dX11_layCell_97 ?_
          refine lv_iload hx hb dX11_layCell_100 (lv_at hl 0 rfl) ?_
          have hin_30 : vp_in r_24 5632 := vp_in_iff.mpr ⟨by omega, by omega⟩
          refine va_lald hx hb hK hP 2 1 rfl rfl hin_30 dX11_layCell_102 ?_
          refine lv_topl (fun y_31 ey_31 => ?_)
          refine lv_ladd hx hb dX11_layCell_103 ?_
          refine lv_topl (fun y_32 ey_32 => ?_)
          have hin_33 : vp_in vcc 5632 := vp_in_iff.mpr ⟨by omega, by omega⟩
          refine va_last hx hb hK hP hD hS 2 1 rfl rfl hin_33 dX11_layCell_104 (fun H locs hP hD hS => ?_)
          obtain ⟨f_34, ef_34⟩ : ∃ z : Nat → Int64, z = vp_updL g_11 (Int32.toNatClampNeg vcc) y_32 := ⟨_, rfl⟩
          have hP : va_P (dC, dI) vwCl [(vo, .inr (12, [.int voth, .ref vmt, .int votp, .int vosz, .int volm, .int voto, .int vofr, .int vokd, .int vonu, .int vosg, .int vofa, .int vopl, .long vowd, .int votd, .ref vmn, .ref vmr, .ref vmk, .ref vms, .ref vma, .ref vmm, .ref vmrn, .ref vmkn, .ref vmik, .ref vmon, .int vosm, .int vohp, .ref vmw, .ref vmf, .ref vmb, .int vomb, .ref vmd, .ref vmc, .int vocm, .int voct, .int vocy, .ref vmx, .int votx, .int vose, .ref vml, .ref vmwr, .int voln, .int vohw, .ref vmno, .int vond, .int voon, .int vowi, .int votop])), (vmn, .inl (cy 0, 575, .inl vmnf)), (vmw, .inl (cy 1, 5632, .inr (.inl f_34))), (vmf, .inl (cy 0, 5632, .inl g_12))] H := by rw [ef_34]; exact hP
          have hD : va_D A [(vo, .inr (12, [.int voth, .ref vmt, .int votp, .int vosz, .int volm, .int voto, .int vofr, .int vokd, .int vonu, .int vosg, .int vofa, .int vopl, .long vowd, .int votd, .ref vmn, .ref vmr, .ref vmk, .ref vms, .ref vma, .ref vmm, .ref vmrn, .ref vmkn, .ref vmik, .ref vmon, .int vosm, .int vohp, .ref vmw, .ref vmf, .ref vmb, .int vomb, .ref vmd, .ref vmc, .int vocm, .int voct, .int vocy, .ref vmx, .int votx, .int vose, .ref vml, .ref vmwr, .int voln, .int vohw, .ref vmno, .int vond, .int voon, .int vowi, .int votop])), (vmn, .inl (cy 0, 575, .inl vmnf)), (vmw, .inl (cy 1, 5632, .inr (.inl f_34))), (vmf, .inl (cy 0, 5632, .inl g_12))] := by rw [ef_34]; exact hD
          refine lv_aload_n hx hb dX11_layCell_105 rfl (lv_at hl 3 rfl) ?_
          refine gf_X11_136 hx hb hts hown hK hP 0 rfl rfl dX11_layCell_106 ?_
          refine lv_iload hx hb dX11_layCell_109 (lv_at hl 7 rfl) ?_
          refine lv_aload_n hx hb dX11_layCell_111 rfl (lv_at hl 3 rfl) ?_
          refine gf_X11_136 hx hb hts hown hK hP 0 rfl rfl dX11_layCell_112 ?_
          refine lv_iload hx hb dX11_layCell_115 (lv_at hl 7 rfl) ?_
          have hin_35 : vp_in vcc 5632 := vp_in_iff.mpr ⟨by omega, by omega⟩
          refine va_iald hx hb hK hP 3 0 rfl rfl hin_35 dX11_layCell_117 ?_
          refine lv_topi (fun z_36 ez_36 => ?_)
          have bz_36 := p_g_12.at hin_35 ez_36
          refine lv_aload_n hx hb dX11_layCell_118 rfl (lv_at hl 3 rfl) ?_
          refine gf_X11_136 hx hb hts hown hK hP 0 rfl rfl dX11_layCell_119 ?_
          refine lv_iload hx hb dX11_layCell_122 (lv_at hl 0 rfl) ?_
          have hin_37 : vp_in r_24 5632 := vp_in_iff.mpr ⟨by omega, by omega⟩
          refine va_iald hx hb hK hP 3 0 rfl rfl hin_37 dX11_layCell_124 ?_
          refine lv_topi (fun z_38 ez_38 => ?_)
          have bz_38 := p_g_12.at hin_37 ez_38
          refine lv_iload hx hb dX11_layCell_125 (lv_at hl 1 rfl) ?_
          refine lv_iadd hx hb dX11_layCell_127 ?_
          refine lv_topi (fun z_39 ez_39 => ?_)
          have bz_39 : z_39.toInt = z_38.toInt + x_10.toInt := i_add ez_39 (by omega) (by omega)
          refine jr_i (rSr (As := [.int z_36, .int z_39]) (rest := [.int vcc, .ref vmf]) ⟨hx, hb, hml, hown, hts⟩ (m_least l dC dI cy z_36 z_39 ) (cw_X11_288 hts rfl rfl ⟨Nat.le_of_ble_eq_true rfl, Nat.le_of_ble_eq_true rfl⟩) hP hK [] rfl rfl hl.1 rfl (Nat.le_of_ble_eq_true rfl) dX11_layCell_128 ⟨Nat.le_of_ble_eq_true rfl, Nat.le_of_ble_eq_true rfl⟩) hP hS (fun r_40 H locs hp_41 hP hS => ?_)
          have hp_41 : ((r_40 : Int32).toInt ≤ (z_36 : Int32).toInt) ∧ ((r_40 : Int32).toInt ≤ (z_39 : Int32).toInt) ∧ (((r_40 : Int32).toInt = (z_36 : Int32).toInt ∨ (r_40 : Int32).toInt = (z_39 : Int32).toInt)) := hp_41
          obtain ⟨q_42, q_43, q_44⟩ := hp_41
          have hin_45 : vp_in vcc 5632 := vp_in_iff.mpr ⟨by omega, by omega⟩
          refine va_iast hx hb hK hP hD hS 3 0 rfl rfl hin_45 dX11_layCell_131 (fun H locs hP hD hS => ?_)
          obtain ⟨f_46, ef_46⟩ : ∃ z : Nat → Int32, z = upd g_12 (Int32.toNatClampNeg vcc) r_40 := ⟨_, rfl⟩
          have hP : va_P (dC, dI) vwCl [(vo, .inr (12, [.int voth, .ref vmt, .int votp, .int vosz, .int volm, .int voto, .int vofr, .int vokd, .int vonu, .int vosg, .int vofa, .int vopl, .long vowd, .int votd, .ref vmn, .ref vmr, .ref vmk, .ref vms, .ref vma, .ref vmm, .ref vmrn, .ref vmkn, .ref vmik, .ref vmon, .int vosm, .int vohp, .ref vmw, .ref vmf, .ref vmb, .int vomb, .ref vmd, .ref vmc, .int vocm, .int voct, .int vocy, .ref vmx, .int votx, .int vose, .ref vml, .ref vmwr, .int voln, .int vohw, .ref vmno, .int vond, .int voon, .int vowi, .int votop])), (vmn, .inl (cy 0, 575, .inl vmnf)), (vmw, .inl (cy 1, 5632, .inr (.inl f_34))), (vmf, .inl (cy 0, 5632, .inl f_46))] H := by rw [ef_46]; exact hP
          have hD : va_D A [(vo, .inr (12, [.int voth, .ref vmt, .int votp, .int vosz, .int volm, .int voto, .int vofr, .int vokd, .int vonu, .int vosg, .int vofa, .int vopl, .long vowd, .int votd, .ref vmn, .ref vmr, .ref vmk, .ref vms, .ref vma, .ref vmm, .ref vmrn, .ref vmkn, .ref vmik, .ref vmon, .int vosm, .int vohp, .ref vmw, .ref vmf, .ref vmb, .int vomb, .ref vmd, .ref vmc, .int vocm, .int voct, .int vocy, .ref vmx, .int votx, .int vose, .ref vml, .ref vmwr, .int voln, .int vohw, .ref vmno, .int vond, .int voon, .int vowi, .int votop])), (vmn, .inl (cy 0, 575, .inl vmnf)), (vmw, .inl (cy 1, 5632, .inr (.inl f_34))), (vmf, .inl (cy 0, 5632, .inl f_46))] := by rw [ef_46]; exact hD
          have p_f_46 : Rg f_46 5632 0 100000 := by rw [ef_46]; exact p_g_12.upd ⟨by omega, by omega⟩
          obtain ⟨z_47, ez_47⟩ : ∃ z : Int32, z = x_10 + 1 := ⟨_, rfl⟩
          have bz_47 : z_47.toInt = x_10.toInt + (1 : Int32).toInt := i_add ez_47 (by omega) (by omega)
          refine lv_iinc (v := z_47) (lv' := [(6, .int z_47), (7, .int r_24), (5, .int 0), (0, .ref vo), (1, .int vd), (2, .int vcr), (3, .int vsu), (4, .int vcc)]) hx hb dX11_layCell_132 hl (k := 1) rfl ez_47.symm (by decide) rfl (fun ls hl => ?_)
          refine lv_goto (tgt := 42) hx hb dX11_layCell_135 (by decide) ?_
          exact ih9 z_47 f_34 f_46 ⟨by omega, by omega⟩ p_f_46 (ef_46 ▸ FQ.up v9_0) (Or.inr (ef_46 ▸ LI.step (d := vd) (cr := vcr.toInt) (su := vsu.toInt) v9_1 (by omega) ⟨by omega, by omega⟩ ⟨by omega, by omega⟩ ⟨by omega, by omega⟩ (i1 := z_14) (by omega) ez_16 ⟨by omega, by omega⟩ bz_22.2.2 ⟨by omega, by omega⟩ (nx := r_24) (by omega) ez_36 ez_38 (by omega) (b := z_39) (by omega) (by omega) (by omega) (by omega))) (suCl_s (p := z_17) (nx := r_24) v9_2 (by omega) (by omega) (by omega) (by rw [← hW]; exact su_cast bz_17.2.2 (by omega) (by omega)) (by omega) (by unfold suK; omega) (by unfold suK; omega) (by omega) ey_29 ey_31 ey_32 ef_34 (by omega)) (by omega) (by omega) _ _ (hP.sub [0, 1, 2, 3] rfl) (hD.sub [0, 1, 2, 3] rfl rfl) hS ls (lv_sub hl [0, 2, 3, 4, 5, 6, 7] rfl)
    have k_0 : (0 : Int32).toInt = 0 := by decide
    exact loop9 ((10 - (0 : Int32).toInt).toNat + 1) 0 f_2 f_4 ⟨by omega, by omega⟩ p_f_4 (ef_4 ▸ FQ.up FQ.rf) (Or.inl ⟨by omega, by rw [ef_4, pk_us]; omega⟩) (suCl_0 (by unfold suK; omega) ef_2 (by omega)) (by omega) (by omega) _ _ hP hD hS ls (lv_sub hl [0, 1, 2, 3, 4, 5, 6] rfl)
  · skip
    have c_8 : z_7.toInt = vcr.toInt := i_eq.mp c_8
    refine lv_bipush (v := 9) hx hb dX11_layCell_31 (by decide) ?_
    refine lv_goto (tgt := 37) hx hb dX11_layCell_33 (by decide) ?_
    refine lv_istore (lv' := [(5, .int 9), (0, .ref vo), (1, .int vd), (2, .int vcr), (3, .int vsu), (4, .int vcc)]) hx hb dX11_layCell_37 hl (by decide) rfl (fun ls hl => ?_)
    refine lv_iconst (v := 0) hx hb dX11_layCell_39 (by decide) ?_
    refine lv_istore (lv' := [(6, .int 0), (5, .int 9), (0, .ref vo), (1, .int vd), (2, .int vcr), (3, .int vsu), (4, .int vcc)]) hx hb dX11_layCell_40 hl (by decide) rfl (fun ls hl => ?_)
    have loop48 : ∀ (n48 : Nat) (x_49 : Int32) (g_50 : Nat → Int64) (g_51 : Nat → Int32), (0 ≤ x_49.toInt ∧ x_49.toInt ≤ 10) → Rg g_51 5632 0 100000 → (FQ vmff g_51 (Int32.toNatClampNeg vcc)) → (LI g_51 vmnf (Int32.toNatClampNeg vcc) x_49.toInt) → (suCl vmwf g_50 vd.toInt.toNat vcr.toInt.toNat vsu.toInt.toNat (vmnf (11 + vd.toInt.toNat)).toInt.toNat (x_49.toInt).toNat) → (x_49.toInt ≤ (9 : Int32).toInt + 1) → 10 - x_49.toInt < (n48 : Int) → ∀ (H : Heap) (locs : List Loc), va_P (dC, dI) vwCl [(vo, .inr (12, [.int voth, .ref vmt, .int votp, .int vosz, .int volm, .int voto, .int vofr, .int vokd, .int vonu, .int vosg, .int vofa, .int vopl, .long vowd, .int votd, .ref vmn, .ref vmr, .ref vmk, .ref vms, .ref vma, .ref vmm, .ref vmrn, .ref vmkn, .ref vmik, .ref vmon, .int vosm, .int vohp, .ref vmw, .ref vmf, .ref vmb, .int vomb, .ref vmd, .ref vmc, .int vocm, .int voct, .int vocy, .ref vmx, .int votx, .int vose, .ref vml, .ref vmwr, .int voln, .int vohw, .ref vmno, .int vond, .int voon, .int vowi, .int votop])), (vmn, .inl (cy 0, 575, .inl vmnf)), (vmw, .inl (cy 1, 5632, .inr (.inl g_50))), (vmf, .inl (cy 0, 5632, .inl g_51))] H → va_D A [(vo, .inr (12, [.int voth, .ref vmt, .int votp, .int vosz, .int volm, .int voto, .int vofr, .int vokd, .int vonu, .int vosg, .int vofa, .int vopl, .long vowd, .int votd, .ref vmn, .ref vmr, .ref vmk, .ref vms, .ref vma, .ref vmm, .ref vmrn, .ref vmkn, .ref vmik, .ref vmon, .int vosm, .int vohp, .ref vmw, .ref vmf, .ref vmb, .int vomb, .ref vmd, .ref vmc, .int vocm, .int voct, .int vocy, .ref vmx, .int votx, .int vose, .ref vml, .ref vmwr, .int voln, .int vohw, .ref vmno, .int vond, .int voon, .int vowi, .int votop])), (vmn, .inl (cy 0, 575, .inl vmnf)), (vmw, .inl (cy 1, 5632, .inr (.inl g_50))), (vmf, .inl (cy 0, 5632, .inl g_51))] → va_S A s.heap H locs → ∀ ls : Array Slot, lv_has ls 8 [(6, .int x_49), (5, .int 9), (0, .ref vo), (1, .int vd), (2, .int vcr), (3, .int vsu), (4, .int vcc)] → W p l e ({ frames := 1, cells := 0, slots := 0, locals := 64 }) s m av9 below meth c H locs 0 0 Q9 (F0 m 42 ls []) := by
      intro n48
      induction n48 with
      | zero =>
        intro x_49 g_50 g_51 bx_49 p_g_51 v48_0 v48_1 v48_2 v48_3 hn48 H locs hP hD hS ls hl
        exfalso; omega
      | succ n48 ih48 =>
        intro x_49 g_50 g_51 bx_49 p_g_51 v48_0 v48_1 v48_2 v48_3 hn48 H locs hP hD hS ls hl
        refine lv_iload hx hb dX11_layCell_42 (lv_at hl 0 rfl) ?_
        refine lv_iload hx hb dX11_layCell_44 (lv_at hl 1 rfl) ?_
        have k_9 : (9 : Int32).toInt = 9 := by decide
        refine lv_icmp_gt (tgt := 138) hx hb dX11_layCell_46 (by decide) (fun c_52 => ?_) (fun c_52 => ?_)
        · skip
          have c_52 : (9 : Int32).toInt < x_49.toInt := i_lt.mp c_52
          rw [hQ9]
          exact re_v (g_50, g_51) hx hb hr hlocks ⟨(show Rg g_51 5632 0 100000 from p_g_51), (show FQ vmff g_51 (Int32.toNatClampNeg vcc) from v48_0), (show AE g_51 vmnf (Int32.toNatClampNeg vcc) from (LI.ae v48_1 (by omega))), (show ∀ j : Nat, j ≠ suK (vd : Int32).toInt.toNat (vcr : Int32).toInt.toNat (vsu : Int32).toInt.toNat → g_50 j = vmwf j from (v48_2.1)), (show g_50 (suK (vd : Int32).toInt.toNat (vcr : Int32).toInt.toNat (vsu : Int32).toInt.toNat) = su_W (suTm (fun e9 => vmnf (21 + e9)) (vcr : Int32).toInt (vd : Int32).toInt.toNat) (suWt (fun e9 => vmnf (11 + e9)) (vd : Int32).toInt.toNat) (suF vmwf ((vd : Int32).toInt.toNat + 1) (vcr : Int32).toInt.toNat) (vsu : Int32).toInt.toNat from (by have h9 := suCl_e (t := 10) v48_2 (Or.inl (by omega)); rw [show suTm (fun e9 => vmnf (21 + e9)) vcr.toInt vd.toInt.toNat = 10 from if_pos (show (vmnf (21 + vd.toInt.toNat)).toInt = vcr.toInt by omega)]; exact h9))⟩ (hP.sub [0, 1, 2, 3] rfl) (hD.sub [0, 1, 2, 3] rfl rfl) hS dX11_layCell_138
        · skip
          have c_52 : ¬ ((9 : Int32).toInt < x_49.toInt) := fun h9 => c_52 (i_lt.mpr h9)
          refine lv_iload hx hb dX11_layCell_49 (lv_at hl 0 rfl) ?_
          refine lv_aload_n hx hb dX11_layCell_51 rfl (lv_at hl 2 rfl) ?_
          refine gf_X11_98 hx hb hts hown hK hP 0 rfl rfl dX11_layCell_52 ?_
          refine lv_bipush (v := 11) hx hb dX11_layCell_55 (by decide) ?_
          refine lv_iload_n hx hb dX11_layCell_57 rfl (lv_at hl 3 rfl) ?_
          refine lv_iadd hx hb dX11_layCell_58 ?_
          refine lv_topi (fun z_53 ez_53 => ?_)
          have k_11 : (11 : Int32).toInt = 11 := by decide
          have bz_53 : z_53.toInt = (11 : Int32).toInt + vd.toInt := i_add ez_53 (by omega) (by omega)
          have hin_54 : vp_in z_53 575 := vp_in_iff.mpr ⟨by omega, by omega⟩
          refine va_iald hx hb hK hP 1 0 rfl rfl hin_54 dX11_layCell_59 ?_
          refine lv_topi (fun z_55 ez_55 => ?_)
          have bz_55 := p_vmnf.aw (x := z_53) ⟨by omega, by omega⟩ ez_55
          have hW : z_55.toInt.toNat = (vmnf (11 + vd.toInt.toNat)).toInt.toNat := by rw [ez_55, show Int32.toNatClampNeg z_53 = 11 + vd.toInt.toNat by have := cl_nn (x := z_53) (by omega); omega]
          refine lv_imul hx hb dX11_layCell_60 ?_
          refine lv_topi (fun z_56 ez_56 => ?_)
          have bz_56 : 0 ≤ z_56.toInt ∧ z_56.toInt ≤ 360 ∧ z_56.toInt = x_49.toInt * z_55.toInt := i_mulb (A := 9) (B := 40) ez_56 ⟨by omega, by omega⟩ ⟨by omega, by omega⟩ (by decide)
          refine lv_iload_n hx hb dX11_layCell_61 rfl (lv_at hl 5 rfl) ?_
          refine lv_icmp_gt (tgt := 138) hx hb dX11_layCell_62 (by decide) (fun c_57 => ?_) (fun c_57 => ?_)
          · skip
            have c_57 : vsu.toInt < z_56.toInt := i_lt.mp c_57
            rw [hQ9]
            exact re_v (g_50, g_51) hx hb hr hlocks ⟨(show Rg g_51 5632 0 100000 from p_g_51), (show FQ vmff g_51 (Int32.toNatClampNeg vcc) from v48_0), (show AE g_51 vmnf (Int32.toNatClampNeg vcc) from (LI.ae v48_1 (pos_of bz_56.2.2 (by omega)))), (show ∀ j : Nat, j ≠ suK (vd : Int32).toInt.toNat (vcr : Int32).toInt.toNat (vsu : Int32).toInt.toNat → g_50 j = vmwf j from (v48_2.1)), (show g_50 (suK (vd : Int32).toInt.toNat (vcr : Int32).toInt.toNat (vsu : Int32).toInt.toNat) = su_W (suTm (fun e9 => vmnf (21 + e9)) (vcr : Int32).toInt (vd : Int32).toInt.toNat) (suWt (fun e9 => vmnf (11 + e9)) (vd : Int32).toInt.toNat) (suF vmwf ((vd : Int32).toInt.toNat + 1) (vcr : Int32).toInt.toNat) (vsu : Int32).toInt.toNat from (by have h9 := suCl_e (t := 10) v48_2 (Or.inr ⟨by have h8 := su_cast bz_56.2.2 (by omega) (by omega); rw [hW] at h8; omega, by omega⟩); rw [show suTm (fun e9 => vmnf (21 + e9)) vcr.toInt vd.toInt.toNat = 10 from if_pos (show (vmnf (21 + vd.toInt.toNat)).toInt = vcr.toInt by omega)]; exact h9))⟩ (hP.sub [0, 1, 2, 3] rfl) (hD.sub [0, 1, 2, 3] rfl rfl) hS dX11_layCell_138
          · skip
            have c_57 : ¬ (vsu.toInt < z_56.toInt) := fun h9 => c_57 (i_lt.mpr h9)
            refine lv_iload_n hx hb dX11_layCell_65 rfl (lv_at hl 3 rfl) ?_
            refine lv_iconst (v := 1) hx hb dX11_layCell_66 (by decide) ?_
            refine lv_iadd hx hb dX11_layCell_67 ?_
            refine lv_topi (fun z_58 ez_58 => ?_)
            have k_1 : (1 : Int32).toInt = 1 := by decide
            have bz_58 : z_58.toInt = vd.toInt + (1 : Int32).toInt := i_add ez_58 (by omega) (by omega)
            refine lv_iload_n hx hb dX11_layCell_68 rfl (lv_at hl 4 rfl) ?_
            refine lv_iload_n hx hb dX11_layCell_69 rfl (lv_at hl 5 rfl) ?_
            refine lv_iload hx hb dX11_layCell_70 (lv_at hl 0 rfl) ?_
            refine lv_aload_n hx hb dX11_layCell_72 rfl (lv_at hl 2 rfl) ?_
            refine gf_X11_98 hx hb hts hown hK hP 0 rfl rfl dX11_layCell_73 ?_
            refine lv_bipush (v := 11) hx hb dX11_layCell_76 (by decide) ?_
            refine lv_iload_n hx hb dX11_layCell_78 rfl (lv_at hl 3 rfl) ?_
            refine lv_iadd hx hb dX11_layCell_79 ?_
            refine lv_topi (fun z_59 ez_59 => ?_)
            have bz_59 : z_59.toInt = (11 : Int32).toInt + vd.toInt := i_add ez_59 (by omega) (by omega)
            have hin_60 : vp_in z_59 575 := vp_in_iff.mpr ⟨by omega, by omega⟩
            refine va_iald hx hb hK hP 1 0 rfl rfl hin_60 dX11_layCell_80 ?_
            refine lv_topi (fun z_61 ez_61 => ?_)
            have bz_61 := p_vmnf.aw (x := z_59) ⟨by omega, by omega⟩ ez_61
            refine as_i z_55 (i_eq.mpr (i_same ez_55 ez_61 (by omega))) ?_
            refine lv_imul hx hb dX11_layCell_81 ?_
            refine lv_topi (fun z_62 ez_62 => ?_)
            have bz_62 : 0 ≤ z_62.toInt ∧ z_62.toInt ≤ 360 ∧ z_62.toInt = x_49.toInt * z_55.toInt := i_mulb (A := 9) (B := 40) ez_62 ⟨by omega, by omega⟩ ⟨by omega, by omega⟩ (by decide)
            refine lv_isub hx hb dX11_layCell_82 ?_
            refine lv_topi (fun z_63 ez_63 => ?_)
            have bz_63 : z_63.toInt = vsu.toInt - z_62.toInt := i_sub ez_63 (by omega) (by omega)
            refine jr_i (rSr (As := [.int z_58, .int vcr, .int z_63]) (rest := []) ⟨hx, hb, hml, hown, hts⟩ (m_cellOf l dC dI cy z_58 vcr z_63 ⟨by omega, by omega⟩ r_vcr ⟨by omega, by omega⟩) (cw_X11_306 hts rfl rfl ⟨Nat.le_of_ble_eq_true rfl, Nat.le_of_ble_eq_true rfl⟩) hP hK [] rfl rfl hl.1 rfl (Nat.le_of_ble_eq_true rfl) dX11_layCell_83 ⟨Nat.le_of_ble_eq_true rfl, Nat.le_of_ble_eq_true rfl⟩) hP hS (fun r_64 H locs hp_65 hP hS => ?_)
            have hp_65 : (0 ≤ (r_64 : Int32).toInt ∧ (r_64 : Int32).toInt ≤ 5631) ∧ ((r_64 : Int32).toInt = 512 * (z_58 : Int32).toInt + 256 * (vcr : Int32).toInt + (z_63 : Int32).toInt) := hp_65
            obtain ⟨q_66, q_67⟩ := hp_65
            refine lv_istore (lv' := [(7, .int r_64), (6, .int x_49), (5, .int 9), (0, .ref vo), (1, .int vd), (2, .int vcr), (3, .int vsu), (4, .int vcc)]) hx hb dX11_layCell_86 hl (by decide) rfl (fun ls hl => ?_)
            refine lv_aload_n hx hb dX11_layCell_88 rfl (lv_at hl 3 rfl) ?_
            refine gf_X11_133 hx hb hts hown hK hP 0 rfl rfl dX11_layCell_89 ?_
            refine lv_iload hx hb dX11_layCell_92 (lv_at hl 7 rfl) ?_
            refine lv_dup2_11 hx hb dX11_layCell_94 rfl rfl ?_
            have hin_68 : vp_in vcc 5632 := vp_in_iff.mpr ⟨by omega, by omega⟩
            refine va_lald hx hb hK hP 2 1 rfl rfl hin_68 dX11_layCell_95 ?_
            refine lv_topl (fun y_69 ey_69 => ?_)
            refine lv_aload_n hx hb dX11_layCell_96 rfl (lv_at hl 3 rfl) ?_
            refine gf_X11_133 hx hb hts hown hK hP 0 rfl rfl dX11_layCell_97 ?_
            refine lv_iload hx hb dX11_layCell_100 (lv_at hl 0 rfl) ?_
            have hin_70 : vp_in r_64 5632 := vp_in_iff.mpr ⟨by omega, by omega⟩
            refine va_lald hx hb hK hP 2 1 rfl rfl hin_70 dX11_layCell_102 ?_
            refine lv_topl (fun y_71 ey_71 => ?_)
            refine lv_ladd hx hb dX11_layCell_103 ?_
            refine lv_topl (fun y_72 ey_72 => ?_)
            have hin_73 : vp_in vcc 5632 := vp_in_iff.mpr ⟨by omega, by omega⟩
            refine va_last hx hb hK hP hD hS 2 1 rfl rfl hin_73 dX11_layCell_104 (fun H locs hP hD hS => ?_)
            obtain ⟨f_74, ef_74⟩ : ∃ z : Nat → Int64, z = vp_updL g_50 (Int32.toNatClampNeg vcc) y_72 := ⟨_, rfl⟩
            have hP : va_P (dC, dI) vwCl [(vo, .inr (12, [.int voth, .ref vmt, .int votp, .int vosz, .int volm, .int voto, .int vofr, .int vokd, .int vonu, .int vosg, .int vofa, .int vopl, .long vowd, .int votd, .ref vmn, .ref vmr, .ref vmk, .ref vms, .ref vma, .ref vmm, .ref vmrn, .ref vmkn, .ref vmik, .ref vmon, .int vosm, .int vohp, .ref vmw, .ref vmf, .ref vmb, .int vomb, .ref vmd, .ref vmc, .int vocm, .int voct, .int vocy, .ref vmx, .int votx, .int vose, .ref vml, .ref vmwr, .int voln, .int vohw, .ref vmno, .int vond, .int voon, .int vowi, .int votop])), (vmn, .inl (cy 0, 575, .inl vmnf)), (vmw, .inl (cy 1, 5632, .inr (.inl f_74))), (vmf, .inl (cy 0, 5632, .inl g_51))] H := by rw [ef_74]; exact hP
            have hD : va_D A [(vo, .inr (12, [.int voth, .ref vmt, .int votp, .int vosz, .int volm, .int voto, .int vofr, .int vokd, .int vonu, .int vosg, .int vofa, .int vopl, .long vowd, .int votd, .ref vmn, .ref vmr, .ref vmk, .ref vms, .ref vma, .ref vmm, .ref vmrn, .ref vmkn, .ref vmik, .ref vmon, .int vosm, .int vohp, .ref vmw, .ref vmf, .ref vmb, .int vomb, .ref vmd, .ref vmc, .int vocm, .int voct, .int vocy, .ref vmx, .int votx, .int vose, .ref vml, .ref vmwr, .int voln, .int vohw, .ref vmno, .int vond, .int voon, .int vowi, .int votop])), (vmn, .inl (cy 0, 575, .inl vmnf)), (vmw, .inl (cy 1, 5632, .inr (.inl f_74))), (vmf, .inl (cy 0, 5632, .inl g_51))] := by rw [ef_74]; exact hD
            refine lv_aload_n hx hb dX11_layCell_105 rfl (lv_at hl 3 rfl) ?_
            refine gf_X11_136 hx hb hts hown hK hP 0 rfl rfl dX11_layCell_106 ?_
            refine lv_iload hx hb dX11_layCell_109 (lv_at hl 7 rfl) ?_
            refine lv_aload_n hx hb dX11_layCell_111 rfl (lv_at hl 3 rfl) ?_
            refine gf_X11_136 hx hb hts hown hK hP 0 rfl rfl dX11_layCell_112 ?_
            refine lv_iload hx hb dX11_layCell_115 (lv_at hl 7 rfl) ?_
            have hin_75 : vp_in vcc 5632 := vp_in_iff.mpr ⟨by omega, by omega⟩
            refine va_iald hx hb hK hP 3 0 rfl rfl hin_75 dX11_layCell_117 ?_
            refine lv_topi (fun z_76 ez_76 => ?_)
            have bz_76 := p_g_51.at hin_75 ez_76
            refine lv_aload_n hx hb dX11_layCell_118 rfl (lv_at hl 3 rfl) ?_
            refine gf_X11_136 hx hb hts hown hK hP 0 rfl rfl dX11_layCell_119 ?_
            refine lv_iload hx hb dX11_layCell_122 (lv_at hl 0 rfl) ?_
            have hin_77 : vp_in r_64 5632 := vp_in_iff.mpr ⟨by omega, by omega⟩
            refine va_iald hx hb hK hP 3 0 rfl rfl hin_77 dX11_layCell_124 ?_
            refine lv_topi (fun z_78 ez_78 => ?_)
            have bz_78 := p_g_51.at hin_77 ez_78
            refine lv_iload hx hb dX11_layCell_125 (lv_at hl 1 rfl) ?_
            refine lv_iadd hx hb dX11_layCell_127 ?_
            refine lv_topi (fun z_79 ez_79 => ?_)
            have bz_79 : z_79.toInt = z_78.toInt + x_49.toInt := i_add ez_79 (by omega) (by omega)
            refine jr_i (rSr (As := [.int z_76, .int z_79]) (rest := [.int vcc, .ref vmf]) ⟨hx, hb, hml, hown, hts⟩ (m_least l dC dI cy z_76 z_79 ) (cw_X11_288 hts rfl rfl ⟨Nat.le_of_ble_eq_true rfl, Nat.le_of_ble_eq_true rfl⟩) hP hK [] rfl rfl hl.1 rfl (Nat.le_of_ble_eq_true rfl) dX11_layCell_128 ⟨Nat.le_of_ble_eq_true rfl, Nat.le_of_ble_eq_true rfl⟩) hP hS (fun r_80 H locs hp_81 hP hS => ?_)
            have hp_81 : ((r_80 : Int32).toInt ≤ (z_76 : Int32).toInt) ∧ ((r_80 : Int32).toInt ≤ (z_79 : Int32).toInt) ∧ (((r_80 : Int32).toInt = (z_76 : Int32).toInt ∨ (r_80 : Int32).toInt = (z_79 : Int32).toInt)) := hp_81
            obtain ⟨q_82, q_83, q_84⟩ := hp_81
            have hin_85 : vp_in vcc 5632 := vp_in_iff.mpr ⟨by omega, by omega⟩
            refine va_iast hx hb hK hP hD hS 3 0 rfl rfl hin_85 dX11_layCell_131 (fun H locs hP hD hS => ?_)
            obtain ⟨f_86, ef_86⟩ : ∃ z : Nat → Int32, z = upd g_51 (Int32.toNatClampNeg vcc) r_80 := ⟨_, rfl⟩
            have hP : va_P (dC, dI) vwCl [(vo, .inr (12, [.int voth, .ref vmt, .int votp, .int vosz, .int volm, .int voto, .int vofr, .int vokd, .int vonu, .int vosg, .int vofa, .int vopl, .long vowd, .int votd, .ref vmn, .ref vmr, .ref vmk, .ref vms, .ref vma, .ref vmm, .ref vmrn, .ref vmkn, .ref vmik, .ref vmon, .int vosm, .int vohp, .ref vmw, .ref vmf, .ref vmb, .int vomb, .ref vmd, .ref vmc, .int vocm, .int voct, .int vocy, .ref vmx, .int votx, .int vose, .ref vml, .ref vmwr, .int voln, .int vohw, .ref vmno, .int vond, .int voon, .int vowi, .int votop])), (vmn, .inl (cy 0, 575, .inl vmnf)), (vmw, .inl (cy 1, 5632, .inr (.inl f_74))), (vmf, .inl (cy 0, 5632, .inl f_86))] H := by rw [ef_86]; exact hP
            have hD : va_D A [(vo, .inr (12, [.int voth, .ref vmt, .int votp, .int vosz, .int volm, .int voto, .int vofr, .int vokd, .int vonu, .int vosg, .int vofa, .int vopl, .long vowd, .int votd, .ref vmn, .ref vmr, .ref vmk, .ref vms, .ref vma, .ref vmm, .ref vmrn, .ref vmkn, .ref vmik, .ref vmon, .int vosm, .int vohp, .ref vmw, .ref vmf, .ref vmb, .int vomb, .ref vmd, .ref vmc, .int vocm, .int voct, .int vocy, .ref vmx, .int votx, .int vose, .ref vml, .ref vmwr, .int voln, .int vohw, .ref vmno, .int vond, .int voon, .int vowi, .int votop])), (vmn, .inl (cy 0, 575, .inl vmnf)), (vmw, .inl (cy 1, 5632, .inr (.inl f_74))), (vmf, .inl (cy 0, 5632, .inl f_86))] := by rw [ef_86]; exact hD
            have p_f_86 : Rg f_86 5632 0 100000 := by rw [ef_86]; exact p_g_51.upd ⟨by omega, by omega⟩
            obtain ⟨z_87, ez_87⟩ : ∃ z : Int32, z = x_49 + 1 := ⟨_, rfl⟩
            have bz_87 : z_87.toInt = x_49.toInt + (1 : Int32).toInt := i_add ez_87 (by omega) (by omega)
            refine lv_iinc (v := z_87) (lv' := [(6, .int z_87), (7, .int r_64), (5, .int 9), (0, .ref vo), (1, .int vd), (2, .int vcr), (3, .int vsu), (4, .int vcc)]) hx hb dX11_layCell_132 hl (k := 1) rfl ez_87.symm (by decide) rfl (fun ls hl => ?_)
            refine lv_goto (tgt := 42) hx hb dX11_layCell_135 (by decide) ?_
            exact ih48 z_87 f_74 f_86 ⟨by omega, by omega⟩ p_f_86 (ef_86 ▸ FQ.up v48_0) (Or.inr (ef_86 ▸ LI.step (d := vd) (cr := vcr.toInt) (su := vsu.toInt) v48_1 (by omega) ⟨by omega, by omega⟩ ⟨by omega, by omega⟩ ⟨by omega, by omega⟩ (i1 := z_53) (by omega) ez_55 ⟨by omega, by omega⟩ bz_62.2.2 ⟨by omega, by omega⟩ (nx := r_64) (by omega) ez_76 ez_78 (by omega) (b := z_79) (by omega) (by omega) (by omega) (by omega))) (suCl_s (p := z_56) (nx := r_64) v48_2 (by omega) (by omega) (by omega) (by rw [← hW]; exact su_cast bz_56.2.2 (by omega) (by omega)) (by omega) (by unfold suK; omega) (by unfold suK; omega) (by omega) ey_69 ey_71 ey_72 ef_74 (by omega)) (by omega) (by omega) _ _ (hP.sub [0, 1, 2, 3] rfl) (hD.sub [0, 1, 2, 3] rfl rfl) hS ls (lv_sub hl [0, 2, 3, 4, 5, 6, 7] rfl)
    have k_0 : (0 : Int32).toInt = 0 := by decide
    have k_9 : (9 : Int32).toInt = 9 := by decide
    exact loop48 ((10 - (0 : Int32).toInt).toNat + 1) 0 f_2 f_4 ⟨by omega, by omega⟩ p_f_4 (ef_4 ▸ FQ.up FQ.rf) (Or.inl ⟨by omega, by rw [ef_4, pk_us]; omega⟩) (suCl_0 (by unfold suK; omega) ef_2 (by omega)) (by omega) (by omega) _ _ hP hD hS ls (lv_sub hl [0, 1, 2, 3, 4, 5, 6] rfl)
abbrev O_s_layWays (cy : Nat → ClassId) (vnh : Nat → Int32) (vo : Nat) (voth : Int32) (vmt : Nat) (votp : Int32) (vosz : Int32) (volm : Int32) (voto : Int32) (vofr : Int32) (vokd : Int32) (vonu : Int32) (vosg : Int32) (vofa : Int32) (vopl : Int32) (vowd : Int64) (votd : Int32) (vmn : Nat) (vmr : Nat) (vmk : Nat) (vms : Nat) (vma : Nat) (vmm : Nat) (vmrn : Nat) (vmkn : Nat) (vmik : Nat) (vmon : Nat) (vosm : Int32) (vohp : Int32) (vmw : Nat) (vmf : Nat) (vmb : Nat) (vomb : Int32) (vmd : Nat) (vmc : Nat) (vocm : Int32) (voct : Int32) (vocy : Int32) (vmx : Nat) (votx : Int32) (vose : Int32) (vml : Nat) (vmwr : Nat) (voln : Int32) (vohw : Int32) (vmno : Nat) (vond : Int32) (voon : Int32) (vowi : Int32) (votop : Int32) (vmnf : Nat → Int32) (vmwf : Nat → Int64) (vmff : Nat → Int32) (u : (Nat → Int64) × (Nat → Int32)) : va_W := [(vo, .inr (12, [.int voth, .ref vmt, .int votp, .int vosz, .int volm, .int voto, .int vofr, .int vokd, .int vonu, .int vosg, .int vofa, .int vopl, .long vowd, .int votd, .ref vmn, .ref vmr, .ref vmk, .ref vms, .ref vma, .ref vmm, .ref vmrn, .ref vmkn, .ref vmik, .ref vmon, .int vosm, .int vohp, .ref vmw, .ref vmf, .ref vmb, .int vomb, .ref vmd, .ref vmc, .int vocm, .int voct, .int vocy, .ref vmx, .int votx, .int vose, .ref vml, .ref vmwr, .int voln, .int vohw, .ref vmno, .int vond, .int voon, .int vowi, .int votop])), (vmn, .inl (cy 0, 575, .inl vmnf)), (vmw, .inl (cy 1, 5632, .inr (.inl u.1))), (vmf, .inl (cy 0, 5632, .inl u.2))]
set_option maxHeartbeats 4000000 in
set_option maxRecDepth 100000 in
theorem s_layWays (l : Launch) (dC : Nat → ClassId) (dI : Nat → Nat → Nat) (cy : Nat → ClassId) (sz : Nat) (vnh : Nat → Int32) (vo : Nat) (voth : Int32) (vmt : Nat) (votp : Int32) (vosz : Int32) (volm : Int32) (voto : Int32) (vofr : Int32) (vokd : Int32) (vonu : Int32) (vosg : Int32) (vofa : Int32) (vopl : Int32) (vowd : Int64) (votd : Int32) (vmn : Nat) (vmr : Nat) (vmk : Nat) (vms : Nat) (vma : Nat) (vmm : Nat) (vmrn : Nat) (vmkn : Nat) (vmik : Nat) (vmon : Nat) (vosm : Int32) (vohp : Int32) (vmw : Nat) (vmf : Nat) (vmb : Nat) (vomb : Int32) (vmd : Nat) (vmc : Nat) (vocm : Int32) (voct : Int32) (vocy : Int32) (vmx : Nat) (votx : Int32) (vose : Int32) (vml : Nat) (vmwr : Nat) (voln : Int32) (vohw : Int32) (vmno : Nat) (vond : Int32) (voon : Int32) (vowi : Int32) (votop : Int32) (vmnf : Nat → Int32) (vmwf : Nat → Int64) (vmff : Nat → Int32) (p_vmnf : NW vnh vmnf) (p_vmff : Rg vmff 5632 0 100000) : Met l yX11_layWays (wl yX11_layWays cX11_layWays 5 none) ({ frames := 2, cells := 0, slots := 0, locals := 128 }) (Pw (dC, dI) vwCl cy [(vo, .inr (12, [.int voth, .ref vmt, .int votp, .int vosz, .int volm, .int voto, .int vofr, .int vokd, .int vonu, .int vosg, .int vofa, .int vopl, .long vowd, .int votd, .ref vmn, .ref vmr, .ref vmk, .ref vms, .ref vma, .ref vmm, .ref vmrn, .ref vmkn, .ref vmik, .ref vmon, .int vosm, .int vohp, .ref vmw, .ref vmf, .ref vmb, .int vomb, .ref vmd, .ref vmc, .int vocm, .int voct, .int vocy, .ref vmx, .int votx, .int vose, .ref vml, .ref vmwr, .int voln, .int vohw, .ref vmno, .int vond, .int voon, .int vowi, .int votop])), (vmn, .inl (cy 0, 575, .inl vmnf)), (vmw, .inl (cy 1, 5632, .inr (.inl vmwf))), (vmf, .inl (cy 0, 5632, .inl vmff))] sz [.ref vo] nE) (Qv (dC, dI) vwCl (fun (u : (Nat → Int64) × (Nat → Int32)) => (Rg u.2 5632 0 100000) ∧ (LWA u.2 vmnf) ∧ (∀ c s : Nat, c ≤ 1 → s ≤ 255 → u.1 (suK 0 c s) = su_C (suTm (fun e9 => vmnf (21 + e9)) (c : Int)) (suWt (fun e9 => vmnf (11 + e9))) (vmnf 1).toInt.toNat s)) (O_s_layWays cy vnh vo voth vmt votp vosz volm voto vofr vokd vonu vosg vofa vopl vowd votd vmn vmr vmk vms vma vmm vmrn vmkn vmik vmon vosm vohp vmw vmf vmb vomb vmd vmc vocm voct vocy vmx votx vose vml vmwr voln vohw vmno vond voon vowi votop vmnf vmwf vmff) (va_A [(vo, .inr (12, [.int voth, .ref vmt, .int votp, .int vosz, .int volm, .int voto, .int vofr, .int vokd, .int vonu, .int vosg, .int vofa, .int vopl, .long vowd, .int votd, .ref vmn, .ref vmr, .ref vmk, .ref vms, .ref vma, .ref vmm, .ref vmrn, .ref vmkn, .ref vmik, .ref vmon, .int vosm, .int vohp, .ref vmw, .ref vmf, .ref vmb, .int vomb, .ref vmd, .ref vmc, .int vocm, .int voct, .int vocy, .ref vmx, .int votx, .int vose, .ref vml, .ref vmwr, .int voln, .int vohw, .ref vmno, .int vond, .int voon, .int vowi, .int votop])), (vmn, .inl (cy 0, 575, .inl vmnf)), (vmw, .inl (cy 1, 5632, .inr (.inl vmwf))), (vmf, .inl (cy 0, 5632, .inl vmff))] sz)) 0 0 (va_A [(vo, .inr (12, [.int voth, .ref vmt, .int votp, .int vosz, .int volm, .int voto, .int vofr, .int vokd, .int vonu, .int vosg, .int vofa, .int vopl, .long vowd, .int votd, .ref vmn, .ref vmr, .ref vmk, .ref vms, .ref vma, .ref vmm, .ref vmrn, .ref vmkn, .ref vmik, .ref vmon, .int vosm, .int vohp, .ref vmw, .ref vmf, .ref vmb, .int vomb, .ref vmd, .ref vmc, .int vocm, .int voct, .int vocy, .ref vmx, .int votx, .int vose, .ref vml, .ref vmwr, .int voln, .int vohw, .ref vmno, .int vond, .int voon, .int vowi, .int votop])), (vmn, .inl (cy 0, 575, .inl vmnf)), (vmw, .inl (cy 1, 5632, .inr (.inl vmwf))), (vmf, .inl (cy 0, 5632, .inl vmff))] sz) := by
  refine mw (Qc := Qv (dC, dI) vwCl (fun (u : (Nat → Int64) × (Nat → Int32)) => (Rg u.2 5632 0 100000) ∧ (LWA u.2 vmnf) ∧ (∀ c s : Nat, c ≤ 1 → s ≤ 255 → u.1 (suK 0 c s) = su_C (suTm (fun e9 => vmnf (21 + e9)) (c : Int)) (suWt (fun e9 => vmnf (11 + e9))) (vmnf 1).toInt.toNat s)) (O_s_layWays cy vnh vo voth vmt votp vosz volm voto vofr vokd vonu vosg vofa vopl vowd votd vmn vmr vmk vms vma vmm vmrn vmkn vmik vmon vosm vohp vmw vmf vmb vomb vmd vmc vocm voct vocy vmx votx vose vml vmwr voln vohw vmno vond voon vowi votop vmnf vmwf vmff)) RX11 rfl (by decide +kernel) (Nat.le_of_ble_eq_true rfl) ?_
  intro p e s m below meth c A hx hb hr hlocks av9 hav hts hown hnm hml hK hP hD hA hS hE hAe Q9 hQ9 ls hl
  have hl : lv_has ls 5 [(0, .ref vo)] := hl
  refine lv_aload_n hx hb dX11_layWays_0 rfl (lv_at hl 0 rfl) ?_
  refine gf_X11_98 hx hb hts hown hK hP 0 rfl rfl dX11_layWays_1 ?_
  refine lv_iconst (v := 1) hx hb dX11_layWays_4 (by decide) ?_
  have k_1 : (1 : Int32).toInt = 1 := by decide
  have hin_1 : vp_in (1 : Int32) 575 := vp_in_iff.mpr ⟨by omega, by omega⟩
  refine va_iald hx hb hK hP 1 0 rfl rfl hin_1 dX11_layWays_5 ?_
  refine lv_topi (fun z_2 ez_2 => ?_)
  have bz_2 := p_vmnf.a1 (x := 1) ⟨by omega, by omega⟩ ez_2
  have tz_2 : z_2.toInt = (vmnf 1).toInt := by rw [ez_2]; rfl
  refine lv_istore_n (lv' := [(1, .int z_2), (0, .ref vo)]) hx hb dX11_layWays_6 rfl hl (by decide) rfl (fun ls hl => ?_)
  have loop3 : ∀ (n3 : Nat) (x_4 : Int32) (g_5 : Nat → Int64) (g_6 : Nat → Int32), (-1 ≤ x_4.toInt ∧ x_4.toInt ≤ 10) → Rg g_6 5632 0 100000 → (x_4.toInt ≤ (vmnf 1).toInt) → (LW g_6 vmnf (vmnf 1).toInt x_4.toInt (512 * x_4.toInt)) → (suOK g_5 (fun e9 => vmnf (11 + e9)) (fun e9 => vmnf (21 + e9)) (vmnf 1).toInt.toNat x_4.toInt (512 * x_4.toInt)) → x_4.toInt + 1 < (n3 : Int) → ∀ (H : Heap) (locs : List Loc), va_P (dC, dI) vwCl [(vo, .inr (12, [.int voth, .ref vmt, .int votp, .int vosz, .int volm, .int voto, .int vofr, .int vokd, .int vonu, .int vosg, .int vofa, .int vopl, .long vowd, .int votd, .ref vmn, .ref vmr, .ref vmk, .ref vms, .ref vma, .ref vmm, .ref vmrn, .ref vmkn, .ref vmik, .ref vmon, .int vosm, .int vohp, .ref vmw, .ref vmf, .ref vmb, .int vomb, .ref vmd, .ref vmc, .int vocm, .int voct, .int vocy, .ref vmx, .int votx, .int vose, .ref vml, .ref vmwr, .int voln, .int vohw, .ref vmno, .int vond, .int voon, .int vowi, .int votop])), (vmn, .inl (cy 0, 575, .inl vmnf)), (vmw, .inl (cy 1, 5632, .inr (.inl g_5))), (vmf, .inl (cy 0, 5632, .inl g_6))] H → va_D A [(vo, .inr (12, [.int voth, .ref vmt, .int votp, .int vosz, .int volm, .int voto, .int vofr, .int vokd, .int vonu, .int vosg, .int vofa, .int vopl, .long vowd, .int votd, .ref vmn, .ref vmr, .ref vmk, .ref vms, .ref vma, .ref vmm, .ref vmrn, .ref vmkn, .ref vmik, .ref vmon, .int vosm, .int vohp, .ref vmw, .ref vmf, .ref vmb, .int vomb, .ref vmd, .ref vmc, .int vocm, .int voct, .int vocy, .ref vmx, .int votx, .int vose, .ref vml, .ref vmwr, .int voln, .int vohw, .ref vmno, .int vond, .int voon, .int vowi, .int votop])), (vmn, .inl (cy 0, 575, .inl vmnf)), (vmw, .inl (cy 1, 5632, .inr (.inl g_5))), (vmf, .inl (cy 0, 5632, .inl g_6))] → va_S A s.heap H locs → ∀ ls : Array Slot, lv_has ls 5 [(1, .int x_4), (0, .ref vo)] → W p l e ({ frames := 2, cells := 0, slots := 0, locals := 128 }) s m av9 below meth c H locs 0 0 Q9 (F0 m 7 ls []) := by
    intro n3
    induction n3 with
    | zero =>
      intro x_4 g_5 g_6 bx_4 p_g_6 v3_0 v3_1 v3_2 hn3 H locs hP hD hS ls hl
      exfalso; omega
    | succ n3 ih3 =>
      intro x_4 g_5 g_6 bx_4 p_g_6 v3_0 v3_1 v3_2 hn3 H locs hP hD hS ls hl
      refine lv_iload_n hx hb dX11_layWays_7 rfl (lv_at hl 0 rfl) ?_
      have k_0 : (0 : Int32).toInt = 0 := by decide
      refine lv_if_lt (tgt := 109) hx hb dX11_layWays_8 (by decide) (fun c_7 => ?_) (fun c_7 => ?_)
      · skip
        have c_7 : x_4.toInt < (0 : Int32).toInt := i_lt.mp c_7
        rw [hQ9]
        exact re_v (g_5, g_6) hx hb hr hlocks ⟨(show Rg g_6 5632 0 100000 from p_g_6), (show LWA g_6 vmnf from (LW.all v3_1 (by omega) rfl)), (show ∀ c s : Nat, c ≤ 1 → s ≤ 255 → g_5 (suK 0 c s) = su_C (suTm (fun e9 => vmnf (21 + e9)) (c : Int)) (suWt (fun e9 => vmnf (11 + e9))) (vmnf 1).toInt.toNat s from (suOK_all v3_2 (by omega)))⟩ (hP.sub [0, 1, 2, 3] rfl) (hD.sub [0, 1, 2, 3] rfl rfl) hS dX11_layWays_109
      · skip
        have c_7 : ¬ (x_4.toInt < (0 : Int32).toInt) := fun h9 => c_7 (i_lt.mpr h9)
        refine lv_iconst (v := 0) hx hb dX11_layWays_11 (by decide) ?_
        refine lv_istore_n (lv' := [(2, .int 0), (1, .int x_4), (0, .ref vo)]) hx hb dX11_layWays_12 rfl hl (by decide) rfl (fun ls hl => ?_)
        have loop8 : ∀ (n8 : Nat) (x_9 : Int32) (g_10 : Nat → Int64) (g_11 : Nat → Int32), (0 ≤ x_9.toInt ∧ x_9.toInt ≤ 2) → Rg g_11 5632 0 100000 → (0 ≤ 0) → (LW g_11 vmnf (vmnf 1).toInt x_4.toInt (512 * x_4.toInt + 256 * x_9.toInt)) → (suOK g_10 (fun e9 => vmnf (11 + e9)) (fun e9 => vmnf (21 + e9)) (vmnf 1).toInt.toNat x_4.toInt (512 * x_4.toInt + 256 * x_9.toInt)) → 2 - x_9.toInt < (n8 : Int) → ∀ (H : Heap) (locs : List Loc), va_P (dC, dI) vwCl [(vo, .inr (12, [.int voth, .ref vmt, .int votp, .int vosz, .int volm, .int voto, .int vofr, .int vokd, .int vonu, .int vosg, .int vofa, .int vopl, .long vowd, .int votd, .ref vmn, .ref vmr, .ref vmk, .ref vms, .ref vma, .ref vmm, .ref vmrn, .ref vmkn, .ref vmik, .ref vmon, .int vosm, .int vohp, .ref vmw, .ref vmf, .ref vmb, .int vomb, .ref vmd, .ref vmc, .int vocm, .int voct, .int vocy, .ref vmx, .int votx, .int vose, .ref vml, .ref vmwr, .int voln, .int vohw, .ref vmno, .int vond, .int voon, .int vowi, .int votop])), (vmn, .inl (cy 0, 575, .inl vmnf)), (vmw, .inl (cy 1, 5632, .inr (.inl g_10))), (vmf, .inl (cy 0, 5632, .inl g_11))] H → va_D A [(vo, .inr (12, [.int voth, .ref vmt, .int votp, .int vosz, .int volm, .int voto, .int vofr, .int vokd, .int vonu, .int vosg, .int vofa, .int vopl, .long vowd, .int votd, .ref vmn, .ref vmr, .ref vmk, .ref vms, .ref vma, .ref vmm, .ref vmrn, .ref vmkn, .ref vmik, .ref vmon, .int vosm, .int vohp, .ref vmw, .ref vmf, .ref vmb, .int vomb, .ref vmd, .ref vmc, .int vocm, .int voct, .int vocy, .ref vmx, .int votx, .int vose, .ref vml, .ref vmwr, .int voln, .int vohw, .ref vmno, .int vond, .int voon, .int vowi, .int votop])), (vmn, .inl (cy 0, 575, .inl vmnf)), (vmw, .inl (cy 1, 5632, .inr (.inl g_10))), (vmf, .inl (cy 0, 5632, .inl g_11))] → va_S A s.heap H locs → ∀ ls : Array Slot, lv_has ls 5 [(2, .int x_9), (1, .int x_4), (0, .ref vo)] → W p l e ({ frames := 2, cells := 0, slots := 0, locals := 128 }) s m av9 below meth c H locs 0 0 Q9 (F0 m 13 ls []) := by
          intro n8
          induction n8 with
          | zero =>
            intro x_9 g_10 g_11 bx_9 p_g_11 v8_0 v8_1 v8_2 hn8 H locs hP hD hS ls hl
            exfalso; omega
          | succ n8 ih8 =>
            intro x_9 g_10 g_11 bx_9 p_g_11 v8_0 v8_1 v8_2 hn8 H locs hP hD hS ls hl
            refine lv_iload_n hx hb dX11_layWays_13 rfl (lv_at hl 0 rfl) ?_
            refine lv_iconst (v := 2) hx hb dX11_layWays_14 (by decide) ?_
            have k_2 : (2 : Int32).toInt = 2 := by decide
            refine lv_icmp_ge (tgt := 103) hx hb dX11_layWays_15 (by decide) (fun c_12 => ?_) (fun c_12 => ?_)
            · skip
              have c_12 : (2 : Int32).toInt ≤ x_9.toInt := i_le.mp c_12
              obtain ⟨z_13, ez_13⟩ : ∃ z : Int32, z = x_4 + (-1) := ⟨_, rfl⟩
              have k_m1 : ((-1) : Int32).toInt = (-1) := by decide
              have bz_13 : z_13.toInt = x_4.toInt + ((-1) : Int32).toInt := i_add ez_13 (by omega) (by omega)
              refine lv_iinc (v := z_13) (lv' := [(1, .int z_13), (2, .int x_9), (0, .ref vo)]) hx hb dX11_layWays_103 hl (k := 1) rfl ez_13.symm (by decide) rfl (fun ls hl => ?_)
              refine lv_goto (tgt := 7) hx hb dX11_layWays_106 (by decide) ?_
              exact ih3 z_13 g_10 g_11 ⟨by omega, by omega⟩ p_g_11 (by omega) (LW.down v8_1 (by omega) (by omega) (by omega)) (suOK_down v8_2 (by omega) (by omega) (by omega)) (by omega) _ _ (hP.sub [0, 1, 2, 3] rfl) (hD.sub [0, 1, 2, 3] rfl rfl) hS ls (lv_sub hl [0, 2] rfl)
            · skip
              have c_12 : ¬ ((2 : Int32).toInt ≤ x_9.toInt) := fun h9 => c_12 (i_le.mpr h9)
              refine lv_iconst (v := 0) hx hb dX11_layWays_18 (by decide) ?_
              refine lv_istore_n (lv' := [(3, .int 0), (2, .int x_9), (1, .int x_4), (0, .ref vo)]) hx hb dX11_layWays_19 rfl hl (by decide) rfl (fun ls hl => ?_)
              have loop14 : ∀ (n14 : Nat) (x_15 : Int32) (g_16 : Nat → Int64) (g_17 : Nat → Int32), (0 ≤ x_15.toInt ∧ x_15.toInt ≤ 256) → Rg g_17 5632 0 100000 → (0 ≤ 0) → (LW g_17 vmnf (vmnf 1).toInt x_4.toInt (512 * x_4.toInt + 256 * x_9.toInt + x_15.toInt)) → (suOK g_16 (fun e9 => vmnf (11 + e9)) (fun e9 => vmnf (21 + e9)) (vmnf 1).toInt.toNat x_4.toInt (512 * x_4.toInt + 256 * x_9.toInt + x_15.toInt)) → 256 - x_15.toInt < (n14 : Int) → ∀ (H : Heap) (locs : List Loc), va_P (dC, dI) vwCl [(vo, .inr (12, [.int voth, .ref vmt, .int votp, .int vosz, .int volm, .int voto, .int vofr, .int vokd, .int vonu, .int vosg, .int vofa, .int vopl, .long vowd, .int votd, .ref vmn, .ref vmr, .ref vmk, .ref vms, .ref vma, .ref vmm, .ref vmrn, .ref vmkn, .ref vmik, .ref vmon, .int vosm, .int vohp, .ref vmw, .ref vmf, .ref vmb, .int vomb, .ref vmd, .ref vmc, .int vocm, .int voct, .int vocy, .ref vmx, .int votx, .int vose, .ref vml, .ref vmwr, .int voln, .int vohw, .ref vmno, .int vond, .int voon, .int vowi, .int votop])), (vmn, .inl (cy 0, 575, .inl vmnf)), (vmw, .inl (cy 1, 5632, .inr (.inl g_16))), (vmf, .inl (cy 0, 5632, .inl g_17))] H → va_D A [(vo, .inr (12, [.int voth, .ref vmt, .int votp, .int vosz, .int volm, .int voto, .int vofr, .int vokd, .int vonu, .int vosg, .int vofa, .int vopl, .long vowd, .int votd, .ref vmn, .ref vmr, .ref vmk, .ref vms, .ref vma, .ref vmm, .ref vmrn, .ref vmkn, .ref vmik, .ref vmon, .int vosm, .int vohp, .ref vmw, .ref vmf, .ref vmb, .int vomb, .ref vmd, .ref vmc, .int vocm, .int voct, .int vocy, .ref vmx, .int votx, .int vose, .ref vml, .ref vmwr, .int voln, .int vohw, .ref vmno, .int vond, .int voon, .int vowi, .int votop])), (vmn, .inl (cy 0, 575, .inl vmnf)), (vmw, .inl (cy 1, 5632, .inr (.inl g_16))), (vmf, .inl (cy 0, 5632, .inl g_17))] → va_S A s.heap H locs → ∀ ls : Array Slot, lv_has ls 5 [(3, .int x_15), (2, .int x_9), (1, .int x_4), (0, .ref vo)] → W p l e ({ frames := 2, cells := 0, slots := 0, locals := 128 }) s m av9 below meth c H locs 0 0 Q9 (F0 m 20 ls []) := by
                intro n14
                induction n14 with
                | zero =>
                  intro x_15 g_16 g_17 bx_15 p_g_17 v14_0 v14_1 v14_2 hn14 H locs hP hD hS ls hl
                  exfalso; omega
                | succ n14 ih14 =>
                  intro x_15 g_16 g_17 bx_15 p_g_17 v14_0 v14_1 v14_2 hn14 H locs hP hD hS ls hl
                  refine lv_iload_n hx hb dX11_layWays_20 rfl (lv_at hl 0 rfl) ?_
                  refine lv_sipush (v := 256) hx hb dX11_layWays_21 (by decide) ?_
                  have k_256 : (256 : Int32).toInt = 256 := by decide
                  refine lv_icmp_ge (tgt := 97) hx hb dX11_layWays_24 (by decide) (fun c_18 => ?_) (fun c_18 => ?_)
                  · skip
                    have c_18 : (256 : Int32).toInt ≤ x_15.toInt := i_le.mp c_18
                    obtain ⟨z_19, ez_19⟩ : ∃ z : Int32, z = x_9 + 1 := ⟨_, rfl⟩
                    have bz_19 : z_19.toInt = x_9.toInt + (1 : Int32).toInt := i_add ez_19 (by omega) (by omega)
                    refine lv_iinc (v := z_19) (lv' := [(2, .int z_19), (3, .int x_15), (1, .int x_4), (0, .ref vo)]) hx hb dX11_layWays_97 hl (k := 1) rfl ez_19.symm (by decide) rfl (fun ls hl => ?_)
                    refine lv_goto (tgt := 13) hx hb dX11_layWays_100 (by decide) ?_
                    exact ih8 z_19 g_16 g_17 ⟨by omega, by omega⟩ p_g_17 v14_0 (LW.mono v14_1 (by omega)) (suOK_mono v14_2 (by omega)) (by omega) _ _ (hP.sub [0, 1, 2, 3] rfl) (hD.sub [0, 1, 2, 3] rfl rfl) hS ls (lv_sub hl [0, 2, 3] rfl)
                  · skip
                    have c_18 : ¬ ((256 : Int32).toInt ≤ x_15.toInt) := fun h9 => c_18 (i_le.mpr h9)
                    refine lv_iload_n hx hb dX11_layWays_27 rfl (lv_at hl 2 rfl) ?_
                    refine lv_iload_n hx hb dX11_layWays_28 rfl (lv_at hl 1 rfl) ?_
                    refine lv_iload_n hx hb dX11_layWays_29 rfl (lv_at hl 0 rfl) ?_
                    refine jr_i (rSr (As := [.int x_4, .int x_9, .int x_15]) (rest := []) ⟨hx, hb, hml, hown, hts⟩ (m_cellOf l dC dI cy x_4 x_9 x_15 ⟨by omega, by omega⟩ ⟨by omega, by omega⟩ ⟨by omega, by omega⟩) (cw_X11_306 hts rfl rfl ⟨Nat.le_of_ble_eq_true rfl, Nat.le_of_ble_eq_true rfl⟩) hP hK [] rfl rfl hl.1 rfl (Nat.le_of_ble_eq_true rfl) dX11_layWays_30 ⟨Nat.le_of_ble_eq_true rfl, Nat.le_of_ble_eq_true rfl⟩) hP hS (fun r_20 H locs hp_21 hP hS => ?_)
                    have hp_21 : (0 ≤ (r_20 : Int32).toInt ∧ (r_20 : Int32).toInt ≤ 5631) ∧ ((r_20 : Int32).toInt = 512 * (x_4 : Int32).toInt + 256 * (x_9 : Int32).toInt + (x_15 : Int32).toInt) := hp_21
                    obtain ⟨q_22, q_23⟩ := hp_21
                    refine lv_istore (lv' := [(4, .int r_20), (3, .int x_15), (2, .int x_9), (1, .int x_4), (0, .ref vo)]) hx hb dX11_layWays_33 hl (by decide) rfl (fun ls hl => ?_)
                    refine lv_iload_n hx hb dX11_layWays_35 rfl (lv_at hl 3 rfl) ?_
                    refine lv_aload_n hx hb dX11_layWays_36 rfl (lv_at hl 4 rfl) ?_
                    refine gf_X11_98 hx hb hts hown hK hP 0 rfl rfl dX11_layWays_37 ?_
                    refine lv_iconst (v := 1) hx hb dX11_layWays_40 (by decide) ?_
                    have hin_24 : vp_in (1 : Int32) 575 := vp_in_iff.mpr ⟨by omega, by omega⟩
                    refine va_iald hx hb hK hP 1 0 rfl rfl hin_24 dX11_layWays_41 ?_
                    refine lv_topi (fun z_25 ez_25 => ?_)
                    have bz_25 := p_vmnf.a1 (x := 1) ⟨by omega, by omega⟩ ez_25
                    have tz_25 : z_25.toInt = (vmnf 1).toInt := by rw [ez_25]; rfl
                    refine lv_icmp_ne (tgt := 82) hx hb dX11_layWays_42 (by decide) (fun c_26 => ?_) (fun c_26 => ?_)
                    · skip
                      have c_26 : ¬ (x_4.toInt = z_25.toInt) := fun h9 => c_26 (i_eq.mpr h9)
                      refine lv_aload_n hx hb dX11_layWays_82 rfl (lv_at hl 4 rfl) ?_
                      refine lv_iload_n hx hb dX11_layWays_83 rfl (lv_at hl 3 rfl) ?_
                      refine lv_iload_n hx hb dX11_layWays_84 rfl (lv_at hl 2 rfl) ?_
                      refine lv_iload_n hx hb dX11_layWays_85 rfl (lv_at hl 1 rfl) ?_
                      refine lv_iload hx hb dX11_layWays_86 (lv_at hl 0 rfl) ?_
                      refine jn_v (wr := []) (rV (As := [.int x_4, .int x_9, .int x_15, .int r_20]) (rest := []) (ci := 12) ⟨hx, hb, hml, hown, hts⟩ (s_layCell l dC dI cy _ vnh vo voth vmt votp vosz volm voto vofr vokd vonu vosg vofa vopl vowd votd vmn vmr vmk vms vma vmm vmrn vmkn vmik vmon vosm vohp vmw vmf vmb vomb vmd vmc vocm voct vocy vmx votx vose vml vmwr voln vohw vmno vond voon vowi votop vmnf g_16 g_17 x_4 x_9 x_15 r_20 ⟨by omega, by omega⟩ ⟨by omega, by omega⟩ ⟨by omega, by omega⟩ ⟨by omega, by omega⟩ p_vmnf p_g_17 q_23) (cw_X11_311 hts rfl rfl ⟨Nat.le_of_ble_eq_true rfl, Nat.le_of_ble_eq_true rfl⟩) hP hD hK [0, 1, 2, 3] rfl rfl rfl rfl bl0 e0 rfl hl.1 rfl (Nat.le_of_ble_eq_true rfl) dX11_layWays_88 ⟨Nat.le_of_ble_eq_true rfl, Nat.le_of_ble_eq_true rfl⟩) hP hD hS hA [0, 1, 2, 3] [] rfl rfl rfl (by decide) (fun u_29 H locs hp_28 hP hD hS => ?_)
                      obtain ⟨vmwf_30, vmff_31⟩ := u_29
                      have hp_28 : (Rg vmff_31 5632 0 100000) ∧ (FQ g_17 vmff_31 (Int32.toNatClampNeg r_20)) ∧ (AE vmff_31 vmnf (Int32.toNatClampNeg r_20)) ∧ (∀ j : Nat, j ≠ suK (x_4 : Int32).toInt.toNat (x_9 : Int32).toInt.toNat (x_15 : Int32).toInt.toNat → vmwf_30 j = g_16 j) ∧ (vmwf_30 (suK (x_4 : Int32).toInt.toNat (x_9 : Int32).toInt.toNat (x_15 : Int32).toInt.toNat) = su_W (suTm (fun e9 => vmnf (21 + e9)) (x_9 : Int32).toInt (x_4 : Int32).toInt.toNat) (suWt (fun e9 => vmnf (11 + e9)) (x_4 : Int32).toInt.toNat) (suF g_16 ((x_4 : Int32).toInt.toNat + 1) (x_9 : Int32).toInt.toNat) (x_15 : Int32).toInt.toNat) := hp_28
                      obtain ⟨q_32, q_33, q_34, q_35, q_36⟩ := hp_28
                      have hP : va_P (dC, dI) vwCl [(vo, .inr (12, [.int voth, .ref vmt, .int votp, .int vosz, .int volm, .int voto, .int vofr, .int vokd, .int vonu, .int vosg, .int vofa, .int vopl, .long vowd, .int votd, .ref vmn, .ref vmr, .ref vmk, .ref vms, .ref vma, .ref vmm, .ref vmrn, .ref vmkn, .ref vmik, .ref vmon, .int vosm, .int vohp, .ref vmw, .ref vmf, .ref vmb, .int vomb, .ref vmd, .ref vmc, .int vocm, .int voct, .int vocy, .ref vmx, .int votx, .int vose, .ref vml, .ref vmwr, .int voln, .int vohw, .ref vmno, .int vond, .int voon, .int vowi, .int votop])), (vmn, .inl (cy 0, 575, .inl vmnf)), (vmw, .inl (cy 1, 5632, .inr (.inl vmwf_30))), (vmf, .inl (cy 0, 5632, .inl vmff_31))] H := hP
                      have hD : va_D A [(vo, .inr (12, [.int voth, .ref vmt, .int votp, .int vosz, .int volm, .int voto, .int vofr, .int vokd, .int vonu, .int vosg, .int vofa, .int vopl, .long vowd, .int votd, .ref vmn, .ref vmr, .ref vmk, .ref vms, .ref vma, .ref vmm, .ref vmrn, .ref vmkn, .ref vmik, .ref vmon, .int vosm, .int vohp, .ref vmw, .ref vmf, .ref vmb, .int vomb, .ref vmd, .ref vmc, .int vocm, .int voct, .int vocy, .ref vmx, .int votx, .int vose, .ref vml, .ref vmwr, .int voln, .int vohw, .ref vmno, .int vond, .int voon, .int vowi, .int votop])), (vmn, .inl (cy 0, 575, .inl vmnf)), (vmw, .inl (cy 1, 5632, .inr (.inl vmwf_30))), (vmf, .inl (cy 0, 5632, .inl vmff_31))] := hD
                      obtain ⟨z_37, ez_37⟩ : ∃ z : Int32, z = x_15 + 1 := ⟨_, rfl⟩
                      have bz_37 : z_37.toInt = x_15.toInt + (1 : Int32).toInt := i_add ez_37 (by omega) (by omega)
                      refine lv_iinc (v := z_37) (lv' := [(3, .int z_37), (4, .int r_20), (2, .int x_9), (1, .int x_4), (0, .ref vo)]) hx hb dX11_layWays_91 hl (k := 1) rfl ez_37.symm (by decide) rfl (fun ls hl => ?_)
                      refine lv_goto (tgt := 20) hx hb dX11_layWays_94 (by decide) ?_
                      exact ih14 z_37 vmwf_30 vmff_31 ⟨by omega, by omega⟩ q_32 v14_0 (LW.next v14_1 (k := r_20) (by omega) ⟨by omega, by omega⟩ (by omega) q_33 q_34 (by omega)) (suOK_next (d := (x_4.toInt).toNat) (c := (x_9.toInt).toNat) (s := (x_15.toInt).toNat) v14_2 (by omega) (by unfold suK; omega) (by omega) (by omega) (by omega) (by omega) q_35 (Or.inr ⟨by omega, by rw [show (((x_9.toInt).toNat : Nat) : Int) = x_9.toInt by omega]; exact q_36⟩)) (by omega) _ _ (hP.sub [0, 1, 2, 3] rfl) (hD.sub [0, 1, 2, 3] rfl rfl) hS ls (lv_sub hl [0, 2, 3, 4] rfl)
                    · skip
                      have c_26 : x_4.toInt = z_25.toInt := i_eq.mp c_26
                      refine lv_aload_n hx hb dX11_layWays_45 rfl (lv_at hl 4 rfl) ?_
                      refine gf_X11_133 hx hb hts hown hK hP 0 rfl rfl dX11_layWays_46 ?_
                      refine lv_iload hx hb dX11_layWays_49 (lv_at hl 0 rfl) ?_
                      refine lv_iload_n hx hb dX11_layWays_51 rfl (lv_at hl 1 rfl) ?_
                      refine lv_if_ne (tgt := 59) hx hb dX11_layWays_52 (by decide) (fun c_38 => ?_) (fun c_38 => ?_)
                      · skip
                        have c_38 : ¬ (x_15.toInt = (0 : Int32).toInt) := fun h9 => c_38 (i_eq.mpr h9)
                        refine lv_lconst (v := 0) hx hb dX11_layWays_59 (by decide) ?_
                        have hin_39 : vp_in r_20 5632 := vp_in_iff.mpr ⟨by omega, by omega⟩
                        refine va_last hx hb hK hP hD hS 2 1 rfl rfl hin_39 dX11_layWays_60 (fun H locs hP hD hS => ?_)
                        obtain ⟨f_40, ef_40⟩ : ∃ z : Nat → Int64, z = vp_updL g_16 (Int32.toNatClampNeg r_20) 0 := ⟨_, rfl⟩
                        have hP : va_P (dC, dI) vwCl [(vo, .inr (12, [.int voth, .ref vmt, .int votp, .int vosz, .int volm, .int voto, .int vofr, .int vokd, .int vonu, .int vosg, .int vofa, .int vopl, .long vowd, .int votd, .ref vmn, .ref vmr, .ref vmk, .ref vms, .ref vma, .ref vmm, .ref vmrn, .ref vmkn, .ref vmik, .ref vmon, .int vosm, .int vohp, .ref vmw, .ref vmf, .ref vmb, .int vomb, .ref vmd, .ref vmc, .int vocm, .int voct, .int vocy, .ref vmx, .int votx, .int vose, .ref vml, .ref vmwr, .int voln, .int vohw, .ref vmno, .int vond, .int voon, .int vowi, .int votop])), (vmn, .inl (cy 0, 575, .inl vmnf)), (vmw, .inl (cy 1, 5632, .inr (.inl f_40))), (vmf, .inl (cy 0, 5632, .inl g_17))] H := by rw [ef_40]; exact hP
                        have hD : va_D A [(vo, .inr (12, [.int voth, .ref vmt, .int votp, .int vosz, .int volm, .int voto, .int vofr, .int vokd, .int vonu, .int vosg, .int vofa, .int vopl, .long vowd, .int votd, .ref vmn, .ref vmr, .ref vmk, .ref vms, .ref vma, .ref vmm, .ref vmrn, .ref vmkn, .ref vmik, .ref vmon, .int vosm, .int vohp, .ref vmw, .ref vmf, .ref vmb, .int vomb, .ref vmd, .ref vmc, .int vocm, .int voct, .int vocy, .ref vmx, .int votx, .int vose, .ref vml, .ref vmwr, .int voln, .int vohw, .ref vmno, .int vond, .int voon, .int vowi, .int votop])), (vmn, .inl (cy 0, 575, .inl vmnf)), (vmw, .inl (cy 1, 5632, .inr (.inl f_40))), (vmf, .inl (cy 0, 5632, .inl g_17))] := by rw [ef_40]; exact hD
                        refine lv_aload_n hx hb dX11_layWays_61 rfl (lv_at hl 4 rfl) ?_
                        refine gf_X11_136 hx hb hts hown hK hP 0 rfl rfl dX11_layWays_62 ?_
                        refine lv_iload hx hb dX11_layWays_65 (lv_at hl 0 rfl) ?_
                        refine lv_iload_n hx hb dX11_layWays_67 rfl (lv_at hl 1 rfl) ?_
                        refine lv_if_ne (tgt := 75) hx hb dX11_layWays_68 (by decide) (fun _ => ?_) (fun c9 => absurd (i_eq.mp c9) (by omega))
                        refine lv_ldcw hx hb hown (hts _ t1893) dX11_layWays_75 ?_
                        have hin_41 : vp_in r_20 5632 := vp_in_iff.mpr ⟨by omega, by omega⟩
                        refine va_iast hx hb hK hP hD hS 3 0 rfl rfl hin_41 dX11_layWays_78 (fun H locs hP hD hS => ?_)
                        obtain ⟨f_42, ef_42⟩ : ∃ z : Nat → Int32, z = upd g_17 (Int32.toNatClampNeg r_20) 100000 := ⟨_, rfl⟩
                        have hP : va_P (dC, dI) vwCl [(vo, .inr (12, [.int voth, .ref vmt, .int votp, .int vosz, .int volm, .int voto, .int vofr, .int vokd, .int vonu, .int vosg, .int vofa, .int vopl, .long vowd, .int votd, .ref vmn, .ref vmr, .ref vmk, .ref vms, .ref vma, .ref vmm, .ref vmrn, .ref vmkn, .ref vmik, .ref vmon, .int vosm, .int vohp, .ref vmw, .ref vmf, .ref vmb, .int vomb, .ref vmd, .ref vmc, .int vocm, .int voct, .int vocy, .ref vmx, .int votx, .int vose, .ref vml, .ref vmwr, .int voln, .int vohw, .ref vmno, .int vond, .int voon, .int vowi, .int votop])), (vmn, .inl (cy 0, 575, .inl vmnf)), (vmw, .inl (cy 1, 5632, .inr (.inl f_40))), (vmf, .inl (cy 0, 5632, .inl f_42))] H := by rw [ef_42]; exact hP
                        have hD : va_D A [(vo, .inr (12, [.int voth, .ref vmt, .int votp, .int vosz, .int volm, .int voto, .int vofr, .int vokd, .int vonu, .int vosg, .int vofa, .int vopl, .long vowd, .int votd, .ref vmn, .ref vmr, .ref vmk, .ref vms, .ref vma, .ref vmm, .ref vmrn, .ref vmkn, .ref vmik, .ref vmon, .int vosm, .int vohp, .ref vmw, .ref vmf, .ref vmb, .int vomb, .ref vmd, .ref vmc, .int vocm, .int voct, .int vocy, .ref vmx, .int votx, .int vose, .ref vml, .ref vmwr, .int voln, .int vohw, .ref vmno, .int vond, .int voon, .int vowi, .int votop])), (vmn, .inl (cy 0, 575, .inl vmnf)), (vmw, .inl (cy 1, 5632, .inr (.inl f_40))), (vmf, .inl (cy 0, 5632, .inl f_42))] := by rw [ef_42]; exact hD
                        have k_100000 : (100000 : Int32).toInt = 100000 := by decide
                        have p_f_42 : Rg f_42 5632 0 100000 := by rw [ef_42]; exact p_g_17.upd ⟨by omega, by omega⟩
                        refine lv_goto (tgt := 91) hx hb dX11_layWays_79 (by decide) ?_
                        obtain ⟨z_43, ez_43⟩ : ∃ z : Int32, z = x_15 + 1 := ⟨_, rfl⟩
                        have bz_43 : z_43.toInt = x_15.toInt + (1 : Int32).toInt := i_add ez_43 (by omega) (by omega)
                        refine lv_iinc (v := z_43) (lv' := [(3, .int z_43), (4, .int r_20), (2, .int x_9), (1, .int x_4), (0, .ref vo)]) hx hb dX11_layWays_91 hl (k := 1) rfl ez_43.symm (by decide) rfl (fun ls hl => ?_)
                        refine lv_goto (tgt := 20) hx hb dX11_layWays_94 (by decide) ?_
                        exact ih14 z_43 f_40 f_42 ⟨by omega, by omega⟩ p_f_42 v14_0 (LW.base (by omega)) (suOK_put (d := (x_4.toInt).toNat) (c := (x_9.toInt).toNat) (s := (x_15.toInt).toNat) v14_2 (by omega) (by unfold suK; omega) (by omega) (by omega) (by omega) (by omega) (by unfold suK; omega) ef_40 (if_neg (by omega)).symm) (by omega) _ _ (hP.sub [0, 1, 2, 3] rfl) (hD.sub [0, 1, 2, 3] rfl rfl) hS ls (lv_sub hl [0, 2, 3, 4] rfl)
                      · skip
                        have c_38 : x_15.toInt = (0 : Int32).toInt := i_eq.mp c_38
                        refine lv_lconst (v := 1) hx hb dX11_layWays_55 (by decide) ?_
                        refine lv_goto (tgt := 60) hx hb dX11_layWays_56 (by decide) ?_
                        have hin_44 : vp_in r_20 5632 := vp_in_iff.mpr ⟨by omega, by omega⟩
                        refine va_last hx hb hK hP hD hS 2 1 rfl rfl hin_44 dX11_layWays_60 (fun H locs hP hD hS => ?_)
                        obtain ⟨f_45, ef_45⟩ : ∃ z : Nat → Int64, z = vp_updL g_16 (Int32.toNatClampNeg r_20) 1 := ⟨_, rfl⟩
                        have hP : va_P (dC, dI) vwCl [(vo, .inr (12, [.int voth, .ref vmt, .int votp, .int vosz, .int volm, .int voto, .int vofr, .int vokd, .int vonu, .int vosg, .int vofa, .int vopl, .long vowd, .int votd, .ref vmn, .ref vmr, .ref vmk, .ref vms, .ref vma, .ref vmm, .ref vmrn, .ref vmkn, .ref vmik, .ref vmon, .int vosm, .int vohp, .ref vmw, .ref vmf, .ref vmb, .int vomb, .ref vmd, .ref vmc, .int vocm, .int voct, .int vocy, .ref vmx, .int votx, .int vose, .ref vml, .ref vmwr, .int voln, .int vohw, .ref vmno, .int vond, .int voon, .int vowi, .int votop])), (vmn, .inl (cy 0, 575, .inl vmnf)), (vmw, .inl (cy 1, 5632, .inr (.inl f_45))), (vmf, .inl (cy 0, 5632, .inl g_17))] H := by rw [ef_45]; exact hP
                        have hD : va_D A [(vo, .inr (12, [.int voth, .ref vmt, .int votp, .int vosz, .int volm, .int voto, .int vofr, .int vokd, .int vonu, .int vosg, .int vofa, .int vopl, .long vowd, .int votd, .ref vmn, .ref vmr, .ref vmk, .ref vms, .ref vma, .ref vmm, .ref vmrn, .ref vmkn, .ref vmik, .ref vmon, .int vosm, .int vohp, .ref vmw, .ref vmf, .ref vmb, .int vomb, .ref vmd, .ref vmc, .int vocm, .int voct, .int vocy, .ref vmx, .int votx, .int vose, .ref vml, .ref vmwr, .int voln, .int vohw, .ref vmno, .int vond, .int voon, .int vowi, .int votop])), (vmn, .inl (cy 0, 575, .inl vmnf)), (vmw, .inl (cy 1, 5632, .inr (.inl f_45))), (vmf, .inl (cy 0, 5632, .inl g_17))] := by rw [ef_45]; exact hD
                        refine lv_aload_n hx hb dX11_layWays_61 rfl (lv_at hl 4 rfl) ?_
                        refine gf_X11_136 hx hb hts hown hK hP 0 rfl rfl dX11_layWays_62 ?_
                        refine lv_iload hx hb dX11_layWays_65 (lv_at hl 0 rfl) ?_
                        refine lv_iload_n hx hb dX11_layWays_67 rfl (lv_at hl 1 rfl) ?_
                        refine lv_if_ne (tgt := 75) hx hb dX11_layWays_68 (by decide) (fun c9 => (c9 (i_eq.mpr (by omega))).elim) (fun _ => ?_)
                        refine lv_iconst (v := 0) hx hb dX11_layWays_71 (by decide) ?_
                        refine lv_goto (tgt := 78) hx hb dX11_layWays_72 (by decide) ?_
                        have hin_46 : vp_in r_20 5632 := vp_in_iff.mpr ⟨by omega, by omega⟩
                        refine va_iast hx hb hK hP hD hS 3 0 rfl rfl hin_46 dX11_layWays_78 (fun H locs hP hD hS => ?_)
                        obtain ⟨f_47, ef_47⟩ : ∃ z : Nat → Int32, z = upd g_17 (Int32.toNatClampNeg r_20) 0 := ⟨_, rfl⟩
                        have hP : va_P (dC, dI) vwCl [(vo, .inr (12, [.int voth, .ref vmt, .int votp, .int vosz, .int volm, .int voto, .int vofr, .int vokd, .int vonu, .int vosg, .int vofa, .int vopl, .long vowd, .int votd, .ref vmn, .ref vmr, .ref vmk, .ref vms, .ref vma, .ref vmm, .ref vmrn, .ref vmkn, .ref vmik, .ref vmon, .int vosm, .int vohp, .ref vmw, .ref vmf, .ref vmb, .int vomb, .ref vmd, .ref vmc, .int vocm, .int voct, .int vocy, .ref vmx, .int votx, .int vose, .ref vml, .ref vmwr, .int voln, .int vohw, .ref vmno, .int vond, .int voon, .int vowi, .int votop])), (vmn, .inl (cy 0, 575, .inl vmnf)), (vmw, .inl (cy 1, 5632, .inr (.inl f_45))), (vmf, .inl (cy 0, 5632, .inl f_47))] H := by rw [ef_47]; exact hP
                        have hD : va_D A [(vo, .inr (12, [.int voth, .ref vmt, .int votp, .int vosz, .int volm, .int voto, .int vofr, .int vokd, .int vonu, .int vosg, .int vofa, .int vopl, .long vowd, .int votd, .ref vmn, .ref vmr, .ref vmk, .ref vms, .ref vma, .ref vmm, .ref vmrn, .ref vmkn, .ref vmik, .ref vmon, .int vosm, .int vohp, .ref vmw, .ref vmf, .ref vmb, .int vomb, .ref vmd, .ref vmc, .int vocm, .int voct, .int vocy, .ref vmx, .int votx, .int vose, .ref vml, .ref vmwr, .int voln, .int vohw, .ref vmno, .int vond, .int voon, .int vowi, .int votop])), (vmn, .inl (cy 0, 575, .inl vmnf)), (vmw, .inl (cy 1, 5632, .inr (.inl f_45))), (vmf, .inl (cy 0, 5632, .inl f_47))] := by rw [ef_47]; exact hD
                        have p_f_47 : Rg f_47 5632 0 100000 := by rw [ef_47]; exact p_g_17.upd ⟨by omega, by omega⟩
                        refine lv_goto (tgt := 91) hx hb dX11_layWays_79 (by decide) ?_
                        obtain ⟨z_48, ez_48⟩ : ∃ z : Int32, z = x_15 + 1 := ⟨_, rfl⟩
                        have bz_48 : z_48.toInt = x_15.toInt + (1 : Int32).toInt := i_add ez_48 (by omega) (by omega)
                        refine lv_iinc (v := z_48) (lv' := [(3, .int z_48), (4, .int r_20), (2, .int x_9), (1, .int x_4), (0, .ref vo)]) hx hb dX11_layWays_91 hl (k := 1) rfl ez_48.symm (by decide) rfl (fun ls hl => ?_)
                        refine lv_goto (tgt := 20) hx hb dX11_layWays_94 (by decide) ?_
                        exact ih14 z_48 f_45 f_47 ⟨by omega, by omega⟩ p_f_47 v14_0 (LW.base (by omega)) (suOK_put (d := (x_4.toInt).toNat) (c := (x_9.toInt).toNat) (s := (x_15.toInt).toNat) v14_2 (by omega) (by unfold suK; omega) (by omega) (by omega) (by omega) (by omega) (by unfold suK; omega) ef_45 (if_pos (by omega)).symm) (by omega) _ _ (hP.sub [0, 1, 2, 3] rfl) (hD.sub [0, 1, 2, 3] rfl rfl) hS ls (lv_sub hl [0, 2, 3, 4] rfl)
              exact loop14 ((256 - (0 : Int32).toInt).toNat + 1) 0 g_10 g_11 ⟨by omega, by omega⟩ p_g_11 v8_0 (LW.mono v8_1 (by omega)) (suOK_mono v8_2 (by omega)) (by omega) _ _ hP hD hS ls (lv_sub hl [0, 1, 2, 3] rfl)
        exact loop8 ((2 - (0 : Int32).toInt).toNat + 1) 0 g_5 g_6 ⟨by omega, by omega⟩ p_g_6 (by omega) (LW.mono v3_1 (by omega)) (suOK_mono v3_2 (by omega)) (by omega) _ _ hP hD hS ls (lv_sub hl [0, 1, 2] rfl)
  exact loop3 ((z_2.toInt + 1).toNat + 1) z_2 vmwf vmff ⟨by omega, by omega⟩ p_vmff (by omega) (LW.base (by omega)) (suOK_base (by omega) (by omega)) (by omega) _ _ hP hD hS ls (lv_sub hl [0, 1] rfl)
