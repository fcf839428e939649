/-! a colony that was told: its deeds' weights are 1 to 40, crimes are 0 or 1 -/
def tkGD (g : Nat → Int32) : Prop := (0 ≤ (g 0).toInt ∧ (g 0).toInt ≤ 7) ∧ (0 ≤ (g 1).toInt ∧ (g 1).toInt ≤ 10) ∧ ∀ j : Nat, (j : Int) < (g 1).toInt → 1 ≤ (g (11 + j)).toInt ∧ (g (11 + j)).toInt ≤ 40 ∧ (g (21 + j) = 0 ∨ g (21 + j) = 1)
theorem tkGD.up {g : Nat → Int32} (h : tkGD g) {i : Nat} {v : Int32} (h0 : i ≠ 0) (h1 : i ≠ 1) (hi : i < 11 ∨ 31 ≤ i) : tkGD (upd g i v) := by
  obtain ⟨a, c, d⟩ := h
  unfold tkGD
  rw [pk_un (Ne.symm h0), pk_un (Ne.symm h1)]
  refine ⟨a, c, fun j hj => ?_⟩
  rw [pk_un (by omega), pk_un (by omega)]; exact d j hj
theorem tkGD.up0 {g : Nat → Int32} (h : tkGD g) {v : Int32} (hv : 0 ≤ v.toInt ∧ v.toInt ≤ 7) : tkGD (upd g 0 v) := by
  obtain ⟨a, c, d⟩ := h
  unfold tkGD
  rw [pk_us, pk_un (by omega)]
  refine ⟨hv, c, fun j hj => ?_⟩
  rw [pk_un (by omega), pk_un (by omega)]; exact d j hj
theorem tkGD.add {g : Nat → Int32} (h : tkGD g) {w c : Int32} (hd : (g 1).toInt < 10) (hw : 1 ≤ w.toInt ∧ w.toInt ≤ 40) (hc : c = 0 ∨ c = 1) : tkGD (upd (upd (upd g (21 + (g 1).toInt).toNat c) (11 + (g 1).toInt).toNat w) 1 (g 1 + 1)) := by
  obtain ⟨a, e, d⟩ := h
  have k1 : (1 : Int32).toInt = 1 := by decide
  obtain ⟨v, hv⟩ : ∃ v : Int32, v = g 1 + 1 := ⟨_, rfl⟩
  have v1 := i_add hv (by omega) (by omega)
  rw [← hv]
  unfold tkGD
  rw [pk_us, pk_un (show (0 : Nat) ≠ 1 by decide), pk_un (by omega), pk_un (by omega)]
  refine ⟨a, by omega, fun j hj => ?_⟩
  by_cases q : (j : Int) = (g 1).toInt
  · rw [show 11 + j = (11 + (g 1).toInt).toNat by omega, show 21 + j = (21 + (g 1).toInt).toNat by omega]
    rw [pk_un (by omega), pk_us, pk_un (by omega), pk_un (by omega), pk_us]
    exact ⟨hw.1, hw.2, hc⟩
  · rw [pk_un (by omega), pk_un (by omega), pk_un (by omega), pk_un (by omega), pk_un (by omega), pk_un (by omega)]
    exact d j (by omega)
theorem tksr_ge {f : Nat → Int64} {o : Int} {c : Int64} {n : Int} (h : tksr f o c n 0 ≠ -1) : 0 ≤ tksr f o c n 0 := by
  rcases tksr_rg (f := f) (o := o) (c := c) (n := n) with h1 | h1
  · exact absurd h1 h
  · exact h1.1
theorem tkLN_gd {b : Nat → Int32} {n lim : Int} {g : Nat → Int32} {gn : Nat → Int64} {t0 t1 wd st a pl : Int} {g2 : Nat → Int32} {gn2 : Nat → Int64} {u0 u1 : Int} (h : tkLN b n lim g gn t0 t1 wd st a 0 pl g2 gn2 u0 u1) (hg : tkGD g) : tkGD g2 := by
  have hB := hg.1
  have hC := hg.2.1
  have k1 : (1 : Int32).toInt = 1 := by decide
  unfold tkLN at h
  rcases h with ⟨_, h, q⟩ | ⟨_, h, q⟩ | ⟨_, h, q⟩ | ⟨_, h, q⟩ | ⟨_, h, q⟩ | ⟨_, h, q⟩ | ⟨_, h, q⟩ | ⟨_, _, _, _, _, _, _, h, _⟩
  · have f := fMan_ok h
    rw [(q rfl).1]
    obtain ⟨v, hv⟩ : ∃ v : Int32, v = g 0 + 1 := ⟨_, rfl⟩
    have v1 := i_add hv (by omega) (by omega)
    rw [← hv]
    exact (hg.up (by omega) (by omega) (by omega)).up0 ⟨by omega, by omega⟩
  · have f := fDeed_ok h
    rw [(q rfl).1]
    refine hg.add (by omega) ⟨by omega, by omega⟩ ?_
    split
    · exact Or.inr rfl
    · exact Or.inl rfl
  · have f := fDid_ok h
    rw [(q rfl).1]
    have m1 := tksr_ge (show _ ≠ -1 from f.2.2.1)
    have m2 := tksr_ge (show _ ≠ -1 from f.2.2.2.2.2.1)
    exact hg.up (by omega) (by omega) (by omega)
  · have f := fKin_ok h
    rw [(q rfl).1]
    have m1 := tksr_ge (show _ ≠ -1 from f.2.2.1)
    have m2 := tksr_ge (show _ ≠ -1 from f.2.2.2.2.2.1)
    unfold tkKinU
    exact (hg.up (by omega) (by omega) (by omega)).up (by omega) (by omega) (by omega)
  · have f := fOwes_ok h
    rw [(q rfl).1]
    have m1 := tksr_ge (show _ ≠ -1 from f.2.2.1)
    have m2 := tksr_ge (show _ ≠ -1 from f.2.2.2.2.2.1)
    exact hg.up (by omega) (by omega) (by omega)
  · rw [(q rfl).1]; exact hg.up (by decide) (by decide) (by decide)
  · rw [(q rfl).1]; exact hg.up (by decide) (by decide) (by decide)
  · exact absurd h (by decide)
theorem tkCO_gd {b : Nat → Int32} {n lim : Int} : ∀ (q : Nat) (g : Nat → Int32) (gn : Nat → Int64) (t0 t1 a lines pl lf : Int) (gf : Nat → Int32) (nf : Nat → Int64), tkCO b n lim q g gn t0 t1 a lines 0 pl lf gf nf → tkGD g → tkGD gf := by
  intro q
  induction q with
  | zero => intro g gn t0 t1 a lines pl lf gf nf h; exact h.elim
  | succ q ih =>
    intro g gn t0 t1 a lines pl lf gf nf h hg
    rcases h with ⟨_, _, _, hf, _⟩ | ⟨_, k1, pl1, g1, gn1, u0, u1, hL, hr⟩
    · rw [hf]; exact hg
    · rcases hr with ⟨r0, r1, _⟩ | ⟨_, _, r1, _⟩ | ⟨r0, _, r1⟩
      · exact absurd r1.symm r0
      · exact absurd r1 (by decide)
      · subst r0
        exact ih _ _ _ _ _ _ _ _ _ _ r1 (tkLN_gd hL hg)
theorem tkRES_gd {b : Nat → Int32} {n pl lf : Int} {gf : Nat → Int32} {nf : Nat → Int64} (h : tkRES b n 0 pl lf gf nf) : tkGD gf := by
  obtain ⟨q, h⟩ := h
  have k0 : (tkG0 1).toInt = 0 := by decide
  exact tkCO_gd q _ _ _ _ _ _ _ _ _ _ h ⟨⟨by decide, by decide⟩, ⟨by decide, by decide⟩, fun j hj => absurd hj (by omega)⟩
theorem nar01 {x : Int32} (h : x = 0 ∨ x = 1) : vp_nar .boolean x = x := by
  rcases h with h | h <;> rw [h] <;> rfl
def tkEB (f g : Nat → Int32) (i : Int) : Prop := ∀ j : Nat, (j : Int) < i → f j = vp_nar .boolean (g j)
theorem tkEB_0 {f g : Nat → Int32} {i : Int} (h : i ≤ 0) : tkEB f g i := fun j hj => absurd hj (by omega)
theorem tkEB_s {f g k : Nat → Int32} {x z y : Int32} {v : Int32} (h : tkEB f g x.toInt) (hx : 0 ≤ x.toInt) (hz : z.toInt = x.toInt + 1) (hv : v = g y.toNatClampNeg) (hy : y.toInt = x.toInt) (e : k = upd f x.toNatClampNeg (vp_nar .boolean v)) : tkEB k g z.toInt := by
  have h1 := cl_nn hx
  have h2 := cl_nn (x := y) (by omega)
  intro j hj
  rw [e]
  by_cases c : j = x.toNatClampNeg
  · rw [c, pk_us, hv]; exact congrArg (fun q => vp_nar .boolean (g q)) (by omega)
  · rw [pk_un c]; exact h j (by omega)
def tkE (f g : Nat → Int32) (i : Int) : Prop := ∀ j : Nat, (j : Int) < i → f j = g j
theorem tkE_0 {f g : Nat → Int32} {i : Int} (h : i ≤ 0) : tkE f g i := fun j hj => absurd hj (by omega)
theorem tkE_s {f g k : Nat → Int32} {x z y : Int32} {v : Int32} (h : tkE f g x.toInt) (hx : 0 ≤ x.toInt) (hz : z.toInt = x.toInt + 1) (hv : v = g y.toNatClampNeg) (hy : y.toInt = x.toInt) (e : k = upd f x.toNatClampNeg v) : tkE k g z.toInt := by
  have h1 := cl_nn hx
  have h2 := cl_nn (x := y) (by omega)
  intro j hj
  rw [e]
  by_cases c : j = x.toNatClampNeg
  · rw [c, pk_us, hv]; exact congrArg g (by omega)
  · rw [pk_un c]; exact h j (by omega)
def tkEL (f g : Nat → Int64) (i : Int) : Prop := ∀ j : Nat, (j : Int) < i → f j = g j
theorem tkEL_0 {f g : Nat → Int64} {i : Int} (h : i ≤ 0) : tkEL f g i := fun j hj => absurd hj (by omega)
theorem tkEL_s {f g k : Nat → Int64} {x z y : Int32} {v : Int64} (h : tkEL f g x.toInt) (hx : 0 ≤ x.toInt) (hz : z.toInt = x.toInt + 1) (hv : v = g y.toNatClampNeg) (hy : y.toInt = x.toInt) (e : k = vp_updL f x.toNatClampNeg v) : tkEL k g z.toInt := by
  have h1 := cl_nn hx
  have h2 := cl_nn (x := y) (by omega)
  intro j hj
  rw [e]
  by_cases c : j = x.toNatClampNeg
  · rw [c, pk_uLs, hv]; exact congrArg g (by omega)
  · rw [pk_uLn c]; exact h j (by omega)
/-- the head of the reference's row and its names are those of a colony's cells -/
def tkHD (g : Nat → Int32) (gn : Nat → Int64) (cm cd cr cw : Int32) (cf1 cf2 : Nat → Int64) (cf3 cf4 cf5 : Nat → Int32) : Prop :=
  (cm.toInt = (g 0).toInt ∧ cd.toInt = (g 1).toInt ∧ cr = g 2 ∧ cw = g 3) ∧ (0 ≤ cm.toInt ∧ cm.toInt ≤ 7 ∧ 0 ≤ cd.toInt ∧ cd.toInt ≤ 10) ∧ (∀ j : Nat, (j : Int) < cd.toInt → cf3 j = g (11 + j)) ∧ (∀ j : Nat, j < 7 → cf5 j = g (101 + j)) ∧ (∀ j : Nat, (j : Int) < cm.toInt → tkvc 7 (cf1 j).toInt ∧ (gn j).toInt = tkcv 7 (cf1 j).toInt) ∧ (∀ j : Nat, (j : Int) < cd.toInt → tkvc 7 (cf2 j).toInt ∧ (gn (7 + j)).toInt = tkcv 7 (cf2 j).toInt) ∧ (∀ j : Nat, (j : Int) < cd.toInt → cf4 j = g (21 + j) ∧ (cf4 j = 0 ∨ cf4 j = 1) ∧ 1 ≤ (cf3 j).toInt)
theorem tkHD.nums {g : Nat → Int32} {gn : Nat → Int64} {cm cd cr cw : Int32} {cf1 cf2 : Nat → Int64} {cf3 cf4 cf5 : Nat → Int32} (h : tkHD g gn cm cd cr cw cf1 cf2 cf3 cf4 cf5) : cm.toInt = (g 0).toInt ∧ cd.toInt = (g 1).toInt ∧ cr.toInt = (g 2).toInt ∧ cw.toInt = (g 3).toInt ∧ 0 ≤ cm.toInt ∧ cm.toInt ≤ 7 ∧ 0 ≤ cd.toInt ∧ cd.toInt ≤ 10 :=
  ⟨h.1.1, h.1.2.1, congrArg Int32.toInt h.1.2.2.1, congrArg Int32.toInt h.1.2.2.2, h.2.1⟩
theorem tkHD.g {g : Nat → Int32} {gn : Nat → Int64} {cm cd cr cw : Int32} {cf1 cf2 : Nat → Int64} {cf3 cf4 cf5 : Nat → Int32} {g2 : Nat → Int32} {gn2 : Nat → Int64} (h : tkHD g gn cm cd cr cw cf1 cf2 cf3 cf4 cf5) (e : ∀ j : Nat, j < 157 → g2 j = g j) (en : ∀ j : Nat, j < 17 → gn2 j = gn j) : tkHD g2 gn2 cm cd cr cw cf1 cf2 cf3 cf4 cf5 := by
  obtain ⟨⟨a1, a2, a3, a4⟩, ab, a5, a6, a7, a8, a9⟩ := h
  refine ⟨⟨by rw [e 0 (by omega)]; exact a1, by rw [e 1 (by omega)]; exact a2, by rw [e 2 (by omega)]; exact a3, by rw [e 3 (by omega)]; exact a4⟩, ab, fun j hj => ?_, fun j hj => ?_, fun j hj => ?_, fun j hj => ?_, fun j hj => ⟨by rw [e (21 + j) (by omega)]; exact (a9 j hj).1, (a9 j hj).2⟩⟩
  · rw [e (11 + j) (by omega)]; exact a5 j hj
  · rw [e (101 + j) (by omega)]; exact a6 j hj
  · rw [en j (by omega)]; exact a7 j hj
  · rw [en (7 + j) (by omega)]; exact a8 j hj
def tkCC (icm icd icr icw : Int32) (icf1 icf2 : Nat → Int64) (icf3 icf4 icf5 : Nat → Int32) (cm cd cr cw : Int32) (cf1 cf2 : Nat → Int64) (cf3 cf4 cf5 : Nat → Int32) : Prop := icm = cm ∧ icd = cd ∧ icr = cr ∧ icw = cw ∧ tkEL icf1 cf1 7 ∧ tkEL icf2 cf2 10 ∧ tkE icf3 cf3 10 ∧ tkEB icf4 cf4 10 ∧ tkE icf5 cf5 7
def tkCE (icm icd icr icw : Int32) (icf1 icf2 : Nat → Int64) (icf3 icf4 icf5 : Nat → Int32) (cm cd cr cw : Int32) (cf1 cf2 : Nat → Int64) (cf3 cf4 cf5 : Nat → Int32) : Prop := icm = cm ∧ icd = cd ∧ icr = cr ∧ icw = cw ∧ icf1 = cf1 ∧ icf2 = cf2 ∧ icf3 = cf3 ∧ icf4 = cf4 ∧ icf5 = cf5
theorem tkHD.c {g : Nat → Int32} {gn : Nat → Int64} {cm cd cr cw : Int32} {cf1 cf2 : Nat → Int64} {cf3 cf4 cf5 : Nat → Int32} {icm icd icr icw : Int32} {icf1 icf2 : Nat → Int64} {icf3 icf4 icf5 : Nat → Int32} (h : tkHD g gn cm cd cr cw cf1 cf2 cf3 cf4 cf5) (c : tkCC icm icd icr icw icf1 icf2 icf3 icf4 icf5 cm cd cr cw cf1 cf2 cf3 cf4 cf5) : tkHD g gn icm icd icr icw icf1 icf2 icf3 icf4 icf5 := by
  obtain ⟨rfl, rfl, rfl, rfl, e1, e2, e3, e4, e5⟩ := c
  obtain ⟨a0, ab, a5, a6, a7, a8, a9⟩ := h
  refine ⟨a0, ab, fun j hj => ?_, fun j hj => ?_, fun j hj => ?_, fun j hj => ?_, fun j hj => ⟨by rw [e4 j (by omega), nar01 (a9 j hj).2.1]; exact (a9 j hj).1, by rw [e4 j (by omega), nar01 (a9 j hj).2.1]; exact (a9 j hj).2.1, by rw [e3 j (by omega)]; exact (a9 j hj).2.2⟩⟩
  · rw [e3 j (by omega)]; exact a5 j hj
  · rw [e5 j (by omega)]; exact a6 j hj
  · rw [e1 j (by omega)]; exact a7 j hj
  · rw [e2 j (by omega)]; exact a8 j hj
theorem tkHD.e {g : Nat → Int32} {gn : Nat → Int64} {cm cd cr cw : Int32} {cf1 cf2 : Nat → Int64} {cf3 cf4 cf5 : Nat → Int32} {icm icd icr icw : Int32} {icf1 icf2 : Nat → Int64} {icf3 icf4 icf5 : Nat → Int32} (h : tkHD g gn cm cd cr cw cf1 cf2 cf3 cf4 cf5) (c : tkCE icm icd icr icw icf1 icf2 icf3 icf4 icf5 cm cd cr cw cf1 cf2 cf3 cf4 cf5) : tkHD g gn icm icd icr icw icf1 icf2 icf3 icf4 icf5 := by
  obtain ⟨rfl, rfl, rfl, rfl, rfl, rfl, rfl, rfl, rfl⟩ := c
  exact h
def tkXF (b : Nat → Int32) (n : Int) : Prop := ∃ k pl : Int, tkRF b n k pl ∧ ¬ (k = 0)
def tkMS (b : Nat → Int32) (n : Int) (mn : Nat → Int32) (mm : Nat → Int64) : Prop := ∃ (lf : Int) (g : Nat → Int32) (gn : Nat → Int64) (t0 t1 : Int) (mon : Nat → Int32), tkRES b n 0 0 lf g gn ∧ tkAM g gn t0 t1 mn mm mon
def tkCM (b : Nat → Int32) (n : Int) (mn : Nat → Int32) (mm : Nat → Int64) (mn2 : Nat → Int32) (mm2 : Nat → Int64) : Prop := (tkXF b n ∧ (∀ j : Nat, j < 157 → mn2 j = mn j) ∧ mm2 = mm) ∨ tkMS b n mn2 mm2
theorem tkXF_no {b : Nat → Int32} {n : Int} {lf : Int} {g : Nat → Int32} {gn : Nat → Int64} (h : tkXF b n) (h2 : tkRES b n 0 0 lf g gn) : False := by
  obtain ⟨k, pl, ⟨lf', gf', nf', hR⟩, h0⟩ := h
  exact h0 (tkRES_det hR h2).1
theorem tkMS_of {b : Nat → Int32} {n : Int} {lf t0 t1 : Int} {g : Nat → Int32} {gn : Nat → Int64} {mr mn mon : Nat → Int32} {mrn mm : Nat → Int64} (hR : tkRES b n 0 0 lf g gn) (hA : tkAM g gn t0 t1 mr mrn mon) (e : ∀ j : Nat, j < 157 → mn j = mr j) (en : ∀ j : Nat, j < 17 → mm j = mrn j) : tkMS b n mn mm := by
  obtain ⟨h1, hb, h2, h3, h4⟩ := hA
  refine ⟨lf, g, gn, t0, t1, mon, hR, fun j hj => (e j hj).trans (h1 j hj), hb, fun j hj => ?_, fun j hj => ?_, h4⟩
  · rw [en j (by omega)]; exact h2 j hj
  · rw [en (7 + j) (by omega)]; exact h3 j hj
theorem tkHD_col {b : Nat → Int32} {n : Int} {lf : Int} {cm cd cr cw : Int32} {cf1 cf2 : Nat → Int64} {cf3 cf4 cf5 lf2 lf3 : Nat → Int32} {xr xf : Int32} {mn : Nat → Int32} {mm : Nat → Int64} (hx : tkRS b n lf cm cd cr cw cf1 cf2 cf3 cf4 cf5 lf2 lf3 xr xf) (hm : tkMS b n mn mm) : tkHD mn mm cm cd cr cw cf1 cf2 cf3 cf4 cf5 := by
  obtain ⟨g, gn, t0, t1, hR, ⟨⟨a1, a2, a3, a4⟩, ab, a5, a6, a7, a8, a9, a10, a11, _⟩⟩ := hx
  obtain ⟨lf', g', gn', t0', t1', mon, hR', hM⟩ := hm
  obtain ⟨z1, z2, z3⟩ := (tkRES_det hR hR').2.2 rfl
  subst z2 z3
  have hgd := tkRES_gd hR
  obtain ⟨h1, hb, h2, h3, _⟩ := hM
  refine ⟨⟨by rw [h1 0 (by omega)]; exact a1, by rw [h1 1 (by omega)]; exact a2, by rw [h1 2 (by omega)]; exact a3, by rw [h1 3 (by omega)]; exact a4⟩, ab, fun j hj => ?_, fun j hj => ?_, fun j hj => ?_, fun j hj => ?_, fun j hj => ⟨by rw [h1 (21 + j) (by omega)]; exact a6 j hj, by rw [a6 j hj]; exact (hgd.2.2 j (by omega)).2.2, by rw [a5 j hj]; exact (hgd.2.2 j (by omega)).1⟩⟩
  · rw [h1 (11 + j) (by omega)]; exact a5 j hj
  · rw [h1 (101 + j) (by omega)]; exact a8 j hj
  · rw [a10 j hj]; exact h2 j (by omega)
  · rw [a11 j hj]; exact h3 j (by omega)
theorem tkCol_f {b : Nat → Int32} {n : Int} {mn mn2 : Nat → Int32} {mm mm2 : Nat → Int64} {cm cd cr cw : Int32} {cf1 cf2 : Nat → Int64} {cf3 cf4 cf5 : Nat → Int32} (h : tkHD mn mm cm cd cr cw cf1 cf2 cf3 cf4 cf5) (hx : tkXF b n) (hm : tkCM b n mn mm mn2 mm2) : tkHD mn2 mm2 cm cd cr cw cf1 cf2 cf3 cf4 cf5 := by
  rcases hm with ⟨_, h1, h2⟩ | ⟨lf, g, gn, t0, t1, mon, hR, _⟩
  · exact h.g h1 (fun j _ => by rw [h2])
  · exact (tkXF_no hx hR).elim
theorem tkCol_s {b : Nat → Int32} {n : Int} {lf : Int} {cm cd cr cw : Int32} {cf1 cf2 : Nat → Int64} {cf3 cf4 cf5 lf2 lf3 : Nat → Int32} {xr xf : Int32} {mn mn2 : Nat → Int32} {mm mm2 : Nat → Int64} (hx : tkRS b n lf cm cd cr cw cf1 cf2 cf3 cf4 cf5 lf2 lf3 xr xf) (hm : tkCM b n mn mm mn2 mm2) : tkHD mn2 mm2 cm cd cr cw cf1 cf2 cf3 cf4 cf5 := by
  rcases hm with ⟨h1, _⟩ | h1
  · obtain ⟨g, gn, t0, t1, hR, _⟩ := hx
    exact (tkXF_no h1 hR).elim
  · exact tkHD_col hx h1
def tkCW (n : Int) (jcm jcd jcr jcw : Int32) (jcf1 jcf2 : Nat → Int64) (jcf3 jcf4 jcf5 : Nat → Int32) (icm icd icr icw : Int32) (icf1 icf2 : Nat → Int64) (icf3 icf4 icf5 : Nat → Int32) (cm cd cr cw : Int32) (cf1 cf2 : Nat → Int64) (cf3 cf4 cf5 : Nat → Int32) : Prop := ((n < 0 ∨ 1 < n) ∧ tkCE jcm jcd jcr jcw jcf1 jcf2 jcf3 jcf4 jcf5 icm icd icr icw icf1 icf2 icf3 icf4 icf5) ∨ (0 ≤ n ∧ n ≤ 1 ∧ tkCC jcm jcd jcr jcw jcf1 jcf2 jcf3 jcf4 jcf5 cm cd cr cw cf1 cf2 cf3 cf4 cf5)
def tkCR (n f : Int) (jcm jcd jcr jcw : Int32) (jcf1 jcf2 : Nat → Int64) (jcf3 jcf4 jcf5 : Nat → Int32) (icm icd icr icw : Int32) (icf1 icf2 : Nat → Int64) (icf3 icf4 icf5 : Nat → Int32) (cm cd cr cw : Int32) (cf1 cf2 : Nat → Int64) (cf3 cf4 cf5 : Nat → Int32) : Prop := (((n < 0 ∨ 1 < n) ∨ f = 0) ∧ tkCE jcm jcd jcr jcw jcf1 jcf2 jcf3 jcf4 jcf5 icm icd icr icw icf1 icf2 icf3 icf4 icf5) ∨ (0 ≤ n ∧ n ≤ 1 ∧ ¬ (f = 0) ∧ tkCC jcm jcd jcr jcw jcf1 jcf2 jcf3 jcf4 jcf5 cm cd cr cw cf1 cf2 cf3 cf4 cf5)
def tkCnt (k r a b c d t : Int) : Prop := (k = 0 ∧ r = a) ∨ (k = 1 ∧ r = b) ∨ (k = 2 ∧ r = c) ∨ (k = 3 ∧ r = d) ∨ (k = 4 ∧ r = t) ∨ ((k < 0 ∨ 4 < k) ∧ r = -1)
theorem tkCnt_eq {g : Nat → Int32} {gn : Nat → Int64} {cm cd cr cw : Int32} {cf1 cf2 : Nat → Int64} {cf3 cf4 cf5 : Nat → Int32} {k r r2 t t2 : Int} (h : tkHD g gn cm cd cr cw cf1 cf2 cf3 cf4 cf5) (h1 : tkCnt k r cm.toInt cd.toInt cr.toInt cw.toInt t) (h2 : tkCnt k r2 (g 0).toInt (g 1).toInt (g 2).toInt (g 3).toInt t2) (ht : t = t2) : r = r2 := by
  have hn := h.nums
  unfold tkCnt at h1 h2
  rcases h1 with h1 | h1 | h1 | h1 | h1 | h1 <;> rcases h2 with h2 | h2 | h2 | h2 | h2 | h2 <;> omega
theorem tkKin_eq {g : Nat → Int32} {gn : Nat → Int64} {cm cd cr cw : Int32} {cf1 cf2 : Nat → Int64} {cf3 cf4 cf5 : Nat → Int32} (h : tkHD g gn cm cd cr cw cf1 cf2 cf3 cf4 cf5) {m r r2 : Int32} (hc : ((m.toInt < 0 ∨ cm.toInt ≤ m.toInt) ∧ r = -1) ∨ (0 ≤ m.toInt ∧ m.toInt < cm.toInt ∧ r = cf5 (Int32.toNatClampNeg m))) (hm : ((m.toInt < 0 ∨ (g 0).toInt ≤ m.toInt) ∧ r2 = -1) ∨ (0 ≤ m.toInt ∧ m.toInt < (g 0).toInt ∧ r2 = g (101 + m.toInt).toNat)) : r = r2 := by
  have hn := h.nums
  rcases hc with ⟨a, e⟩ | ⟨a1, a2, e⟩ <;> rcases hm with ⟨b, e2⟩ | ⟨b1, b2, e2⟩
  · rw [e, e2]
  · exfalso; omega
  · exfalso; omega
  · have h1 := cl_nn (x := m) a1
    rw [e, e2, h.2.2.2.1 _ (by omega)]; exact congrArg g (by omega)
theorem tkHD_0 {g : Nat → Int32} {gn : Nat → Int64} {cf1 cf2 : Nat → Int64} {cf3 cf4 cf5 : Nat → Int32} (hg : ∀ j : Nat, j < 157 → g j = tkG0 j) (hk : ∀ j : Nat, cf5 j = 0) : tkHD g gn 0 0 60 10 cf1 cf2 cf3 cf4 cf5 := by
  have k0 : (0 : Int32).toInt = 0 := by decide
  refine ⟨⟨by rw [hg 0 (by omega)]; rfl, by rw [hg 1 (by omega)]; rfl, by rw [hg 2 (by omega)]; rfl, by rw [hg 3 (by omega)]; rfl⟩, by omega, fun j hj => absurd hj (by omega), fun j hj => ?_, fun j hj => absurd hj (by omega), fun j hj => absurd hj (by omega), fun j hj => absurd hj (by omega)⟩
  rw [hk, hg (101 + j) (by omega)]; unfold tkG0; rw [if_neg (by omega), if_neg (by omega)]
