def tkE (f g : Nat → Int32) (i : Int) : Prop := ∀ j : Nat, (j : Int) < i → f j = g j
theorem tkE_0 {f g : Nat → Int32} {i : Int} (h : i ≤ 0) : tkE f g i := fun j hj => absurd hj (by omega)
theorem tkE_s {f g k : Nat → Int32} {x z y : Int32} {v : Int32} (h : tkE f g x.toInt) (hx : 0 ≤ x.toInt) (hz : z.toInt = x.toInt + 1) (hv : v = g y.toNatClampNeg) (hy : y.toInt = x.toInt) (e : k = upd f x.toNatClampNeg v) : tkE k g z.toInt := by
  have h1 := cl_nn hx
  have h2 := cl_nn (x := y) (by omega)
  intro j hj
  rw [e]
  by_cases c : j = x.toNatClampNeg
  · rw [c, pk_us, hv]; exact congrArg g (by omega)
  · rw [pk_un c]; exact h j (by omega)
def tkEL (f g : Nat → Int64) (i : Int) : Prop := ∀ j : Nat, (j : Int) < i → f j = g j
theorem tkEL_0 {f g : Nat → Int64} {i : Int} (h : i ≤ 0) : tkEL f g i := fun j hj => absurd hj (by omega)
theorem tkEL_s {f g k : Nat → Int64} {x z y : Int32} {v : Int64} (h : tkEL f g x.toInt) (hx : 0 ≤ x.toInt) (hz : z.toInt = x.toInt + 1) (hv : v = g y.toNatClampNeg) (hy : y.toInt = x.toInt) (e : k = vp_updL f x.toNatClampNeg v) : tkEL k g z.toInt := by
  have h1 := cl_nn hx
  have h2 := cl_nn (x := y) (by omega)
  intro j hj
  rw [e]
  by_cases c : j = x.toNatClampNeg
  · rw [c, pk_uLs, hv]; exact congrArg g (by omega)
  · rw [pk_uLn c]; exact h j (by omega)
/-- the head of the reference's row and its names are those of a colony's cells -/
def tkHD (g : Nat → Int32) (gn : Nat → Int64) (cm cd cr cw : Int32) (cf1 cf2 : Nat → Int64) (cf3 cf5 : Nat → Int32) : Prop :=
  (cm.toInt = (g 0).toInt ∧ cd.toInt = (g 1).toInt ∧ cr = g 2 ∧ cw = g 3) ∧ (0 ≤ cm.toInt ∧ cm.toInt ≤ 7 ∧ 0 ≤ cd.toInt ∧ cd.toInt ≤ 10) ∧ (∀ j : Nat, (j : Int) < cd.toInt → cf3 j = g (11 + j)) ∧ (∀ j : Nat, j < 7 → cf5 j = g (101 + j)) ∧ (∀ j : Nat, (j : Int) < cm.toInt → tkvc 7 (cf1 j).toInt ∧ (gn j).toInt = tkcv 7 (cf1 j).toInt) ∧ (∀ j : Nat, (j : Int) < cd.toInt → tkvc 7 (cf2 j).toInt ∧ (gn (7 + j)).toInt = tkcv 7 (cf2 j).toInt)
theorem tkHD.g {g : Nat → Int32} {gn : Nat → Int64} {cm cd cr cw : Int32} {cf1 cf2 : Nat → Int64} {cf3 cf5 : Nat → Int32} {g2 : Nat → Int32} {gn2 : Nat → Int64} (h : tkHD g gn cm cd cr cw cf1 cf2 cf3 cf5) (e : ∀ j : Nat, j < 157 → g2 j = g j) (en : ∀ j : Nat, j < 17 → gn2 j = gn j) : tkHD g2 gn2 cm cd cr cw cf1 cf2 cf3 cf5 := by
  obtain ⟨⟨a1, a2, a3, a4⟩, ab, a5, a6, a7, a8⟩ := h
  refine ⟨⟨by rw [e 0 (by omega)]; exact a1, by rw [e 1 (by omega)]; exact a2, by rw [e 2 (by omega)]; exact a3, by rw [e 3 (by omega)]; exact a4⟩, ab, fun j hj => ?_, fun j hj => ?_, fun j hj => ?_, fun j hj => ?_⟩
  · rw [e (11 + j) (by omega)]; exact a5 j hj
  · rw [e (101 + j) (by omega)]; exact a6 j hj
  · rw [en j (by omega)]; exact a7 j hj
  · rw [en (7 + j) (by omega)]; exact a8 j hj
def tkCC (icm icd icr icw : Int32) (icf1 icf2 : Nat → Int64) (icf3 icf5 : Nat → Int32) (cm cd cr cw : Int32) (cf1 cf2 : Nat → Int64) (cf3 cf5 : Nat → Int32) : Prop := icm = cm ∧ icd = cd ∧ icr = cr ∧ icw = cw ∧ tkEL icf1 cf1 7 ∧ tkEL icf2 cf2 10 ∧ tkE icf3 cf3 10 ∧ tkE icf5 cf5 7
def tkCE (icm icd icr icw : Int32) (icf1 icf2 : Nat → Int64) (icf3 icf5 : Nat → Int32) (cm cd cr cw : Int32) (cf1 cf2 : Nat → Int64) (cf3 cf5 : Nat → Int32) : Prop := icm = cm ∧ icd = cd ∧ icr = cr ∧ icw = cw ∧ icf1 = cf1 ∧ icf2 = cf2 ∧ icf3 = cf3 ∧ icf5 = cf5
theorem tkHD.c {g : Nat → Int32} {gn : Nat → Int64} {cm cd cr cw : Int32} {cf1 cf2 : Nat → Int64} {cf3 cf5 : Nat → Int32} {icm icd icr icw : Int32} {icf1 icf2 : Nat → Int64} {icf3 icf5 : Nat → Int32} (h : tkHD g gn cm cd cr cw cf1 cf2 cf3 cf5) (c : tkCC icm icd icr icw icf1 icf2 icf3 icf5 cm cd cr cw cf1 cf2 cf3 cf5) : tkHD g gn icm icd icr icw icf1 icf2 icf3 icf5 := by
  obtain ⟨rfl, rfl, rfl, rfl, e1, e2, e3, e5⟩ := c
  obtain ⟨a0, ab, a5, a6, a7, a8⟩ := h
  refine ⟨a0, ab, fun j hj => ?_, fun j hj => ?_, fun j hj => ?_, fun j hj => ?_⟩
  · rw [e3 j (by omega)]; exact a5 j hj
  · rw [e5 j (by omega)]; exact a6 j hj
  · rw [e1 j (by omega)]; exact a7 j hj
  · rw [e2 j (by omega)]; exact a8 j hj
theorem tkHD.e {g : Nat → Int32} {gn : Nat → Int64} {cm cd cr cw : Int32} {cf1 cf2 : Nat → Int64} {cf3 cf5 : Nat → Int32} {icm icd icr icw : Int32} {icf1 icf2 : Nat → Int64} {icf3 icf5 : Nat → Int32} (h : tkHD g gn cm cd cr cw cf1 cf2 cf3 cf5) (c : tkCE icm icd icr icw icf1 icf2 icf3 icf5 cm cd cr cw cf1 cf2 cf3 cf5) : tkHD g gn icm icd icr icw icf1 icf2 icf3 icf5 := by
  obtain ⟨rfl, rfl, rfl, rfl, rfl, rfl, rfl, rfl⟩ := c
  exact h
def tkXF (b : Nat → Int32) (n : Int) : Prop := ∃ k pl : Int, tkRF b n k pl ∧ ¬ (k = 0)
def tkMS (b : Nat → Int32) (n : Int) (mn : Nat → Int32) (mm : Nat → Int64) : Prop := ∃ (lf : Int) (g : Nat → Int32) (gn : Nat → Int64) (t0 t1 : Int) (mon : Nat → Int32), tkRES b n 0 0 lf g gn ∧ tkAM g gn t0 t1 mn mm mon
def tkCM (b : Nat → Int32) (n : Int) (mn : Nat → Int32) (mm : Nat → Int64) (mn2 : Nat → Int32) (mm2 : Nat → Int64) : Prop := (tkXF b n ∧ (∀ j : Nat, j < 157 → mn2 j = mn j) ∧ mm2 = mm) ∨ tkMS b n mn2 mm2
theorem tkXF_no {b : Nat → Int32} {n : Int} {lf : Int} {g : Nat → Int32} {gn : Nat → Int64} (h : tkXF b n) (h2 : tkRES b n 0 0 lf g gn) : False := by
  obtain ⟨k, pl, ⟨lf', gf', nf', hR⟩, h0⟩ := h
  exact h0 (tkRES_det hR h2).1
theorem tkMS_of {b : Nat → Int32} {n : Int} {lf t0 t1 : Int} {g : Nat → Int32} {gn : Nat → Int64} {mr mn mon : Nat → Int32} {mrn mm : Nat → Int64} (hR : tkRES b n 0 0 lf g gn) (hA : tkAM g gn t0 t1 mr mrn mon) (e : ∀ j : Nat, j < 157 → mn j = mr j) (en : ∀ j : Nat, j < 17 → mm j = mrn j) : tkMS b n mn mm := by
  obtain ⟨h1, hb, h2, h3, h4⟩ := hA
  refine ⟨lf, g, gn, t0, t1, mon, hR, fun j hj => (e j hj).trans (h1 j hj), hb, fun j hj => ?_, fun j hj => ?_, h4⟩
  · rw [en j (by omega)]; exact h2 j hj
  · rw [en (7 + j) (by omega)]; exact h3 j hj
theorem tkHD_col {b : Nat → Int32} {n : Int} {lf : Int} {cm cd cr cw : Int32} {cf1 cf2 : Nat → Int64} {cf3 cf4 cf5 lf2 lf3 : Nat → Int32} {xr xf : Int32} {mn : Nat → Int32} {mm : Nat → Int64} (hx : tkRS b n lf cm cd cr cw cf1 cf2 cf3 cf4 cf5 lf2 lf3 xr xf) (hm : tkMS b n mn mm) : tkHD mn mm cm cd cr cw cf1 cf2 cf3 cf5 := by
  obtain ⟨g, gn, t0, t1, hR, ⟨⟨a1, a2, a3, a4⟩, ab, a5, a6, a7, a8, a9, a10, a11, _⟩⟩ := hx
  obtain ⟨lf', g', gn', t0', t1', mon, hR', hM⟩ := hm
  obtain ⟨z1, z2, z3⟩ := (tkRES_det hR hR').2.2 rfl
  subst z2 z3
  obtain ⟨h1, hb, h2, h3, _⟩ := hM
  refine ⟨⟨by rw [h1 0 (by omega)]; exact a1, by rw [h1 1 (by omega)]; exact a2, by rw [h1 2 (by omega)]; exact a3, by rw [h1 3 (by omega)]; exact a4⟩, ab, fun j hj => ?_, fun j hj => ?_, fun j hj => ?_, fun j hj => ?_⟩
  · rw [h1 (11 + j) (by omega)]; exact a5 j hj
  · rw [h1 (101 + j) (by omega)]; exact a8 j hj
  · rw [a10 j hj]; exact h2 j (by omega)
  · rw [a11 j hj]; exact h3 j (by omega)
theorem tkCol_f {b : Nat → Int32} {n : Int} {mn mn2 : Nat → Int32} {mm mm2 : Nat → Int64} {cm cd cr cw : Int32} {cf1 cf2 : Nat → Int64} {cf3 cf5 : Nat → Int32} (h : tkHD mn mm cm cd cr cw cf1 cf2 cf3 cf5) (hx : tkXF b n) (hm : tkCM b n mn mm mn2 mm2) : tkHD mn2 mm2 cm cd cr cw cf1 cf2 cf3 cf5 := by
  rcases hm with ⟨_, h1, h2⟩ | ⟨lf, g, gn, t0, t1, mon, hR, _⟩
  · exact h.g h1 (fun j _ => by rw [h2])
  · exact (tkXF_no hx hR).elim
theorem tkCol_s {b : Nat → Int32} {n : Int} {lf : Int} {cm cd cr cw : Int32} {cf1 cf2 : Nat → Int64} {cf3 cf4 cf5 lf2 lf3 : Nat → Int32} {xr xf : Int32} {mn mn2 : Nat → Int32} {mm mm2 : Nat → Int64} (hx : tkRS b n lf cm cd cr cw cf1 cf2 cf3 cf4 cf5 lf2 lf3 xr xf) (hm : tkCM b n mn mm mn2 mm2) : tkHD mn2 mm2 cm cd cr cw cf1 cf2 cf3 cf5 := by
  rcases hm with ⟨h1, _⟩ | h1
  · obtain ⟨g, gn, t0, t1, hR, _⟩ := hx
    exact (tkXF_no h1 hR).elim
  · exact tkHD_col hx h1
def tkCW (n : Int) (jcm jcd jcr jcw : Int32) (jcf1 jcf2 : Nat → Int64) (jcf3 jcf5 : Nat → Int32) (icm icd icr icw : Int32) (icf1 icf2 : Nat → Int64) (icf3 icf5 : Nat → Int32) (cm cd cr cw : Int32) (cf1 cf2 : Nat → Int64) (cf3 cf5 : Nat → Int32) : Prop := ((n < 0 ∨ 1 < n) ∧ tkCE jcm jcd jcr jcw jcf1 jcf2 jcf3 jcf5 icm icd icr icw icf1 icf2 icf3 icf5) ∨ (0 ≤ n ∧ n ≤ 1 ∧ tkCC jcm jcd jcr jcw jcf1 jcf2 jcf3 jcf5 cm cd cr cw cf1 cf2 cf3 cf5)
def tkCR (n f : Int) (jcm jcd jcr jcw : Int32) (jcf1 jcf2 : Nat → Int64) (jcf3 jcf5 : Nat → Int32) (icm icd icr icw : Int32) (icf1 icf2 : Nat → Int64) (icf3 icf5 : Nat → Int32) (cm cd cr cw : Int32) (cf1 cf2 : Nat → Int64) (cf3 cf5 : Nat → Int32) : Prop := (((n < 0 ∨ 1 < n) ∨ f = 0) ∧ tkCE jcm jcd jcr jcw jcf1 jcf2 jcf3 jcf5 icm icd icr icw icf1 icf2 icf3 icf5) ∨ (0 ≤ n ∧ n ≤ 1 ∧ ¬ (f = 0) ∧ tkCC jcm jcd jcr jcw jcf1 jcf2 jcf3 jcf5 cm cd cr cw cf1 cf2 cf3 cf5)
def tkCnt (k r a b c d t : Int) : Prop := (k = 0 ∧ r = a) ∨ (k = 1 ∧ r = b) ∨ (k = 2 ∧ r = c) ∨ (k = 3 ∧ r = d) ∨ (k = 4 ∧ r = t) ∨ ((k < 0 ∨ 4 < k) ∧ r = -1)
theorem tkHD_0 {g : Nat → Int32} {gn : Nat → Int64} {cf1 cf2 : Nat → Int64} {cf3 cf5 : Nat → Int32} (hg : ∀ j : Nat, j < 157 → g j = tkG0 j) (hk : ∀ j : Nat, cf5 j = 0) : tkHD g gn 0 0 60 10 cf1 cf2 cf3 cf5 := by
  have k0 : (0 : Int32).toInt = 0 := by decide
  refine ⟨⟨by rw [hg 0 (by omega)]; rfl, by rw [hg 1 (by omega)]; rfl, by rw [hg 2 (by omega)]; rfl, by rw [hg 3 (by omega)]; rfl⟩, by omega, fun j hj => absurd hj (by omega), fun j hj => ?_, fun j hj => absurd hj (by omega), fun j hj => absurd hj (by omega)⟩
  rw [hk, hg (101 + j) (by omega)]; unfold tkG0; rw [if_neg (by omega), if_neg (by omega)]
