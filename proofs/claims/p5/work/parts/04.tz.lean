def tkXT (b : Nat → Int32) (n lim p : Int) (ta tk tst tw : Int32) (tc : Int64) (tn : Int32) : Prop := ta.toInt = tkN b n lim p ∧ tk.toInt = tkK b n lim p ∧ tst.toInt = tkS b n lim p ∧ tw.toInt = tkW b n lim p ∧ tkCd b n lim p tc ∧ (tkK b n lim p = 2 → tn = tkVi b n p) ∧ (tkK b n lim p = 2 → tn.toInt = (tkVi b n p).toInt)
def tkLS (b : Nat → Int32) (n lim : Int) (g : Nat → Int32) (gn : Nat → Int64) (t0 t1 wd st a : Int) (ta tk tst tw : Int32) (tc : Int64) (tn : Int32) (cm cd cr cw : Int32) (cf1 cf2 : Nat → Int64) (cf3 cf4 cf5 lf2 lf3 : Nat → Int32) (xr xf : Int32) : Prop := ∃ (p : Int) (g2 : Nat → Int32) (gn2 : Nat → Int64) (u0 u1 : Int), tkLN b n lim g gn t0 t1 wd st a 0 p g2 gn2 u0 u1 ∧ tkAX g2 gn2 u0 u1 cm cd cr cw cf1 cf2 cf3 cf4 cf5 lf2 lf3 xr xf ∧ tkXT b n lim p ta tk tst tw tc tn
theorem tkLS_of {b : Nat → Int32} {n lim : Int} {ta tk tst tw : Int32} {tc : Int64} {tn : Int32} {cm cd cr cw : Int32} {cf1 cf2 : Nat → Int64} {cf3 cf4 cf5 lf2 lf3 : Nat → Int32} {xr xf : Int32} {g : Nat → Int32} {gn : Nat → Int64} {t0 t1 wd st a p : Int} (h : ∃ (g2 : Nat → Int32) (gn2 : Nat → Int64) (u0 u1 : Int), tkLN b n lim g gn t0 t1 wd st a 0 p g2 gn2 u0 u1 ∧ tkAX g2 gn2 u0 u1 cm cd cr cw cf1 cf2 cf3 cf4 cf5 lf2 lf3 xr xf) (hT : tkXT b n lim p ta tk tst tw tc tn) : tkLS b n lim g gn t0 t1 wd st a ta tk tst tw tc tn cm cd cr cw cf1 cf2 cf3 cf4 cf5 lf2 lf3 xr xf := by
  obtain ⟨g2, gn2, u0, u1, h1, h2⟩ := h
  exact ⟨p, g2, gn2, u0, u1, h1, h2, hT⟩
theorem tkLN_ge {b : Nat → Int32} {n lim : Int} {g : Nat → Int32} {gn : Nat → Int64} {t0 t1 wd st a p : Int} {g2 : Nat → Int32} {gn2 : Nat → Int64} {u0 u1 : Int} (h : tkLN b n lim g gn t0 t1 wd st a 0 p g2 gn2 u0 u1) : a ≤ p ∧ (a ≤ n → p ≤ n) ∧ 0 ≤ wd := by
  have q1 := tkN_ge (b := b) (n := n) (lim := lim) (a := a)
  have q2 := tkN_ge (b := b) (n := n) (lim := lim) (a := tkN b n lim a)
  have q3 := tkN_ge (b := b) (n := n) (lim := lim) (a := tkN b n lim (tkN b n lim a))
  replace q1 := And.intro q1.1 q1.2.1
  replace q2 := And.intro q2.1 q2.2.1
  replace q3 := And.intro q3.1 q3.2.1
  unfold tkLN at h
  rcases h with ⟨e, h, _⟩ | ⟨e, h, _⟩ | ⟨e, h, _⟩ | ⟨e, h, _⟩ | ⟨e, h, _⟩ | ⟨e, h, _⟩ | ⟨e, h, _⟩ | ⟨n0, n1, n4, n5, n6, n7, n8, e, q⟩
  · obtain ⟨_, _, _, _, _, _, _, _, okp⟩ := fMan_ok h
    have hp : p = (tkN b n lim (tkN b n lim a)) := okp
    refine ⟨by omega, fun z => ?_, by omega⟩
    have y1 := q1.2 z
    have y2 := q2.2 y1
    have y3 := q3.2 y2
    omega
  · obtain ⟨_, _, _, _, _, _, _, _, _, okp⟩ := fDeed_ok h
    have hp : p = (tkN b n lim (tkN b n lim (tkN b n lim a))) := okp
    refine ⟨by omega, fun z => ?_, by omega⟩
    have y1 := q1.2 z
    have y2 := q2.2 y1
    have y3 := q3.2 y2
    omega
  · obtain ⟨_, _, _, _, _, _, _, _, _, _, okp⟩ := fDid_ok h
    have hp : p = (tkN b n lim (tkN b n lim (tkN b n lim a))) := okp
    refine ⟨by omega, fun z => ?_, by omega⟩
    have y1 := q1.2 z
    have y2 := q2.2 y1
    have y3 := q3.2 y2
    omega
  · obtain ⟨_, _, _, _, _, _, _, _, okp⟩ := fKin_ok h
    have hp : p = (tkN b n lim (tkN b n lim a)) := okp
    refine ⟨by omega, fun z => ?_, by omega⟩
    have y1 := q1.2 z
    have y2 := q2.2 y1
    have y3 := q3.2 y2
    omega
  · obtain ⟨_, _, _, _, _, _, _, _, _, _, _, okp⟩ := fOwes_ok h
    have hp : p = (tkN b n lim (tkN b n lim (tkN b n lim a))) := okp
    refine ⟨by omega, fun z => ?_, by omega⟩
    have y1 := q1.2 z
    have y2 := q2.2 y1
    have y3 := q3.2 y2
    omega
  · obtain ⟨_, _, _, _, okp⟩ := fRoom_ok h
    have hp : p = (tkN b n lim a) := okp
    refine ⟨by omega, fun z => ?_, by omega⟩
    have y1 := q1.2 z
    have y2 := q2.2 y1
    have y3 := q3.2 y2
    omega
  · obtain ⟨_, _, _, _, okp⟩ := fFaint_ok h
    have hp : p = (tkN b n lim a) := okp
    refine ⟨by omega, fun z => ?_, by omega⟩
    have y1 := q1.2 z
    have y2 := q2.2 y1
    have y3 := q3.2 y2
    omega
  · omega
def tkIV (b : Nat → Int32) (n lim : Int) (ta tk tst tw : Int32) (tc : Int64) (tn : Int32) (cm cd cr cw : Int32) (cf1 cf2 : Nat → Int64) (cf3 cf4 cf5 lf2 lf3 : Nat → Int32) (xr xf : Int32) (lines : Int) : Prop := lim = 900 ∧ ∃ (a : Int) (g : Nat → Int32) (gn : Nat → Int64) (t0 t1 : Int), tkXT b n lim a ta tk tst tw tc tn ∧ tkAX g gn t0 t1 cm cd cr cw cf1 cf2 cf3 cf4 cf5 lf2 lf3 xr xf ∧ tkGO b n g gn t0 t1 a lines ∧ 2 * lines ≤ a ∧ a ≤ n
def tkRF (b : Nat → Int32) (n k pl : Int) : Prop := ∃ (lf : Int) (gf : Nat → Int32) (nf : Nat → Int64), tkRES b n k pl lf gf nf
def tkRS (b : Nat → Int32) (n lf : Int) (cm cd cr cw : Int32) (cf1 cf2 : Nat → Int64) (cf3 cf4 cf5 lf2 lf3 : Nat → Int32) (xr xf : Int32) : Prop := ∃ (g : Nat → Int32) (gn : Nat → Int64) (t0 t1 : Int), tkRES b n 0 0 lf g gn ∧ tkAX g gn t0 t1 cm cd cr cw cf1 cf2 cf3 cf4 cf5 lf2 lf3 xr xf
theorem tkIV_bad {b : Nat → Int32} {n lim : Int} {ta tk tst tw : Int32} {tc : Int64} {tn : Int32} {lines : Int} {a : Int} {g g2 : Nat → Int32} {gn gn2 : Nat → Int64} {t0 t1 u0 u1 k pl : Int} (hl : lim = 900) (hT : tkXT b n lim a ta tk tst tw tc tn) (hG : tkGO b n g gn t0 t1 a lines) (hk : tk.toInt ≠ 3) (hL : tkLN b n lim g gn t0 t1 tw.toInt tst.toInt ta.toInt k pl g2 gn2 u0 u1) (h0 : ¬ (k = 0)) : tkRF b n k pl := by
  subst hl
  obtain ⟨e1, e2, e3, e4, _⟩ := hT
  rw [e1, e3, e4] at hL
  exact ⟨_, _, _, tkGO_bad hG (by omega) hL h0⟩
theorem tkIV_semi {b : Nat → Int32} {n lim : Int} {ta tk tst tw : Int32} {tc : Int64} {tn : Int32} {lines : Int} {a p k pl : Int} {g g2 : Nat → Int32} {gn gn2 : Nat → Int64} {t0 t1 u0 u1 : Int} (hl : lim = 900) (hT : tkXT b n lim a ta tk tst tw tc tn) (hG : tkGO b n g gn t0 t1 a lines) (hk : tk.toInt ≠ 3) (hL : tkLN b n lim g gn t0 t1 tw.toInt tst.toInt ta.toInt 0 p g2 gn2 u0 u1) {ta' tk' tst' tw' : Int32} {tc' : Int64} {tn' : Int32} (hT' : tkXT b n lim p ta' tk' tst' tw' tc' tn') (h0 : ¬ (tk'.toInt = 59)) (hk1 : k = 1) (hp1 : pl = tst'.toInt) : tkRF b n k pl := by
  subst hl
  obtain ⟨e1, e2, e3, e4, _⟩ := hT
  rw [e1, e3, e4] at hL
  obtain ⟨f1, f2, f3, f4, _⟩ := hT'
  have := tkGO_semi hG (by omega) hL (by omega)
  rw [hk1, hp1, f3]; exact ⟨_, _, _, this⟩
theorem tkIV_next {b : Nat → Int32} {n lim : Int} {ta tk tst tw : Int32} {tc : Int64} {tn : Int32} {cm cd cr cw : Int32} {cf1 cf2 : Nat → Int64} {cf3 cf4 cf5 lf2 lf3 : Nat → Int32} {xr xf : Int32} {lines : Int} {a p l2 : Int} {g g2 : Nat → Int32} {gn gn2 : Nat → Int64} {t0 t1 u0 u1 : Int} (hl : lim = 900) (hT : tkXT b n lim a ta tk tst tw tc tn) (hG : tkGO b n g gn t0 t1 a lines) (hB : 2 * lines ≤ a ∧ a ≤ n) (hk : tk.toInt ≠ 3) (hL : tkLN b n lim g gn t0 t1 tw.toInt tst.toInt ta.toInt 0 p g2 gn2 u0 u1) (hA : tkAX g2 gn2 u0 u1 cm cd cr cw cf1 cf2 cf3 cf4 cf5 lf2 lf3 xr xf) {ta' tk' tst' tw' ta2 tk2 tst2 tw2 : Int32} {tc' tc2 : Int64} {tn' tn2 : Int32} (hT' : tkXT b n lim p ta' tk' tst' tw' tc' tn') (h0 : tk'.toInt = 59) (hT2 : tkXT b n lim ta'.toInt ta2 tk2 tst2 tw2 tc2 tn2) (hl2 : l2 = lines + 1) : tkIV b n lim ta2 tk2 tst2 tw2 tc2 tn2 cm cd cr cw cf1 cf2 cf3 cf4 cf5 lf2 lf3 xr xf l2 := by
  subst hl
  obtain ⟨e1, e2, e3, e4, _⟩ := hT
  rw [e1, e3, e4] at hL
  obtain ⟨f1, f2, f3, f4, _⟩ := hT'
  rw [f1] at hT2
  have q := tkLN_ge hL
  have w1 := tkW_rg (b := b) (n := n) (lim := 900) (a := a)
  have q1 := tkN_ge (b := b) (n := n) (lim := 900) (a := a)
  have q2 := tkN_ge (b := b) (n := n) (lim := 900) (a := p)
  have y1 := q1.2.2 (by omega) (by omega)
  have y2 := q2.2.2 (by omega) (by omega)
  have y3 := q1.2.1 hB.2
  have y4 := q.2.1 y3
  have y5 := q2.2.1 y4
  refine ⟨rfl, _, g2, gn2, u0, u1, hT2, hA, ?_, by omega, y5⟩
  rw [hl2]; exact tkGO_step hG (by omega) hL (by omega)
theorem tkIV_end {b : Nat → Int32} {n lim : Int} {ta tk tst tw : Int32} {tc : Int64} {tn : Int32} {cm cd cr cw : Int32} {cf1 cf2 : Nat → Int64} {cf3 cf4 cf5 lf2 lf3 : Nat → Int32} {xr xf : Int32} {lines : Int} (h : tkIV b n lim ta tk tst tw tc tn cm cd cr cw cf1 cf2 cf3 cf4 cf5 lf2 lf3 xr xf lines) (hk : tk.toInt = 3) : tkRS b n lines cm cd cr cw cf1 cf2 cf3 cf4 cf5 lf2 lf3 xr xf := by
  obtain ⟨hl, a, g, gn, t0, t1, hT, hA, hG, hB⟩ := h
  subst hl
  exact ⟨g, gn, t0, t1, tkGO_end hG (by rw [← hT.2.1]; exact hk), hA⟩
def tkANS (b : Nat → Int32) (n r fk : Int) : Prop := ∃ (k pl lf : Int) (gf : Nat → Int32) (nf : Nat → Int64), tkRES b n k pl lf gf nf ∧ fk = k ∧ ((k ≠ 0 ∧ r = -1 - pl) ∨ (k = 0 ∧ r = lf))
theorem tkANS_det {b : Nat → Int32} {n r fk r' fk' : Int} (h : tkANS b n r fk) (h' : tkANS b n r' fk') : r = r' ∧ fk = fk' := by
  obtain ⟨k, pl, lf, gf, nf, h1, h2, h3⟩ := h
  obtain ⟨k', pl', lf', gf', nf', g1, g2, g3⟩ := h'
  obtain ⟨z1, z2, z3⟩ := tkRES_det h1 g1
  by_cases c : k = 0
  · have := (z3 c).1; omega
  · have := z2 c; omega
theorem tkANS_f {b : Nat → Int32} {n r fk k pl : Int} (h : tkRF b n k pl) (h0 : ¬ (k = 0)) (hk : fk = k) (hr : r = -1 - pl) : tkANS b n r fk := by
  obtain ⟨lf, gf, nf, h⟩ := h
  exact ⟨k, pl, lf, gf, nf, h, hk, Or.inl ⟨h0, hr⟩⟩
theorem tkANS_s {b : Nat → Int32} {n r fk lf : Int} {cm cd cr cw : Int32} {cf1 cf2 : Nat → Int64} {cf3 cf4 cf5 lf2 lf3 : Nat → Int32} {xr xf : Int32} (h : tkRS b n lf cm cd cr cw cf1 cf2 cf3 cf4 cf5 lf2 lf3 xr xf) (hk : fk = 0) (hr : r = lf) : tkANS b n r fk := by
  obtain ⟨g, gn, t0, t1, h, _⟩ := h
  exact ⟨0, 0, lf, g, gn, h, hk, Or.inr ⟨rfl, hr⟩⟩
def tkZ (f : Nat → Int32) (i : Int) : Prop := ∀ j : Nat, (j : Int) < i → f j = 0
theorem tkZ_0 {f : Nat → Int32} {i : Int} (h : i ≤ 0) : tkZ f i := fun j hj => absurd hj (by omega)
theorem tkZ_s {f g : Nat → Int32} {x z v : Int32} (h : tkZ f x.toInt) (hx : 0 ≤ x.toInt) (hz : z.toInt = x.toInt + 1) (hv : v = 0) (e : g = upd f x.toNatClampNeg v) : tkZ g z.toInt := by
  have h1 := cl_nn hx
  intro j hj
  rw [e]
  by_cases c : j = x.toNatClampNeg
  · rw [c, pk_us, hv]
  · rw [pk_un c]; exact h j (by omega)
theorem tkAX_0 {cm cd cr cw : Int32} {cf1 cf2 : Nat → Int64} {cf3 cf4 cf5 lf2 lf3 : Nat → Int32} {xr xf : Int32} (h1 : cm.toInt = 0) (h2 : cd.toInt = 0) (h3 : cr = 60) (h4 : cw = 10) (z2 : tkZ lf2 70) (z5 : tkZ cf5 7) (z3 : tkZ lf3 49) (h5 : xr.toInt = 0) (h6 : xf.toInt = 0) : tkAX tkG0 (fun _ => 0) 0 0 cm cd cr cw cf1 cf2 cf3 cf4 cf5 lf2 lf3 xr xf := by
  have k0 : (0 : Int32).toInt = 0 := by decide
  refine ⟨⟨by rw [h1]; rfl, by rw [h2]; rfl, h3, h4⟩, by omega, fun j hj => absurd hj (by omega), fun j hj => absurd hj (by omega), fun j hj => ?_, fun j hj => ?_, fun j hj => ?_, fun j hj => absurd hj (by omega), fun j hj => absurd hj (by omega), h5, h6⟩
  · rw [z2 j (by omega)]; unfold tkG0; rw [if_neg (by omega), if_neg (by omega)]
  · rw [z5 j (by omega)]; unfold tkG0; rw [if_neg (by omega), if_neg (by omega)]
  · rw [z3 j (by omega)]; unfold tkG0; rw [if_neg (by omega), if_neg (by omega)]
