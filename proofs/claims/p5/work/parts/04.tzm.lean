/-- the rows of the reference's reader are those of the state -/
def tkAM (g : Nat → Int32) (gn : Nat → Int64) (t0 t1 : Int) (mrf : Nat → Int32) (mrnf : Nat → Int64) (monf : Nat → Int32) : Prop :=
  (∀ j : Nat, j < 157 → mrf j = g j) ∧ (0 ≤ (g 0).toInt ∧ (g 0).toInt ≤ 7 ∧ 0 ≤ (g 1).toInt ∧ (g 1).toInt ≤ 10) ∧ (∀ j : Nat, (j : Int) < (g 0).toInt → tkvc 7 (gn j).toInt ∧ (mrnf j).toInt = tkcv 7 (gn j).toInt) ∧ (∀ j : Nat, (j : Int) < (g 1).toInt → tkvc 7 (gn (7 + j)).toInt ∧ (mrnf (7 + j)).toInt = tkcv 7 (gn (7 + j)).toInt) ∧ (monf 0).toInt = t0 ∧ (monf 1).toInt = t1
theorem tkAM.sm {b : Nat → Int32} {n lim : Int} {g : Nat → Int32} {gn : Nat → Int64} {t0 t1 : Int} {mrf : Nat → Int32} {mrnf : Nat → Int64} {monf : Nat → Int32} (h : tkAM g gn t0 t1 mrf mrnf monf) {p : Int} (hk : tkK b n lim p = 1) : tksr mrnf 0 (tkD b n p) (mrf 0).toInt 0 = tksr gn 0 (tkC b n p) (g 0).toInt 0 := by
  obtain ⟨h1, hb, h2, _⟩ := h
  have hw := tkword hk
  rw [h1 0 (by decide)]
  refine tksr_like (fun j a1 a2 => ?_)
  have q := h2 (0 + j).toNat (by omega)
  exact (tkcode_iff q.1 q.2 hw.1 hw.2).symm
theorem tkAM.sd {b : Nat → Int32} {n lim : Int} {g : Nat → Int32} {gn : Nat → Int64} {t0 t1 : Int} {mrf : Nat → Int32} {mrnf : Nat → Int64} {monf : Nat → Int32} (h : tkAM g gn t0 t1 mrf mrnf monf) {p : Int} (hk : tkK b n lim p = 1) : tksr mrnf 7 (tkD b n p) (mrf 1).toInt 0 = tksr gn 7 (tkC b n p) (g 1).toInt 0 := by
  obtain ⟨h1, hb, _, h2, _⟩ := h
  have hw := tkword hk
  rw [h1 1 (by decide)]
  refine tksr_like (fun j a1 a2 => ?_)
  have q := h2 j.toNat (by omega)
  rw [show 7 + j.toNat = (7 + j).toNat by omega] at q
  exact (tkcode_iff q.1 q.2 hw.1 hw.2).symm
theorem tkAM.rm {g : Nat → Int32} {gn : Nat → Int64} {t0 t1 : Int} {mrf : Nat → Int32} {mrnf : Nat → Int64} {monf : Nat → Int32} (h : tkAM g gn t0 t1 mrf mrnf monf) (c : Int64) : tksr gn 0 c (g 0).toInt 0 = -1 ∨ (0 ≤ tksr gn 0 c (g 0).toInt 0 ∧ tksr gn 0 c (g 0).toInt 0 ≤ 6) := by
  obtain ⟨_, hb, _⟩ := h
  have := tksr_rg (f := gn) (o := 0) (c := c) (n := (g 0).toInt)
  omega
theorem tkAM.rd {g : Nat → Int32} {gn : Nat → Int64} {t0 t1 : Int} {mrf : Nat → Int32} {mrnf : Nat → Int64} {monf : Nat → Int32} (h : tkAM g gn t0 t1 mrf mrnf monf) (c : Int64) : tksr gn 7 c (g 1).toInt 0 = -1 ∨ (0 ≤ tksr gn 7 c (g 1).toInt 0 ∧ tksr gn 7 c (g 1).toInt 0 ≤ 9) := by
  obtain ⟨_, hb, _⟩ := h
  have := tksr_rg (f := gn) (o := 7) (c := c) (n := (g 1).toInt)
  omega
theorem fMan_cg {st men K1 W1 S1 km kd K2 V2 S2 N2 km' kd' k pl : Int} (h : fMan st men K1 W1 S1 km kd K2 V2 S2 N2 k pl) (e0 : K1 = 1 → km = km' ∧ kd = kd') : fMan st men K1 W1 S1 km' kd' K2 V2 S2 N2 k pl := by
  unfold fMan at h ⊢
  rcases h with h | ⟨a0_0, h | ⟨a1_0, a1_1, h | ⟨a2_0, a2_1, h⟩⟩⟩
  · exact Or.inl h
  · exact Or.inr (⟨a0_0, Or.inl h⟩)
  · have y0 := (e0 a1_0).1; have y1 := (e0 a1_0).2; exact Or.inr (⟨a0_0, Or.inr (⟨a1_0, a1_1, Or.inl ⟨(by omega), (by omega), (by omega)⟩⟩)⟩)
  · have y0 := (e0 a1_0).1; have y1 := (e0 a1_0).2; exact Or.inr (⟨a0_0, Or.inr (⟨a1_0, a1_1, Or.inr (⟨(by omega), (by omega), h⟩)⟩)⟩)
theorem fDeed_cg {st deeds K1 W1 S1 km kd W2 S2 K3 V3 S3 N3 km' kd' k pl : Int} (h : fDeed st deeds K1 W1 S1 km kd W2 S2 K3 V3 S3 N3 k pl) (e0 : K1 = 1 → km = km' ∧ kd = kd') : fDeed st deeds K1 W1 S1 km' kd' W2 S2 K3 V3 S3 N3 k pl := by
  unfold fDeed at h ⊢
  rcases h with h | ⟨a0_0, h | ⟨a1_0, a1_1, h | ⟨a2_0, a2_1, h⟩⟩⟩
  · exact Or.inl h
  · exact Or.inr (⟨a0_0, Or.inl h⟩)
  · have y0 := (e0 a1_0).1; have y1 := (e0 a1_0).2; exact Or.inr (⟨a0_0, Or.inr (⟨a1_0, a1_1, Or.inl ⟨(by omega), (by omega), (by omega)⟩⟩)⟩)
  · have y0 := (e0 a1_0).1; have y1 := (e0 a1_0).2; exact Or.inr (⟨a0_0, Or.inr (⟨a1_0, a1_1, Or.inr (⟨(by omega), (by omega), h⟩)⟩)⟩)
theorem fDid_cg {K1 W1 S1 m1 K2 W2 S2 d2 old K3 V3 S3 N3 m1' d2' k pl : Int} (h : fDid K1 W1 S1 m1 K2 W2 S2 d2 old K3 V3 S3 N3 k pl) (e0 : K1 = 1 → m1 = m1') (e1 : K2 = 1 → d2 = d2') : fDid K1 W1 S1 m1' K2 W2 S2 d2' old K3 V3 S3 N3 k pl := by
  unfold fDid at h ⊢
  rcases h with h | ⟨a0_0, a0_1, h | ⟨a1_0, h | ⟨a2_0, a2_1, h | ⟨a3_0, h⟩⟩⟩⟩
  · exact Or.inl h
  · have y0 := (e0 a0_0); exact Or.inr (⟨a0_0, a0_1, Or.inl ⟨(by omega), (by omega), (by omega)⟩⟩)
  · have y0 := (e0 a0_0); exact Or.inr (⟨a0_0, a0_1, Or.inr (⟨(by omega), Or.inl h⟩)⟩)
  · have y0 := (e0 a0_0); have y1 := (e1 a2_0); exact Or.inr (⟨a0_0, a0_1, Or.inr (⟨(by omega), Or.inr (⟨a2_0, a2_1, Or.inl ⟨(by omega), (by omega), (by omega)⟩⟩)⟩)⟩)
  · have y0 := (e0 a0_0); have y1 := (e1 a2_0); exact Or.inr (⟨a0_0, a0_1, Or.inr (⟨(by omega), Or.inr (⟨a2_0, a2_1, Or.inr (⟨(by omega), h⟩)⟩)⟩)⟩)
theorem fKin_cg {K1 W1 S1 m1 K2 W2 S2 m2 old p3 m1' m2' k pl : Int} (h : fKin K1 W1 S1 m1 K2 W2 S2 m2 old p3 k pl) (e0 : K1 = 1 → m1 = m1') (e1 : K2 = 1 → m2 = m2') : fKin K1 W1 S1 m1' K2 W2 S2 m2' old p3 k pl := by
  unfold fKin at h ⊢
  rcases h with h | ⟨a0_0, a0_1, h | ⟨a1_0, h | ⟨a2_0, a2_1, h | ⟨a3_0, h | ⟨a4_0, h⟩⟩⟩⟩⟩
  · exact Or.inl h
  · have y0 := (e0 a0_0); exact Or.inr (⟨a0_0, a0_1, Or.inl ⟨(by omega), (by omega), (by omega)⟩⟩)
  · have y0 := (e0 a0_0); exact Or.inr (⟨a0_0, a0_1, Or.inr (⟨(by omega), Or.inl h⟩)⟩)
  · have y0 := (e0 a0_0); have y1 := (e1 a2_0); exact Or.inr (⟨a0_0, a0_1, Or.inr (⟨(by omega), Or.inr (⟨a2_0, a2_1, Or.inl ⟨(by omega), (by omega), (by omega)⟩⟩)⟩)⟩)
  · have y0 := (e0 a0_0); have y1 := (e1 a2_0); exact Or.inr (⟨a0_0, a0_1, Or.inr (⟨(by omega), Or.inr (⟨a2_0, a2_1, Or.inr (⟨(by omega), Or.inl ⟨(by omega), (by omega), (by omega)⟩⟩)⟩)⟩)⟩)
  · have y0 := (e0 a0_0); have y1 := (e1 a2_0); exact Or.inr (⟨a0_0, a0_1, Or.inr (⟨(by omega), Or.inr (⟨a2_0, a2_1, Or.inr (⟨(by omega), Or.inr (⟨(by omega), h⟩)⟩)⟩)⟩)⟩)
theorem fOwes_cg {K1 W1 S1 m1 K2 W2 S2 m2 old K3 V3 S3 N3 m1' m2' k pl : Int} (h : fOwes K1 W1 S1 m1 K2 W2 S2 m2 old K3 V3 S3 N3 k pl) (e0 : K1 = 1 → m1 = m1') (e1 : K2 = 1 → m2 = m2') : fOwes K1 W1 S1 m1' K2 W2 S2 m2' old K3 V3 S3 N3 k pl := by
  unfold fOwes at h ⊢
  rcases h with h | ⟨a0_0, a0_1, h | ⟨a1_0, h | ⟨a2_0, a2_1, h | ⟨a3_0, h | ⟨a4_0, h⟩⟩⟩⟩⟩
  · exact Or.inl h
  · have y0 := (e0 a0_0); exact Or.inr (⟨a0_0, a0_1, Or.inl ⟨(by omega), (by omega), (by omega)⟩⟩)
  · have y0 := (e0 a0_0); exact Or.inr (⟨a0_0, a0_1, Or.inr (⟨(by omega), Or.inl h⟩)⟩)
  · have y0 := (e0 a0_0); have y1 := (e1 a2_0); exact Or.inr (⟨a0_0, a0_1, Or.inr (⟨(by omega), Or.inr (⟨a2_0, a2_1, Or.inl ⟨(by omega), (by omega), (by omega)⟩⟩)⟩)⟩)
  · have y0 := (e0 a0_0); have y1 := (e1 a2_0); exact Or.inr (⟨a0_0, a0_1, Or.inr (⟨(by omega), Or.inr (⟨a2_0, a2_1, Or.inr (⟨(by omega), Or.inl ⟨(by omega), (by omega), (by omega)⟩⟩)⟩)⟩)⟩)
  · have y0 := (e0 a0_0); have y1 := (e1 a2_0); exact Or.inr (⟨a0_0, a0_1, Or.inr (⟨(by omega), Or.inr (⟨a2_0, a2_1, Or.inr (⟨(by omega), Or.inr (⟨(by omega), h⟩)⟩)⟩)⟩)⟩)
theorem tkAM.Man_f {b : Nat → Int32} {n lim : Int} {g : Nat → Int32} {gn : Nat → Int64} {t0 t1 wd st a k pl : Int} {mrf : Nat → Int32} {mrnf : Nat → Int64} {monf : Nat → Int32} (h : tkAM g gn t0 t1 mrf mrnf monf) (hw : wd = 0) (hf : fMan (st) ((mrf 0).toInt) ((tkK b n lim a)) ((tkW b n lim a)) ((tkS b n lim a)) ((tksr mrnf 0 (tkD b n a) (mrf 0).toInt 0)) ((tksr mrnf 7 (tkD b n a) (mrf 1).toInt 0)) ((tkK b n lim (tkN b n lim a))) ((tkVi b n (tkN b n lim a)).toInt) ((tkS b n lim (tkN b n lim a))) ((tkN b n lim (tkN b n lim a))) k pl) (h0 : ¬ (k = 0)) : tkLN b n lim g gn t0 t1 wd st a k pl g gn t0 t1 := by
  have hf := fMan_cg hf (fun z => ⟨h.sm z, h.sd z⟩)
  rw [h.1 0 (by decide)] at hf
  exact Or.inl ⟨hw, hf, fun z => absurd z h0⟩
theorem tkAM.Deed_f {b : Nat → Int32} {n lim : Int} {g : Nat → Int32} {gn : Nat → Int64} {t0 t1 wd st a k pl : Int} {mrf : Nat → Int32} {mrnf : Nat → Int64} {monf : Nat → Int32} (h : tkAM g gn t0 t1 mrf mrnf monf) (hw : wd = 1) (hf : fDeed (st) ((mrf 1).toInt) ((tkK b n lim a)) ((tkW b n lim a)) ((tkS b n lim a)) ((tksr mrnf 0 (tkD b n a) (mrf 0).toInt 0)) ((tksr mrnf 7 (tkD b n a) (mrf 1).toInt 0)) ((tkW b n lim (tkN b n lim a))) ((tkS b n lim (tkN b n lim a))) ((tkK b n lim (tkN b n lim (tkN b n lim a)))) ((tkVi b n (tkN b n lim (tkN b n lim a))).toInt) ((tkS b n lim (tkN b n lim (tkN b n lim a)))) ((tkN b n lim (tkN b n lim (tkN b n lim a)))) k pl) (h0 : ¬ (k = 0)) : tkLN b n lim g gn t0 t1 wd st a k pl g gn t0 t1 := by
  have hf := fDeed_cg hf (fun z => ⟨h.sm z, h.sd z⟩)
  rw [h.1 1 (by decide)] at hf
  exact Or.inr (Or.inl ⟨hw, hf, fun z => absurd z h0⟩)
theorem tkAM.Did_f {b : Nat → Int32} {n lim : Int} {g : Nat → Int32} {gn : Nat → Int64} {t0 t1 wd st a k pl : Int} {mrf : Nat → Int32} {mrnf : Nat → Int64} {monf : Nat → Int32} (h : tkAM g gn t0 t1 mrf mrnf monf) (hw : wd = 4) (hf : fDid ((tkK b n lim a)) ((tkW b n lim a)) ((tkS b n lim a)) ((tksr mrnf 0 (tkD b n a) (mrf 0).toInt 0)) ((tkK b n lim (tkN b n lim a))) ((tkW b n lim (tkN b n lim a))) ((tkS b n lim (tkN b n lim a))) ((tksr mrnf 7 (tkD b n (tkN b n lim a)) (mrf 1).toInt 0)) ((mrf (31 + ((tksr mrnf 0 (tkD b n a) (mrf 0).toInt 0) * 10 + (tksr mrnf 7 (tkD b n (tkN b n lim a)) (mrf 1).toInt 0))).toNat).toInt) ((tkK b n lim (tkN b n lim (tkN b n lim a)))) ((tkVi b n (tkN b n lim (tkN b n lim a))).toInt) ((tkS b n lim (tkN b n lim (tkN b n lim a)))) ((tkN b n lim (tkN b n lim (tkN b n lim a)))) k pl) (h0 : ¬ (k = 0)) : tkLN b n lim g gn t0 t1 wd st a k pl g gn t0 t1 := by
  have r1 := h.rm (tkC b n a)
  have r2 := h.rd (tkC b n (tkN b n lim a))
  have hq : ∀ (z1 : tkK b n lim a = 1) (z2 : tkK b n lim (tkN b n lim a) = 1), (31 + ((tksr mrnf 0 (tkD b n a) (mrf 0).toInt 0) * 10 + (tksr mrnf 7 (tkD b n (tkN b n lim a)) (mrf 1).toInt 0))) = (31 + ((tksr gn 0 (tkC b n a) (g 0).toInt 0) * 10 + (tksr gn 7 (tkC b n (tkN b n lim a)) (g 1).toInt 0))) := fun z1 z2 => by rw [h.sm z1, h.sd z2]
  have hf := fDid_cg hf (fun z => h.sm z) (fun z => h.sd z)
  have hf : fDid ((tkK b n lim a)) ((tkW b n lim a)) ((tkS b n lim a)) ((tksr gn 0 (tkC b n a) (g 0).toInt 0)) ((tkK b n lim (tkN b n lim a))) ((tkW b n lim (tkN b n lim a))) ((tkS b n lim (tkN b n lim a))) ((tksr gn 7 (tkC b n (tkN b n lim a)) (g 1).toInt 0)) ((g (31 + ((tksr gn 0 (tkC b n a) (g 0).toInt 0) * 10 + (tksr gn 7 (tkC b n (tkN b n lim a)) (g 1).toInt 0))).toNat).toInt) ((tkK b n lim (tkN b n lim (tkN b n lim a)))) ((tkVi b n (tkN b n lim (tkN b n lim a))).toInt) ((tkS b n lim (tkN b n lim (tkN b n lim a)))) ((tkN b n lim (tkN b n lim (tkN b n lim a)))) k pl := by
    refine fDid_old hf (fun y1 y2 z1 z2 => ?_)
    rw [hq y1 y2, h.1 (31 + ((tksr gn 0 (tkC b n a) (g 0).toInt 0) * 10 + (tksr gn 7 (tkC b n (tkN b n lim a)) (g 1).toInt 0))).toNat (by omega)]
  exact Or.inr (Or.inr (Or.inl ⟨hw, hf, fun z => absurd z h0⟩))
theorem tkAM.Kin_f {b : Nat → Int32} {n lim : Int} {g : Nat → Int32} {gn : Nat → Int64} {t0 t1 wd st a k pl : Int} {mrf : Nat → Int32} {mrnf : Nat → Int64} {monf : Nat → Int32} (h : tkAM g gn t0 t1 mrf mrnf monf) (hw : wd = 5) (hf : fKin ((tkK b n lim a)) ((tkW b n lim a)) ((tkS b n lim a)) ((tksr mrnf 0 (tkD b n a) (mrf 0).toInt 0)) ((tkK b n lim (tkN b n lim a))) ((tkW b n lim (tkN b n lim a))) ((tkS b n lim (tkN b n lim a))) ((tksr mrnf 0 (tkD b n (tkN b n lim a)) (mrf 0).toInt 0)) (tkHas (mrf (101 + (tksr mrnf 0 (tkD b n a) (mrf 0).toInt 0)).toNat) (tksr mrnf 0 (tkD b n (tkN b n lim a)) (mrf 0).toInt 0)) ((tkN b n lim (tkN b n lim a))) k pl) (h0 : ¬ (k = 0)) : tkLN b n lim g gn t0 t1 wd st a k pl g gn t0 t1 := by
  have r1 := h.rm (tkC b n a)
  have r2 := h.rm (tkC b n (tkN b n lim a))
  have hf := fKin_cg hf (fun z => h.sm z) (fun z => h.sm z)
  have hf : fKin ((tkK b n lim a)) ((tkW b n lim a)) ((tkS b n lim a)) ((tksr gn 0 (tkC b n a) (g 0).toInt 0)) ((tkK b n lim (tkN b n lim a))) ((tkW b n lim (tkN b n lim a))) ((tkS b n lim (tkN b n lim a))) ((tksr gn 0 (tkC b n (tkN b n lim a)) (g 0).toInt 0)) (tkHas (g (101 + (tksr gn 0 (tkC b n a) (g 0).toInt 0)).toNat) (tksr gn 0 (tkC b n (tkN b n lim a)) (g 0).toInt 0)) ((tkN b n lim (tkN b n lim a))) k pl := by
    refine fKin_old hf (fun y1 y2 z1 z2 => ?_)
    rw [h.sm y1, h.sm y2, h.1 (101 + (tksr gn 0 (tkC b n a) (g 0).toInt 0)).toNat (by omega)]
  exact Or.inr (Or.inr (Or.inr (Or.inl ⟨hw, hf, fun z => absurd z h0⟩)))
theorem tkAM.Owes_f {b : Nat → Int32} {n lim : Int} {g : Nat → Int32} {gn : Nat → Int64} {t0 t1 wd st a k pl : Int} {mrf : Nat → Int32} {mrnf : Nat → Int64} {monf : Nat → Int32} (h : tkAM g gn t0 t1 mrf mrnf monf) (hw : wd = 6) (hf : fOwes ((tkK b n lim a)) ((tkW b n lim a)) ((tkS b n lim a)) ((tksr mrnf 0 (tkD b n a) (mrf 0).toInt 0)) ((tkK b n lim (tkN b n lim a))) ((tkW b n lim (tkN b n lim a))) ((tkS b n lim (tkN b n lim a))) ((tksr mrnf 0 (tkD b n (tkN b n lim a)) (mrf 0).toInt 0)) ((mrf (108 + ((tksr mrnf 0 (tkD b n a) (mrf 0).toInt 0) * 7 + (tksr mrnf 0 (tkD b n (tkN b n lim a)) (mrf 0).toInt 0))).toNat).toInt) ((tkK b n lim (tkN b n lim (tkN b n lim a)))) ((tkVi b n (tkN b n lim (tkN b n lim a))).toInt) ((tkS b n lim (tkN b n lim (tkN b n lim a)))) ((tkN b n lim (tkN b n lim (tkN b n lim a)))) k pl) (h0 : ¬ (k = 0)) : tkLN b n lim g gn t0 t1 wd st a k pl g gn t0 t1 := by
  have r1 := h.rm (tkC b n a)
  have r2 := h.rm (tkC b n (tkN b n lim a))
  have hq : ∀ (z1 : tkK b n lim a = 1) (z2 : tkK b n lim (tkN b n lim a) = 1), (108 + ((tksr mrnf 0 (tkD b n a) (mrf 0).toInt 0) * 7 + (tksr mrnf 0 (tkD b n (tkN b n lim a)) (mrf 0).toInt 0))) = (108 + ((tksr gn 0 (tkC b n a) (g 0).toInt 0) * 7 + (tksr gn 0 (tkC b n (tkN b n lim a)) (g 0).toInt 0))) := fun z1 z2 => by rw [h.sm z1, h.sm z2]
  have hf := fOwes_cg hf (fun z => h.sm z) (fun z => h.sm z)
  have hf : fOwes ((tkK b n lim a)) ((tkW b n lim a)) ((tkS b n lim a)) ((tksr gn 0 (tkC b n a) (g 0).toInt 0)) ((tkK b n lim (tkN b n lim a))) ((tkW b n lim (tkN b n lim a))) ((tkS b n lim (tkN b n lim a))) ((tksr gn 0 (tkC b n (tkN b n lim a)) (g 0).toInt 0)) ((g (108 + ((tksr gn 0 (tkC b n a) (g 0).toInt 0) * 7 + (tksr gn 0 (tkC b n (tkN b n lim a)) (g 0).toInt 0))).toNat).toInt) ((tkK b n lim (tkN b n lim (tkN b n lim a)))) ((tkVi b n (tkN b n lim (tkN b n lim a))).toInt) ((tkS b n lim (tkN b n lim (tkN b n lim a)))) ((tkN b n lim (tkN b n lim (tkN b n lim a)))) k pl := by
    refine fOwes_old hf (fun y1 y2 z1 z2 => ?_)
    rw [hq y1 y2, h.1 (108 + ((tksr gn 0 (tkC b n a) (g 0).toInt 0) * 7 + (tksr gn 0 (tkC b n (tkN b n lim a)) (g 0).toInt 0))).toNat (by omega)]
  exact Or.inr (Or.inr (Or.inr (Or.inr (Or.inl ⟨hw, hf, fun z => absurd z h0⟩))))
theorem tkAM.Room_f {b : Nat → Int32} {n lim : Int} {g : Nat → Int32} {gn : Nat → Int64} {t0 t1 wd st a k pl : Int} {mrf : Nat → Int32} {mrnf : Nat → Int64} {monf : Nat → Int32} (h : tkAM g gn t0 t1 mrf mrnf monf) (hw : wd = 7) (hf : fRoom (st) ((monf 0).toInt) ((tkK b n lim a)) ((tkVi b n a).toInt) ((tkS b n lim a)) ((tkN b n lim a)) k pl) (h0 : ¬ (k = 0)) : tkLN b n lim g gn t0 t1 wd st a k pl g gn t0 t1 := by
  rw [h.2.2.2.2.1] at hf
  exact Or.inr (Or.inr (Or.inr (Or.inr (Or.inr (Or.inl ⟨hw, hf, fun z => absurd z h0⟩)))))
theorem tkAM.Faint_f {b : Nat → Int32} {n lim : Int} {g : Nat → Int32} {gn : Nat → Int64} {t0 t1 wd st a k pl : Int} {mrf : Nat → Int32} {mrnf : Nat → Int64} {monf : Nat → Int32} (h : tkAM g gn t0 t1 mrf mrnf monf) (hw : wd = 8) (hf : fFaint (st) ((monf 1).toInt) ((tkK b n lim a)) ((tkVi b n a).toInt) ((tkS b n lim a)) ((tkN b n lim a)) k pl) (h0 : ¬ (k = 0)) : tkLN b n lim g gn t0 t1 wd st a k pl g gn t0 t1 := by
  rw [h.2.2.2.2.2] at hf
  exact Or.inr (Or.inr (Or.inr (Or.inr (Or.inr (Or.inr (Or.inl ⟨hw, hf, fun z => absurd z h0⟩))))))
theorem tkAM.Man_s {b : Nat → Int32} {n lim : Int} {g : Nat → Int32} {gn : Nat → Int64} {t0 t1 wd st a : Int} {mrf : Nat → Int32} {mrnf : Nat → Int64} {monf : Nat → Int32} (h : tkAM g gn t0 t1 mrf mrnf monf) (hw : wd = 0) (hf : fMan (st) ((mrf 0).toInt) ((tkK b n lim a)) ((tkW b n lim a)) ((tkS b n lim a)) ((tksr mrnf 0 (tkD b n a) (mrf 0).toInt 0)) ((tksr mrnf 7 (tkD b n a) (mrf 1).toInt 0)) ((tkK b n lim (tkN b n lim a))) ((tkVi b n (tkN b n lim a)).toInt) ((tkS b n lim (tkN b n lim a))) ((tkN b n lim (tkN b n lim a))) 0 (tkN b n lim (tkN b n lim a))) {mrf' : Nat → Int32} {mrnf' : Nat → Int64} (e1 : mrnf' = vp_updL mrnf ((mrf 0).toInt).toNat (tkD b n a)) (e2 : mrf' = upd (upd mrf (4 + (mrf 0).toInt).toNat (tkVi b n (tkN b n lim a))) 0 (mrf 0 + 1)) : ∃ (g2 : Nat → Int32) (gn2 : Nat → Int64) (u0 u1 : Int), tkLN b n lim g gn t0 t1 wd st a 0 (tkN b n lim (tkN b n lim a)) g2 gn2 u0 u1 ∧ tkAM g2 gn2 u0 u1 mrf' mrnf' monf := by
  have hf := fMan_cg hf (fun z => ⟨h.sm z, h.sd z⟩)
  rw [h.1 0 (by decide)] at hf
  refine ⟨upd (upd g (4 + (g 0).toInt).toNat (tkVi b n (tkN b n lim a))) 0 (g 0 + 1), vp_updL gn (g 0).toInt.toNat (tkC b n a), t0, t1, Or.inl ⟨hw, hf, fun _ => ⟨rfl, rfl, rfl, rfl⟩⟩, ?_⟩
  obtain ⟨ok0, ok1, ok2, ok3, ok4, ok5, ok6, ok7, ok8⟩ := fMan_ok hf
  clear hf
  obtain ⟨h1, hb, h2, h3, h4, h5⟩ := h
  have k1 : (1 : Int32).toInt = 1 := by decide
  have e0 : (g 0 + 1).toInt = (g 0).toInt + 1 := by rw [← k1]; exact i_add rfl (by omega) (by omega)
  have hw9 := tkword (show tkK b n lim a = 1 by omega)
  rw [h1 0 (by decide)] at e1 e2
  refine ⟨fun j hj => ?_, ?_, fun j hj => ?_, fun j hj => ?_, h4, h5⟩
  · rw [e2]
    by_cases c0 : j = 0
    · rw [c0, pk_us, pk_us]
    · rw [pk_un c0, pk_un c0]
      by_cases c1 : j = (4 + (g 0).toInt).toNat
      · rw [c1, pk_us, pk_us]
      · rw [pk_un c1, pk_un c1]; exact h1 j hj
  · rw [pk_us, pk_un (show (1 : Nat) ≠ 0 by decide), pk_un (show (1 : Nat) ≠ (4 + (g 0).toInt).toNat by omega), e0]; omega
  · rw [pk_us, e0] at hj
    rw [e1]
    by_cases c : j = (g 0).toInt.toNat
    · rw [c, pk_uLs, pk_uLs]; exact hw9
    · rw [pk_uLn c, pk_uLn c]; exact h2 j (by omega)
  · rw [pk_un (show (1 : Nat) ≠ 0 by decide), pk_un (show (1 : Nat) ≠ (4 + (g 0).toInt).toNat by omega)] at hj
    rw [e1, pk_uLn (show 7 + j ≠ (g 0).toInt.toNat by omega), pk_uLn (show 7 + j ≠ (g 0).toInt.toNat by omega)]; exact h3 j hj
theorem tkAM.Deed_s {b : Nat → Int32} {n lim : Int} {g : Nat → Int32} {gn : Nat → Int64} {t0 t1 wd st a : Int} {mrf : Nat → Int32} {mrnf : Nat → Int64} {monf : Nat → Int32} (h : tkAM g gn t0 t1 mrf mrnf monf) (hw : wd = 1) (hf : fDeed (st) ((mrf 1).toInt) ((tkK b n lim a)) ((tkW b n lim a)) ((tkS b n lim a)) ((tksr mrnf 0 (tkD b n a) (mrf 0).toInt 0)) ((tksr mrnf 7 (tkD b n a) (mrf 1).toInt 0)) ((tkW b n lim (tkN b n lim a))) ((tkS b n lim (tkN b n lim a))) ((tkK b n lim (tkN b n lim (tkN b n lim a)))) ((tkVi b n (tkN b n lim (tkN b n lim a))).toInt) ((tkS b n lim (tkN b n lim (tkN b n lim a)))) ((tkN b n lim (tkN b n lim (tkN b n lim a)))) 0 (tkN b n lim (tkN b n lim (tkN b n lim a)))) {mrf' : Nat → Int32} {mrnf' : Nat → Int64} (e1 : mrnf' = vp_updL mrnf (7 + (mrf 1).toInt).toNat (tkD b n a)) (e2 : mrf' = upd (upd (upd mrf (21 + (mrf 1).toInt).toNat (if (tkW b n lim (tkN b n lim a)) = 3 then 1 else 0)) (11 + (mrf 1).toInt).toNat (tkVi b n (tkN b n lim (tkN b n lim a)))) 1 (mrf 1 + 1)) : ∃ (g2 : Nat → Int32) (gn2 : Nat → Int64) (u0 u1 : Int), tkLN b n lim g gn t0 t1 wd st a 0 (tkN b n lim (tkN b n lim (tkN b n lim a))) g2 gn2 u0 u1 ∧ tkAM g2 gn2 u0 u1 mrf' mrnf' monf := by
  have hf := fDeed_cg hf (fun z => ⟨h.sm z, h.sd z⟩)
  rw [h.1 1 (by decide)] at hf
  refine ⟨upd (upd (upd g (21 + (g 1).toInt).toNat (if (tkW b n lim (tkN b n lim a)) = 3 then 1 else 0)) (11 + (g 1).toInt).toNat (tkVi b n (tkN b n lim (tkN b n lim a)))) 1 (g 1 + 1), vp_updL gn (7 + (g 1).toInt).toNat (tkC b n a), t0, t1, Or.inr (Or.inl ⟨hw, hf, fun _ => ⟨rfl, rfl, rfl, rfl⟩⟩), ?_⟩
  obtain ⟨ok0, ok1, ok2, ok3, ok4, ok5, ok6, ok7, ok8, ok9⟩ := fDeed_ok hf
  clear hf
  obtain ⟨h1, hb, h2, h3, h4, h5⟩ := h
  have k1 : (1 : Int32).toInt = 1 := by decide
  have e0 : (g 1 + 1).toInt = (g 1).toInt + 1 := by rw [← k1]; exact i_add rfl (by omega) (by omega)
  have hw9 := tkword (show tkK b n lim a = 1 by omega)
  rw [h1 1 (by decide)] at e1 e2
  refine ⟨fun j hj => ?_, ?_, fun j hj => ?_, fun j hj => ?_, h4, h5⟩
  · rw [e2]
    by_cases c0 : j = 1
    · rw [c0, pk_us, pk_us]
    · rw [pk_un c0, pk_un c0]
      by_cases c1 : j = (11 + (g 1).toInt).toNat
      · rw [c1, pk_us, pk_us]
      · rw [pk_un c1, pk_un c1]
        by_cases c2 : j = (21 + (g 1).toInt).toNat
        · rw [c2, pk_us, pk_us]
        · rw [pk_un c2, pk_un c2]; exact h1 j hj
  · rw [pk_us, pk_un (show (0 : Nat) ≠ 1 by decide), pk_un (show (0 : Nat) ≠ (11 + (g 1).toInt).toNat by omega), pk_un (show (0 : Nat) ≠ (21 + (g 1).toInt).toNat by omega), e0]; omega
  · rw [pk_un (show (0 : Nat) ≠ 1 by decide), pk_un (show (0 : Nat) ≠ (11 + (g 1).toInt).toNat by omega), pk_un (show (0 : Nat) ≠ (21 + (g 1).toInt).toNat by omega)] at hj
    rw [e1, pk_uLn (show j ≠ (7 + (g 1).toInt).toNat by omega), pk_uLn (show j ≠ (7 + (g 1).toInt).toNat by omega)]; exact h2 j hj
  · rw [pk_us, e0] at hj
    rw [e1]
    by_cases c : 7 + j = (7 + (g 1).toInt).toNat
    · rw [c, pk_uLs, pk_uLs]; exact hw9
    · rw [pk_uLn c, pk_uLn c]; exact h3 j (by omega)
theorem tkAM.Did_s {b : Nat → Int32} {n lim : Int} {g : Nat → Int32} {gn : Nat → Int64} {t0 t1 wd st a : Int} {mrf : Nat → Int32} {mrnf : Nat → Int64} {monf : Nat → Int32} (h : tkAM g gn t0 t1 mrf mrnf monf) (hw : wd = 4) (hf : fDid ((tkK b n lim a)) ((tkW b n lim a)) ((tkS b n lim a)) ((tksr mrnf 0 (tkD b n a) (mrf 0).toInt 0)) ((tkK b n lim (tkN b n lim a))) ((tkW b n lim (tkN b n lim a))) ((tkS b n lim (tkN b n lim a))) ((tksr mrnf 7 (tkD b n (tkN b n lim a)) (mrf 1).toInt 0)) ((mrf (31 + ((tksr mrnf 0 (tkD b n a) (mrf 0).toInt 0) * 10 + (tksr mrnf 7 (tkD b n (tkN b n lim a)) (mrf 1).toInt 0))).toNat).toInt) ((tkK b n lim (tkN b n lim (tkN b n lim a)))) ((tkVi b n (tkN b n lim (tkN b n lim a))).toInt) ((tkS b n lim (tkN b n lim (tkN b n lim a)))) ((tkN b n lim (tkN b n lim (tkN b n lim a)))) 0 (tkN b n lim (tkN b n lim (tkN b n lim a)))) {mrf' : Nat → Int32} (e2 : mrf' = upd mrf (31 + ((tksr mrnf 0 (tkD b n a) (mrf 0).toInt 0) * 10 + (tksr mrnf 7 (tkD b n (tkN b n lim a)) (mrf 1).toInt 0))).toNat (tkVi b n (tkN b n lim (tkN b n lim a)))) : ∃ (g2 : Nat → Int32) (gn2 : Nat → Int64) (u0 u1 : Int), tkLN b n lim g gn t0 t1 wd st a 0 (tkN b n lim (tkN b n lim (tkN b n lim a))) g2 gn2 u0 u1 ∧ tkAM g2 gn2 u0 u1 mrf' mrnf monf := by
  have r1 := h.rm (tkC b n a)
  have r2 := h.rd (tkC b n (tkN b n lim a))
  have hq : ∀ (z1 : tkK b n lim a = 1) (z2 : tkK b n lim (tkN b n lim a) = 1), (31 + ((tksr mrnf 0 (tkD b n a) (mrf 0).toInt 0) * 10 + (tksr mrnf 7 (tkD b n (tkN b n lim a)) (mrf 1).toInt 0))) = (31 + ((tksr gn 0 (tkC b n a) (g 0).toInt 0) * 10 + (tksr gn 7 (tkC b n (tkN b n lim a)) (g 1).toInt 0))) := fun z1 z2 => by rw [h.sm z1, h.sd z2]
  have hf := fDid_cg hf (fun z => h.sm z) (fun z => h.sd z)
  have hf : fDid ((tkK b n lim a)) ((tkW b n lim a)) ((tkS b n lim a)) ((tksr gn 0 (tkC b n a) (g 0).toInt 0)) ((tkK b n lim (tkN b n lim a))) ((tkW b n lim (tkN b n lim a))) ((tkS b n lim (tkN b n lim a))) ((tksr gn 7 (tkC b n (tkN b n lim a)) (g 1).toInt 0)) ((g (31 + ((tksr gn 0 (tkC b n a) (g 0).toInt 0) * 10 + (tksr gn 7 (tkC b n (tkN b n lim a)) (g 1).toInt 0))).toNat).toInt) ((tkK b n lim (tkN b n lim (tkN b n lim a)))) ((tkVi b n (tkN b n lim (tkN b n lim a))).toInt) ((tkS b n lim (tkN b n lim (tkN b n lim a)))) ((tkN b n lim (tkN b n lim (tkN b n lim a)))) 0 (tkN b n lim (tkN b n lim (tkN b n lim a))) := by
    refine fDid_old hf (fun y1 y2 z1 z2 => ?_)
    rw [hq y1 y2, h.1 (31 + ((tksr gn 0 (tkC b n a) (g 0).toInt 0) * 10 + (tksr gn 7 (tkC b n (tkN b n lim a)) (g 1).toInt 0))).toNat (by omega)]
  refine ⟨upd g (31 + ((tksr gn 0 (tkC b n a) (g 0).toInt 0) * 10 + (tksr gn 7 (tkC b n (tkN b n lim a)) (g 1).toInt 0))).toNat (tkVi b n (tkN b n lim (tkN b n lim a))), gn, t0, t1, Or.inr (Or.inr (Or.inl ⟨hw, hf, fun _ => ⟨rfl, rfl, rfl, rfl⟩⟩)), ?_⟩
  obtain ⟨ok0, ok1, ok2, ok3, ok4, ok5, ok6, ok7, ok8, ok9, ok10⟩ := fDid_ok hf
  clear hf
  rw [hq (by omega) (by omega)] at e2
  obtain ⟨h1, hb, h2, h3, h4, h5⟩ := h
  have k1 : (1 : Int32).toInt = 1 := by decide
  refine ⟨fun j hj => ?_, ?_, fun j hj => ?_, fun j hj => ?_, h4, h5⟩
  · rw [e2]
    by_cases c0 : j = (31 + ((tksr gn 0 (tkC b n a) (g 0).toInt 0) * 10 + (tksr gn 7 (tkC b n (tkN b n lim a)) (g 1).toInt 0))).toNat
    · rw [c0, pk_us, pk_us]
    · rw [pk_un c0, pk_un c0]; exact h1 j hj
  · rw [pk_un (show (0 : Nat) ≠ (31 + ((tksr gn 0 (tkC b n a) (g 0).toInt 0) * 10 + (tksr gn 7 (tkC b n (tkN b n lim a)) (g 1).toInt 0))).toNat by omega), pk_un (show (1 : Nat) ≠ (31 + ((tksr gn 0 (tkC b n a) (g 0).toInt 0) * 10 + (tksr gn 7 (tkC b n (tkN b n lim a)) (g 1).toInt 0))).toNat by omega)]; exact hb
  · rw [pk_un (show (0 : Nat) ≠ (31 + ((tksr gn 0 (tkC b n a) (g 0).toInt 0) * 10 + (tksr gn 7 (tkC b n (tkN b n lim a)) (g 1).toInt 0))).toNat by omega)] at hj; exact h2 j hj
  · rw [pk_un (show (1 : Nat) ≠ (31 + ((tksr gn 0 (tkC b n a) (g 0).toInt 0) * 10 + (tksr gn 7 (tkC b n (tkN b n lim a)) (g 1).toInt 0))).toNat by omega)] at hj; exact h3 j hj
theorem tkAM.Owes_s {b : Nat → Int32} {n lim : Int} {g : Nat → Int32} {gn : Nat → Int64} {t0 t1 wd st a : Int} {mrf : Nat → Int32} {mrnf : Nat → Int64} {monf : Nat → Int32} (h : tkAM g gn t0 t1 mrf mrnf monf) (hw : wd = 6) (hf : fOwes ((tkK b n lim a)) ((tkW b n lim a)) ((tkS b n lim a)) ((tksr mrnf 0 (tkD b n a) (mrf 0).toInt 0)) ((tkK b n lim (tkN b n lim a))) ((tkW b n lim (tkN b n lim a))) ((tkS b n lim (tkN b n lim a))) ((tksr mrnf 0 (tkD b n (tkN b n lim a)) (mrf 0).toInt 0)) ((mrf (108 + ((tksr mrnf 0 (tkD b n a) (mrf 0).toInt 0) * 7 + (tksr mrnf 0 (tkD b n (tkN b n lim a)) (mrf 0).toInt 0))).toNat).toInt) ((tkK b n lim (tkN b n lim (tkN b n lim a)))) ((tkVi b n (tkN b n lim (tkN b n lim a))).toInt) ((tkS b n lim (tkN b n lim (tkN b n lim a)))) ((tkN b n lim (tkN b n lim (tkN b n lim a)))) 0 (tkN b n lim (tkN b n lim (tkN b n lim a)))) {mrf' : Nat → Int32} (e2 : mrf' = upd mrf (108 + ((tksr mrnf 0 (tkD b n a) (mrf 0).toInt 0) * 7 + (tksr mrnf 0 (tkD b n (tkN b n lim a)) (mrf 0).toInt 0))).toNat (tkVi b n (tkN b n lim (tkN b n lim a)))) : ∃ (g2 : Nat → Int32) (gn2 : Nat → Int64) (u0 u1 : Int), tkLN b n lim g gn t0 t1 wd st a 0 (tkN b n lim (tkN b n lim (tkN b n lim a))) g2 gn2 u0 u1 ∧ tkAM g2 gn2 u0 u1 mrf' mrnf monf := by
  have r1 := h.rm (tkC b n a)
  have r2 := h.rm (tkC b n (tkN b n lim a))
  have hq : ∀ (z1 : tkK b n lim a = 1) (z2 : tkK b n lim (tkN b n lim a) = 1), (108 + ((tksr mrnf 0 (tkD b n a) (mrf 0).toInt 0) * 7 + (tksr mrnf 0 (tkD b n (tkN b n lim a)) (mrf 0).toInt 0))) = (108 + ((tksr gn 0 (tkC b n a) (g 0).toInt 0) * 7 + (tksr gn 0 (tkC b n (tkN b n lim a)) (g 0).toInt 0))) := fun z1 z2 => by rw [h.sm z1, h.sm z2]
  have hf := fOwes_cg hf (fun z => h.sm z) (fun z => h.sm z)
  have hf : fOwes ((tkK b n lim a)) ((tkW b n lim a)) ((tkS b n lim a)) ((tksr gn 0 (tkC b n a) (g 0).toInt 0)) ((tkK b n lim (tkN b n lim a))) ((tkW b n lim (tkN b n lim a))) ((tkS b n lim (tkN b n lim a))) ((tksr gn 0 (tkC b n (tkN b n lim a)) (g 0).toInt 0)) ((g (108 + ((tksr gn 0 (tkC b n a) (g 0).toInt 0) * 7 + (tksr gn 0 (tkC b n (tkN b n lim a)) (g 0).toInt 0))).toNat).toInt) ((tkK b n lim (tkN b n lim (tkN b n lim a)))) ((tkVi b n (tkN b n lim (tkN b n lim a))).toInt) ((tkS b n lim (tkN b n lim (tkN b n lim a)))) ((tkN b n lim (tkN b n lim (tkN b n lim a)))) 0 (tkN b n lim (tkN b n lim (tkN b n lim a))) := by
    refine fOwes_old hf (fun y1 y2 z1 z2 => ?_)
    rw [hq y1 y2, h.1 (108 + ((tksr gn 0 (tkC b n a) (g 0).toInt 0) * 7 + (tksr gn 0 (tkC b n (tkN b n lim a)) (g 0).toInt 0))).toNat (by omega)]
  refine ⟨upd g (108 + ((tksr gn 0 (tkC b n a) (g 0).toInt 0) * 7 + (tksr gn 0 (tkC b n (tkN b n lim a)) (g 0).toInt 0))).toNat (tkVi b n (tkN b n lim (tkN b n lim a))), gn, t0, t1, Or.inr (Or.inr (Or.inr (Or.inr (Or.inl ⟨hw, hf, fun _ => ⟨rfl, rfl, rfl, rfl⟩⟩)))), ?_⟩
  obtain ⟨ok0, ok1, ok2, ok3, ok4, ok5, ok6, ok7, ok8, ok9, ok10, ok11⟩ := fOwes_ok hf
  clear hf
  rw [hq (by omega) (by omega)] at e2
  obtain ⟨h1, hb, h2, h3, h4, h5⟩ := h
  have k1 : (1 : Int32).toInt = 1 := by decide
  refine ⟨fun j hj => ?_, ?_, fun j hj => ?_, fun j hj => ?_, h4, h5⟩
  · rw [e2]
    by_cases c0 : j = (108 + ((tksr gn 0 (tkC b n a) (g 0).toInt 0) * 7 + (tksr gn 0 (tkC b n (tkN b n lim a)) (g 0).toInt 0))).toNat
    · rw [c0, pk_us, pk_us]
    · rw [pk_un c0, pk_un c0]; exact h1 j hj
  · rw [pk_un (show (0 : Nat) ≠ (108 + ((tksr gn 0 (tkC b n a) (g 0).toInt 0) * 7 + (tksr gn 0 (tkC b n (tkN b n lim a)) (g 0).toInt 0))).toNat by omega), pk_un (show (1 : Nat) ≠ (108 + ((tksr gn 0 (tkC b n a) (g 0).toInt 0) * 7 + (tksr gn 0 (tkC b n (tkN b n lim a)) (g 0).toInt 0))).toNat by omega)]; exact hb
  · rw [pk_un (show (0 : Nat) ≠ (108 + ((tksr gn 0 (tkC b n a) (g 0).toInt 0) * 7 + (tksr gn 0 (tkC b n (tkN b n lim a)) (g 0).toInt 0))).toNat by omega)] at hj; exact h2 j hj
  · rw [pk_un (show (1 : Nat) ≠ (108 + ((tksr gn 0 (tkC b n a) (g 0).toInt 0) * 7 + (tksr gn 0 (tkC b n (tkN b n lim a)) (g 0).toInt 0))).toNat by omega)] at hj; exact h3 j hj
theorem tkAM.Kin_s {b : Nat → Int32} {n lim : Int} {g : Nat → Int32} {gn : Nat → Int64} {t0 t1 wd st a : Int} {mrf : Nat → Int32} {mrnf : Nat → Int64} {monf : Nat → Int32} (h : tkAM g gn t0 t1 mrf mrnf monf) (hw : wd = 5) (hf : fKin ((tkK b n lim a)) ((tkW b n lim a)) ((tkS b n lim a)) ((tksr mrnf 0 (tkD b n a) (mrf 0).toInt 0)) ((tkK b n lim (tkN b n lim a))) ((tkW b n lim (tkN b n lim a))) ((tkS b n lim (tkN b n lim a))) ((tksr mrnf 0 (tkD b n (tkN b n lim a)) (mrf 0).toInt 0)) (tkHas (mrf (101 + (tksr mrnf 0 (tkD b n a) (mrf 0).toInt 0)).toNat) (tksr mrnf 0 (tkD b n (tkN b n lim a)) (mrf 0).toInt 0)) ((tkN b n lim (tkN b n lim a))) 0 (tkN b n lim (tkN b n lim a))) {mrf' : Nat → Int32} (e2 : mrf' = tkKinU mrf 101 (tksr mrnf 0 (tkD b n a) (mrf 0).toInt 0) (tksr mrnf 0 (tkD b n (tkN b n lim a)) (mrf 0).toInt 0)) : ∃ (g2 : Nat → Int32) (gn2 : Nat → Int64) (u0 u1 : Int), tkLN b n lim g gn t0 t1 wd st a 0 (tkN b n lim (tkN b n lim a)) g2 gn2 u0 u1 ∧ tkAM g2 gn2 u0 u1 mrf' mrnf monf := by
  have r1 := h.rm (tkC b n a)
  have r2 := h.rm (tkC b n (tkN b n lim a))
  have hf := fKin_cg hf (fun z => h.sm z) (fun z => h.sm z)
  have hf : fKin ((tkK b n lim a)) ((tkW b n lim a)) ((tkS b n lim a)) ((tksr gn 0 (tkC b n a) (g 0).toInt 0)) ((tkK b n lim (tkN b n lim a))) ((tkW b n lim (tkN b n lim a))) ((tkS b n lim (tkN b n lim a))) ((tksr gn 0 (tkC b n (tkN b n lim a)) (g 0).toInt 0)) (tkHas (g (101 + (tksr gn 0 (tkC b n a) (g 0).toInt 0)).toNat) (tksr gn 0 (tkC b n (tkN b n lim a)) (g 0).toInt 0)) ((tkN b n lim (tkN b n lim a))) 0 (tkN b n lim (tkN b n lim a)) := by
    refine fKin_old hf (fun y1 y2 z1 z2 => ?_)
    rw [h.sm y1, h.sm y2, h.1 (101 + (tksr gn 0 (tkC b n a) (g 0).toInt 0)).toNat (by omega)]
  refine ⟨tkKinU g 101 (tksr gn 0 (tkC b n a) (g 0).toInt 0) (tksr gn 0 (tkC b n (tkN b n lim a)) (g 0).toInt 0), gn, t0, t1, Or.inr (Or.inr (Or.inr (Or.inl ⟨hw, hf, fun _ => ⟨rfl, rfl, rfl, rfl⟩⟩))), ?_⟩
  obtain ⟨ok0, ok1, ok2, ok3, ok4, ok5, ok6, ok7, ok8⟩ := fKin_ok hf
  clear hf
  rw [h.sm (show tkK b n lim a = 1 by omega), h.sm (show tkK b n lim (tkN b n lim a) = 1 by omega)] at e2
  obtain ⟨h1, hb, h2, h3, h4, h5⟩ := h
  have k1 : (1 : Int32).toInt = 1 := by decide
  refine ⟨fun j hj => ?_, ?_, fun j hj => ?_, fun j hj => ?_, h4, h5⟩
  · rw [e2]
    exact tkKinU_like (by omega) (by omega) (by omega) (by omega) (by omega) (h1 _ (by omega)) (h1 _ (by omega)) (h1 j hj)
  · rw [tkKinU_out (show (0 : Nat) ≠ (101 + (tksr gn 0 (tkC b n a) (g 0).toInt 0)).toNat by omega) (show (0 : Nat) ≠ (101 + (tksr gn 0 (tkC b n (tkN b n lim a)) (g 0).toInt 0)).toNat by omega), tkKinU_out (show (1 : Nat) ≠ (101 + (tksr gn 0 (tkC b n a) (g 0).toInt 0)).toNat by omega) (show (1 : Nat) ≠ (101 + (tksr gn 0 (tkC b n (tkN b n lim a)) (g 0).toInt 0)).toNat by omega)]; exact hb
  · rw [tkKinU_out (show (0 : Nat) ≠ (101 + (tksr gn 0 (tkC b n a) (g 0).toInt 0)).toNat by omega) (show (0 : Nat) ≠ (101 + (tksr gn 0 (tkC b n (tkN b n lim a)) (g 0).toInt 0)).toNat by omega)] at hj; exact h2 j hj
  · rw [tkKinU_out (show (1 : Nat) ≠ (101 + (tksr gn 0 (tkC b n a) (g 0).toInt 0)).toNat by omega) (show (1 : Nat) ≠ (101 + (tksr gn 0 (tkC b n (tkN b n lim a)) (g 0).toInt 0)).toNat by omega)] at hj; exact h3 j hj
theorem tkAM.Room_s {b : Nat → Int32} {n lim : Int} {g : Nat → Int32} {gn : Nat → Int64} {t0 t1 wd st a : Int} {mrf : Nat → Int32} {mrnf : Nat → Int64} {monf : Nat → Int32} (h : tkAM g gn t0 t1 mrf mrnf monf) (hw : wd = 7) (hf : fRoom (st) ((monf 0).toInt) ((tkK b n lim a)) ((tkVi b n a).toInt) ((tkS b n lim a)) ((tkN b n lim a)) 0 (tkN b n lim a)) {mrf' monf' : Nat → Int32} (e3 : monf' = upd monf (0 : Int).toNat 1) (e2 : mrf' = upd mrf (2 : Int).toNat (tkVi b n a)) : ∃ (g2 : Nat → Int32) (gn2 : Nat → Int64) (u0 u1 : Int), tkLN b n lim g gn t0 t1 wd st a 0 (tkN b n lim a) g2 gn2 u0 u1 ∧ tkAM g2 gn2 u0 u1 mrf' mrnf monf' := by
  rw [h.2.2.2.2.1] at hf
  refine ⟨upd g 2 (tkVi b n a), gn, 1, t1, Or.inr (Or.inr (Or.inr (Or.inr (Or.inr (Or.inl ⟨hw, hf, fun _ => ⟨rfl, rfl, rfl, rfl⟩⟩))))), ?_⟩
  obtain ⟨ok0, ok1, ok2, ok3, ok4⟩ := fRoom_ok hf
  clear hf
  have e2 : mrf' = upd mrf 2 (tkVi b n a) := e2
  obtain ⟨h1, hb, h2, h3, h4, h5⟩ := h
  have k1 : (1 : Int32).toInt = 1 := by decide
  refine ⟨fun j hj => ?_, ?_, fun j hj => ?_, fun j hj => ?_, ?_, ?_⟩
  · rw [e2]
    by_cases c0 : j = 2
    · rw [c0, pk_us, pk_us]
    · rw [pk_un c0, pk_un c0]; exact h1 j hj
  · rw [pk_un (show (0 : Nat) ≠ 2 by omega), pk_un (show (1 : Nat) ≠ 2 by omega)]; exact hb
  · rw [pk_un (show (0 : Nat) ≠ 2 by omega)] at hj; exact h2 j hj
  · rw [pk_un (show (1 : Nat) ≠ 2 by omega)] at hj; exact h3 j hj
  · rw [e3]; show (upd monf 0 1 0).toInt = _; rw [pk_us]; decide
  · rw [e3]; show (upd monf 0 1 1).toInt = _; rw [pk_un (show (1 : Nat) ≠ 0 by decide)]; exact h5
theorem tkAM.Faint_s {b : Nat → Int32} {n lim : Int} {g : Nat → Int32} {gn : Nat → Int64} {t0 t1 wd st a : Int} {mrf : Nat → Int32} {mrnf : Nat → Int64} {monf : Nat → Int32} (h : tkAM g gn t0 t1 mrf mrnf monf) (hw : wd = 8) (hf : fFaint (st) ((monf 1).toInt) ((tkK b n lim a)) ((tkVi b n a).toInt) ((tkS b n lim a)) ((tkN b n lim a)) 0 (tkN b n lim a)) {mrf' monf' : Nat → Int32} (e3 : monf' = upd monf (1 : Int).toNat 1) (e2 : mrf' = upd mrf (3 : Int).toNat (tkVi b n a)) : ∃ (g2 : Nat → Int32) (gn2 : Nat → Int64) (u0 u1 : Int), tkLN b n lim g gn t0 t1 wd st a 0 (tkN b n lim a) g2 gn2 u0 u1 ∧ tkAM g2 gn2 u0 u1 mrf' mrnf monf' := by
  rw [h.2.2.2.2.2] at hf
  refine ⟨upd g 3 (tkVi b n a), gn, t0, 1, Or.inr (Or.inr (Or.inr (Or.inr (Or.inr (Or.inr (Or.inl ⟨hw, hf, fun _ => ⟨rfl, rfl, rfl, rfl⟩⟩)))))), ?_⟩
  obtain ⟨ok0, ok1, ok2, ok3, ok4⟩ := fFaint_ok hf
  clear hf
  have e2 : mrf' = upd mrf 3 (tkVi b n a) := e2
  obtain ⟨h1, hb, h2, h3, h4, h5⟩ := h
  have k1 : (1 : Int32).toInt = 1 := by decide
  refine ⟨fun j hj => ?_, ?_, fun j hj => ?_, fun j hj => ?_, ?_, ?_⟩
  · rw [e2]
    by_cases c0 : j = 3
    · rw [c0, pk_us, pk_us]
    · rw [pk_un c0, pk_un c0]; exact h1 j hj
  · rw [pk_un (show (0 : Nat) ≠ 3 by omega), pk_un (show (1 : Nat) ≠ 3 by omega)]; exact hb
  · rw [pk_un (show (0 : Nat) ≠ 3 by omega)] at hj; exact h2 j hj
  · rw [pk_un (show (1 : Nat) ≠ 3 by omega)] at hj; exact h3 j hj
  · rw [e3]; show (upd monf 1 1 0).toInt = _; rw [pk_un (show (0 : Nat) ≠ 1 by decide)]; exact h4
  · rw [e3]; show (upd monf 1 1 1).toInt = _; rw [pk_us]; decide
def tkMX (b : Nat → Int32) (n lim p : Int) (oto okd ofr osg : Int32) (owd : Int64) (onu : Int32) : Prop := oto.toInt = tkN b n lim p ∧ tkMK okd.toInt osg.toInt = tkK b n lim p ∧ ofr.toInt = tkS b n lim p ∧ tkMW okd.toInt owd = tkW b n lim p ∧ tkDd b n lim p owd ∧ (tkK b n lim p = 2 → onu = tkVi b n p) ∧ (tkK b n lim p = 2 → onu.toInt = (tkVi b n p).toInt)
def tkLM (b : Nat → Int32) (n lim : Int) (g : Nat → Int32) (gn : Nat → Int64) (t0 t1 wd st a : Int) (oto okd ofr osg : Int32) (owd : Int64) (onu : Int32) (mrf : Nat → Int32) (mrnf : Nat → Int64) (monf : Nat → Int32) : Prop := ∃ (p : Int) (g2 : Nat → Int32) (gn2 : Nat → Int64) (u0 u1 : Int), tkLN b n lim g gn t0 t1 wd st a 0 p g2 gn2 u0 u1 ∧ tkAM g2 gn2 u0 u1 mrf mrnf monf ∧ tkMX b n lim p oto okd ofr osg owd onu
theorem tkLM_of {b : Nat → Int32} {n lim : Int} {oto okd ofr osg : Int32} {owd : Int64} {onu : Int32} {mrf : Nat → Int32} {mrnf : Nat → Int64} {monf : Nat → Int32} {g : Nat → Int32} {gn : Nat → Int64} {t0 t1 wd st a p : Int} (h : ∃ (g2 : Nat → Int32) (gn2 : Nat → Int64) (u0 u1 : Int), tkLN b n lim g gn t0 t1 wd st a 0 p g2 gn2 u0 u1 ∧ tkAM g2 gn2 u0 u1 mrf mrnf monf) (hT : tkMX b n lim p oto okd ofr osg owd onu) : tkLM b n lim g gn t0 t1 wd st a oto okd ofr osg owd onu mrf mrnf monf := by
  obtain ⟨g2, gn2, u0, u1, h1, h2⟩ := h
  exact ⟨p, g2, gn2, u0, u1, h1, h2, hT⟩
def tkIM (b : Nat → Int32) (n lim : Int) (oto okd ofr osg : Int32) (owd : Int64) (onu : Int32) (mrf : Nat → Int32) (mrnf : Nat → Int64) (monf : Nat → Int32) (lines : Int) : Prop := lim = 900 ∧ ∃ (a : Int) (g : Nat → Int32) (gn : Nat → Int64) (t0 t1 : Int), tkMX b n lim a oto okd ofr osg owd onu ∧ tkAM g gn t0 t1 mrf mrnf monf ∧ tkGO b n g gn t0 t1 a lines ∧ 2 * lines ≤ a ∧ a ≤ n
theorem tkIM_bad {b : Nat → Int32} {n lim : Int} {oto okd ofr osg : Int32} {owd : Int64} {onu : Int32} {lines : Int} {a : Int} {g g2 : Nat → Int32} {gn gn2 : Nat → Int64} {t0 t1 u0 u1 k pl : Int} (hl : lim = 900) (hT : tkMX b n lim a oto okd ofr osg owd onu) (hG : tkGO b n g gn t0 t1 a lines) (hk : tkMK okd.toInt osg.toInt ≠ 3) (hL : tkLN b n lim g gn t0 t1 (tkMW okd.toInt owd) ofr.toInt oto.toInt k pl g2 gn2 u0 u1) (h0 : ¬ (k = 0)) : tkRF b n k pl := by
  subst hl
  obtain ⟨e1, e2, e3, e4, _⟩ := hT
  rw [e1, e3, e4] at hL
  exact ⟨_, _, _, tkGO_bad hG (by omega) hL h0⟩
theorem tkIM_semi {b : Nat → Int32} {n lim : Int} {oto okd ofr osg : Int32} {owd : Int64} {onu : Int32} {lines : Int} {a p k pl : Int} {g g2 : Nat → Int32} {gn gn2 : Nat → Int64} {t0 t1 u0 u1 : Int} (hl : lim = 900) (hT : tkMX b n lim a oto okd ofr osg owd onu) (hG : tkGO b n g gn t0 t1 a lines) (hk : tkMK okd.toInt osg.toInt ≠ 3) (hL : tkLN b n lim g gn t0 t1 (tkMW okd.toInt owd) ofr.toInt oto.toInt 0 p g2 gn2 u0 u1) {oto' okd' ofr' osg' : Int32} {owd' : Int64} {onu' : Int32} (hT' : tkMX b n lim p oto' okd' ofr' osg' owd' onu') (h0 : ¬ (tkMK okd'.toInt osg'.toInt = 59)) (hk1 : k = 1) (hp1 : pl = ofr'.toInt) : tkRF b n k pl := by
  subst hl
  obtain ⟨e1, e2, e3, e4, _⟩ := hT
  rw [e1, e3, e4] at hL
  obtain ⟨f1, f2, f3, f4, _⟩ := hT'
  have := tkGO_semi hG (by omega) hL (by omega)
  rw [hk1, hp1, f3]; exact ⟨_, _, _, this⟩
theorem tkIM_next {b : Nat → Int32} {n lim : Int} {oto okd ofr osg : Int32} {owd : Int64} {onu : Int32} {mrf : Nat → Int32} {mrnf : Nat → Int64} {monf : Nat → Int32} {lines : Int} {a p l2 : Int} {g g2 : Nat → Int32} {gn gn2 : Nat → Int64} {t0 t1 u0 u1 : Int} (hl : lim = 900) (hT : tkMX b n lim a oto okd ofr osg owd onu) (hG : tkGO b n g gn t0 t1 a lines) (hB : 2 * lines ≤ a ∧ a ≤ n) (hk : tkMK okd.toInt osg.toInt ≠ 3) (hL : tkLN b n lim g gn t0 t1 (tkMW okd.toInt owd) ofr.toInt oto.toInt 0 p g2 gn2 u0 u1) (hA : tkAM g2 gn2 u0 u1 mrf mrnf monf) {oto' okd' ofr' osg' oto2 okd2 ofr2 osg2 : Int32} {owd' owd2 : Int64} {onu' onu2 : Int32} (hT' : tkMX b n lim p oto' okd' ofr' osg' owd' onu') (h0 : tkMK okd'.toInt osg'.toInt = 59) (hT2 : tkMX b n lim oto'.toInt oto2 okd2 ofr2 osg2 owd2 onu2) (hl2 : l2 = lines + 1) : tkIM b n lim oto2 okd2 ofr2 osg2 owd2 onu2 mrf mrnf monf l2 ∧ oto.toInt + 1 ≤ oto2.toInt := by
  subst hl
  obtain ⟨e1, e2, e3, e4, _⟩ := hT
  rw [e1, e3, e4] at hL
  obtain ⟨f1, f2, f3, f4, _⟩ := hT'
  rw [f1] at hT2
  have q := tkLN_ge hL
  have w1 := tkW_rg (b := b) (n := n) (lim := 900) (a := a)
  have q1 := tkN_ge (b := b) (n := n) (lim := 900) (a := a)
  have q2 := tkN_ge (b := b) (n := n) (lim := 900) (a := p)
  have q3 := tkN_ge (b := b) (n := n) (lim := 900) (a := tkN b n 900 p)
  have y1 := q1.2.2 (by omega) (by omega)
  have y2 := q2.2.2 (by omega) (by omega)
  have y3 := q1.2.1 hB.2
  have y4 := q.2.1 y3
  have y5 := q2.2.1 y4
  have y6 := hT2.1
  have y7 := q3.1
  refine ⟨⟨rfl, _, g2, gn2, u0, u1, hT2, hA, ?_, by omega, y5⟩, by omega⟩
  rw [hl2]; exact tkGO_step hG (by omega) hL (by omega)
theorem tkIM_end {b : Nat → Int32} {n lim : Int} {oto okd ofr osg : Int32} {owd : Int64} {onu : Int32} {mrf : Nat → Int32} {mrnf : Nat → Int64} {monf : Nat → Int32} {lines : Int} (h : tkIM b n lim oto okd ofr osg owd onu mrf mrnf monf lines) (hk : tkMK okd.toInt osg.toInt = 3) : ∃ (g : Nat → Int32) (gn : Nat → Int64) (t0 t1 : Int), tkRES b n 0 0 lines g gn ∧ tkAM g gn t0 t1 mrf mrnf monf := by
  obtain ⟨hl, a, g, gn, t0, t1, hT, hA, hG, hB⟩ := h
  subst hl
  exact ⟨g, gn, t0, t1, tkGO_end hG (by rw [← hT.2.1]; exact hk), hA⟩
theorem tkAM_0 {mrf : Nat → Int32} {mrnf : Nat → Int64} {monf : Nat → Int32} (h : ∀ j : Nat, j < 157 → mrf j = tkG0 j) (h0 : (monf 0).toInt = 0) (h1 : (monf 1).toInt = 0) : tkAM tkG0 (fun _ => 0) 0 0 mrf mrnf monf :=
  ⟨h, ⟨by decide, by decide, by decide, by decide⟩, fun j hj => absurd hj (by have : (tkG0 0).toInt = 0 := by decide
                                                                              omega), fun j hj => absurd hj (by have : (tkG0 1).toInt = 0 := by decide
                                                                                                                omega), h0, h1⟩
theorem tkG0_of {f f1 f2 : Nat → Int32} (h : tkZ f 157) (e1 : f1 = upd f 2 60) (e2 : f2 = upd f1 3 10) : ∀ j : Nat, j < 157 → f2 j = tkG0 j := by
  intro j hj
  unfold tkG0
  rw [e2, e1]
  by_cases c2 : j = 2
  · rw [c2, pk_un (show (2 : Nat) ≠ 3 by decide), pk_us, if_pos rfl]
  · by_cases c3 : j = 3
    · rw [c3, pk_us, if_neg (by decide), if_pos rfl]
    · rw [pk_un c3, pk_un c2, if_neg c2, if_neg c3]; exact h j (by omega)
