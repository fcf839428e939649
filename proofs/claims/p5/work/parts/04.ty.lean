theorem fDid_old {K1 W1 S1 m1 K2 W2 S2 d2 old K3 V3 S3 N3 old' k pl : Int} (h : fDid K1 W1 S1 m1 K2 W2 S2 d2 old K3 V3 S3 N3 k pl) (e : K1 = 1 → K2 = 1 → m1 ≠ -1 → d2 ≠ -1 → old = old') : fDid K1 W1 S1 m1 K2 W2 S2 d2 old' K3 V3 S3 N3 k pl := by
  unfold fDid at h ⊢
  rcases h with h | ⟨a0_0, a0_1, h | ⟨a1_0, h | ⟨a2_0, a2_1, h | ⟨a3_0, h⟩⟩⟩⟩
  · exact Or.inl h
  · exact Or.inr (⟨a0_0, a0_1, Or.inl h⟩)
  · exact Or.inr (⟨a0_0, a0_1, Or.inr (⟨a1_0, Or.inl h⟩)⟩)
  · exact Or.inr (⟨a0_0, a0_1, Or.inr (⟨a1_0, Or.inr (⟨a2_0, a2_1, Or.inl h⟩)⟩)⟩)
  · rw [e a0_0 a2_0 a1_0 a3_0] at h; exact Or.inr (⟨a0_0, a0_1, Or.inr (⟨a1_0, Or.inr (⟨a2_0, a2_1, Or.inr (⟨a3_0, h⟩)⟩)⟩)⟩)
theorem fKin_old {K1 W1 S1 m1 K2 W2 S2 m2 old p3 old' k pl : Int} (h : fKin K1 W1 S1 m1 K2 W2 S2 m2 old p3 k pl) (e : K1 = 1 → K2 = 1 → m1 ≠ -1 → m2 ≠ -1 → old = old') : fKin K1 W1 S1 m1 K2 W2 S2 m2 old' p3 k pl := by
  unfold fKin at h ⊢
  rcases h with h | ⟨a0_0, a0_1, h | ⟨a1_0, h | ⟨a2_0, a2_1, h | ⟨a3_0, h⟩⟩⟩⟩
  · exact Or.inl h
  · exact Or.inr (⟨a0_0, a0_1, Or.inl h⟩)
  · exact Or.inr (⟨a0_0, a0_1, Or.inr (⟨a1_0, Or.inl h⟩)⟩)
  · exact Or.inr (⟨a0_0, a0_1, Or.inr (⟨a1_0, Or.inr (⟨a2_0, a2_1, Or.inl h⟩)⟩)⟩)
  · rw [e a0_0 a2_0 a1_0 a3_0] at h; exact Or.inr (⟨a0_0, a0_1, Or.inr (⟨a1_0, Or.inr (⟨a2_0, a2_1, Or.inr (⟨a3_0, h⟩)⟩)⟩)⟩)
theorem fOwes_old {K1 W1 S1 m1 K2 W2 S2 m2 old K3 V3 S3 N3 old' k pl : Int} (h : fOwes K1 W1 S1 m1 K2 W2 S2 m2 old K3 V3 S3 N3 k pl) (e : K1 = 1 → K2 = 1 → m1 ≠ -1 → m2 ≠ -1 → old = old') : fOwes K1 W1 S1 m1 K2 W2 S2 m2 old' K3 V3 S3 N3 k pl := by
  unfold fOwes at h ⊢
  rcases h with h | ⟨a0_0, a0_1, h | ⟨a1_0, h | ⟨a2_0, a2_1, h | ⟨a3_0, h⟩⟩⟩⟩
  · exact Or.inl h
  · exact Or.inr (⟨a0_0, a0_1, Or.inl h⟩)
  · exact Or.inr (⟨a0_0, a0_1, Or.inr (⟨a1_0, Or.inl h⟩)⟩)
  · exact Or.inr (⟨a0_0, a0_1, Or.inr (⟨a1_0, Or.inr (⟨a2_0, a2_1, Or.inl h⟩)⟩)⟩)
  · rw [e a0_0 a2_0 a1_0 a3_0] at h; exact Or.inr (⟨a0_0, a0_1, Or.inr (⟨a1_0, Or.inr (⟨a2_0, a2_1, Or.inr (⟨a3_0, h⟩)⟩)⟩)⟩)
theorem tkKinU_out {f : Nat → Int32} {o m1 m2 : Int} {j : Nat} (h1 : j ≠ (o + m1).toNat) (h2 : j ≠ (o + m2).toNat) : tkKinU f o m1 m2 j = f j := by
  unfold tkKinU; rw [pk_un h2, pk_un h1]
theorem tkKinU_like {f g : Nat → Int32} {o p m1 m2 : Int} {i j : Nat} (ho : 0 ≤ o) (hp : 0 ≤ p) (h1 : 0 ≤ m1) (h2 : 0 ≤ m2) (hij : (i : Int) - o = (j : Int) - p) (e1 : f (o + m1).toNat = g (p + m1).toNat) (e2 : f (o + m2).toNat = g (p + m2).toNat) (e : f i = g j) : tkKinU f o m1 m2 i = tkKinU g p m1 m2 j := by
  unfold tkKinU
  have q : (upd f (o + m1).toNat (f (o + m1).toNat ||| tkBit m2)) (o + m2).toNat = (upd g (p + m1).toNat (g (p + m1).toNat ||| tkBit m2)) (p + m2).toNat := by
    by_cases c : m2 = m1
    · rw [c, pk_us, pk_us, e1]
    · rw [pk_un (show (o + m2).toNat ≠ (o + m1).toNat by omega), pk_un (show (p + m2).toNat ≠ (p + m1).toNat by omega), e2]
  by_cases c2 : i = (o + m2).toNat
  · have c3 : j = (p + m2).toNat := by omega
    rw [c2, c3, pk_us, pk_us, q]
  · rw [pk_un c2, pk_un (show j ≠ (p + m2).toNat by omega)]
    by_cases c1 : i = (o + m1).toNat
    · have c3 : j = (p + m1).toNat := by omega
      rw [c1, c3, pk_us, pk_us, e1]
    · rw [pk_un c1, pk_un (show j ≠ (p + m1).toNat by omega)]; exact e
theorem tkAX.Man_f {b : Nat → Int32} {n lim : Int} {g : Nat → Int32} {gn : Nat → Int64} {t0 t1 wd st a k pl : Int} {cm cd cr cw : Int32} {cf1 cf2 : Nat → Int64} {cf3 cf4 cf5 lf2 lf3 : Nat → Int32} {xr xf : Int32} (h : tkAX g gn t0 t1 cm cd cr cw cf1 cf2 cf3 cf4 cf5 lf2 lf3 xr xf) (hw : wd = 0) (hf : fMan (st) (cm.toInt) ((tkK b n lim a)) ((tkW b n lim a)) ((tkS b n lim a)) ((tksr cf1 0 (tkC b n a) cm.toInt 0)) ((tksr cf2 0 (tkC b n a) cd.toInt 0)) ((tkK b n lim (tkN b n lim a))) ((tkVi b n (tkN b n lim a)).toInt) ((tkS b n lim (tkN b n lim a))) ((tkN b n lim (tkN b n lim a))) k pl) (h0 : k ≠ 0) : tkLN b n lim g gn t0 t1 wd st a k pl g gn t0 t1 := by
  rw [h.sm, h.sd, h.1.1] at hf
  exact Or.inl ⟨hw, hf, fun z => absurd z h0⟩
theorem tkAX.Deed_f {b : Nat → Int32} {n lim : Int} {g : Nat → Int32} {gn : Nat → Int64} {t0 t1 wd st a k pl : Int} {cm cd cr cw : Int32} {cf1 cf2 : Nat → Int64} {cf3 cf4 cf5 lf2 lf3 : Nat → Int32} {xr xf : Int32} (h : tkAX g gn t0 t1 cm cd cr cw cf1 cf2 cf3 cf4 cf5 lf2 lf3 xr xf) (hw : wd = 1) (hf : fDeed (st) (cd.toInt) ((tkK b n lim a)) ((tkW b n lim a)) ((tkS b n lim a)) ((tksr cf1 0 (tkC b n a) cm.toInt 0)) ((tksr cf2 0 (tkC b n a) cd.toInt 0)) ((tkW b n lim (tkN b n lim a))) ((tkS b n lim (tkN b n lim a))) ((tkK b n lim (tkN b n lim (tkN b n lim a)))) ((tkVi b n (tkN b n lim (tkN b n lim a))).toInt) ((tkS b n lim (tkN b n lim (tkN b n lim a)))) ((tkN b n lim (tkN b n lim (tkN b n lim a)))) k pl) (h0 : k ≠ 0) : tkLN b n lim g gn t0 t1 wd st a k pl g gn t0 t1 := by
  rw [h.sm, h.sd, h.1.2.1] at hf
  exact Or.inr (Or.inl ⟨hw, hf, fun z => absurd z h0⟩)
theorem tkAX.Did_f {b : Nat → Int32} {n lim : Int} {g : Nat → Int32} {gn : Nat → Int64} {t0 t1 wd st a k pl : Int} {cm cd cr cw : Int32} {cf1 cf2 : Nat → Int64} {cf3 cf4 cf5 lf2 lf3 : Nat → Int32} {xr xf : Int32} (h : tkAX g gn t0 t1 cm cd cr cw cf1 cf2 cf3 cf4 cf5 lf2 lf3 xr xf) (hw : wd = 4) (hf : fDid ((tkK b n lim a)) ((tkW b n lim a)) ((tkS b n lim a)) ((tksr cf1 0 (tkC b n a) cm.toInt 0)) ((tkK b n lim (tkN b n lim a))) ((tkW b n lim (tkN b n lim a))) ((tkS b n lim (tkN b n lim a))) ((tksr cf2 0 (tkC b n (tkN b n lim a)) cd.toInt 0)) ((lf2 ((tksr cf1 0 (tkC b n a) cm.toInt 0) * 10 + (tksr cf2 0 (tkC b n (tkN b n lim a)) cd.toInt 0)).toNat).toInt) ((tkK b n lim (tkN b n lim (tkN b n lim a)))) ((tkVi b n (tkN b n lim (tkN b n lim a))).toInt) ((tkS b n lim (tkN b n lim (tkN b n lim a)))) ((tkN b n lim (tkN b n lim (tkN b n lim a)))) k pl) (h0 : k ≠ 0) : tkLN b n lim g gn t0 t1 wd st a k pl g gn t0 t1 := by
  rw [h.sm, h.sd] at hf
  have r1 := h.rm (tkC b n a)
  have r2 := h.rd (tkC b n (tkN b n lim a))
  have hf := fDid_old (old' := (g (31 + ((tksr gn 0 (tkC b n a) (g 0).toInt 0) * 10 + (tksr gn 7 (tkC b n (tkN b n lim a)) (g 1).toInt 0))).toNat).toInt) hf (fun _ _ z1 z2 => by rw [h.2.2.2.2.1 _ (show ((tksr gn 0 (tkC b n a) (g 0).toInt 0) * 10 + (tksr gn 7 (tkC b n (tkN b n lim a)) (g 1).toInt 0)).toNat < 70 by omega), show 31 + ((tksr gn 0 (tkC b n a) (g 0).toInt 0) * 10 + (tksr gn 7 (tkC b n (tkN b n lim a)) (g 1).toInt 0)).toNat = (31 + ((tksr gn 0 (tkC b n a) (g 0).toInt 0) * 10 + (tksr gn 7 (tkC b n (tkN b n lim a)) (g 1).toInt 0))).toNat by omega])
  exact Or.inr (Or.inr (Or.inl ⟨hw, hf, fun z => absurd z h0⟩))
theorem tkAX.Kin_f {b : Nat → Int32} {n lim : Int} {g : Nat → Int32} {gn : Nat → Int64} {t0 t1 wd st a k pl : Int} {cm cd cr cw : Int32} {cf1 cf2 : Nat → Int64} {cf3 cf4 cf5 lf2 lf3 : Nat → Int32} {xr xf : Int32} (h : tkAX g gn t0 t1 cm cd cr cw cf1 cf2 cf3 cf4 cf5 lf2 lf3 xr xf) (hw : wd = 5) (hf : fKin ((tkK b n lim a)) ((tkW b n lim a)) ((tkS b n lim a)) ((tksr cf1 0 (tkC b n a) cm.toInt 0)) ((tkK b n lim (tkN b n lim a))) ((tkW b n lim (tkN b n lim a))) ((tkS b n lim (tkN b n lim a))) ((tksr cf1 0 (tkC b n (tkN b n lim a)) cm.toInt 0)) (tkHas (cf5 (tksr cf1 0 (tkC b n a) cm.toInt 0).toNat) (tksr cf1 0 (tkC b n (tkN b n lim a)) cm.toInt 0)) ((tkN b n lim (tkN b n lim a))) k pl) (h0 : k ≠ 0) : tkLN b n lim g gn t0 t1 wd st a k pl g gn t0 t1 := by
  rw [h.sm, h.sm] at hf
  have r1 := h.rm (tkC b n a)
  have r2 := h.rm (tkC b n (tkN b n lim a))
  have hf := fKin_old (old' := tkHas (g (101 + (tksr gn 0 (tkC b n a) (g 0).toInt 0)).toNat) (tksr gn 0 (tkC b n (tkN b n lim a)) (g 0).toInt 0)) hf (fun _ _ z1 z2 => by rw [h.2.2.2.2.2.1 _ (show (tksr gn 0 (tkC b n a) (g 0).toInt 0).toNat < 7 by omega), show 101 + (tksr gn 0 (tkC b n a) (g 0).toInt 0).toNat = (101 + (tksr gn 0 (tkC b n a) (g 0).toInt 0)).toNat by omega])
  exact Or.inr (Or.inr (Or.inr (Or.inl ⟨hw, hf, fun z => absurd z h0⟩)))
theorem tkAX.Owes_f {b : Nat → Int32} {n lim : Int} {g : Nat → Int32} {gn : Nat → Int64} {t0 t1 wd st a k pl : Int} {cm cd cr cw : Int32} {cf1 cf2 : Nat → Int64} {cf3 cf4 cf5 lf2 lf3 : Nat → Int32} {xr xf : Int32} (h : tkAX g gn t0 t1 cm cd cr cw cf1 cf2 cf3 cf4 cf5 lf2 lf3 xr xf) (hw : wd = 6) (hf : fOwes ((tkK b n lim a)) ((tkW b n lim a)) ((tkS b n lim a)) ((tksr cf1 0 (tkC b n a) cm.toInt 0)) ((tkK b n lim (tkN b n lim a))) ((tkW b n lim (tkN b n lim a))) ((tkS b n lim (tkN b n lim a))) ((tksr cf1 0 (tkC b n (tkN b n lim a)) cm.toInt 0)) ((lf3 ((tksr cf1 0 (tkC b n a) cm.toInt 0) * 7 + (tksr cf1 0 (tkC b n (tkN b n lim a)) cm.toInt 0)).toNat).toInt) ((tkK b n lim (tkN b n lim (tkN b n lim a)))) ((tkVi b n (tkN b n lim (tkN b n lim a))).toInt) ((tkS b n lim (tkN b n lim (tkN b n lim a)))) ((tkN b n lim (tkN b n lim (tkN b n lim a)))) k pl) (h0 : k ≠ 0) : tkLN b n lim g gn t0 t1 wd st a k pl g gn t0 t1 := by
  rw [h.sm, h.sm] at hf
  have r1 := h.rm (tkC b n a)
  have r2 := h.rm (tkC b n (tkN b n lim a))
  have hf := fOwes_old (old' := (g (108 + ((tksr gn 0 (tkC b n a) (g 0).toInt 0) * 7 + (tksr gn 0 (tkC b n (tkN b n lim a)) (g 0).toInt 0))).toNat).toInt) hf (fun _ _ z1 z2 => by rw [h.2.2.2.2.2.2.1 _ (show ((tksr gn 0 (tkC b n a) (g 0).toInt 0) * 7 + (tksr gn 0 (tkC b n (tkN b n lim a)) (g 0).toInt 0)).toNat < 49 by omega), show 108 + ((tksr gn 0 (tkC b n a) (g 0).toInt 0) * 7 + (tksr gn 0 (tkC b n (tkN b n lim a)) (g 0).toInt 0)).toNat = (108 + ((tksr gn 0 (tkC b n a) (g 0).toInt 0) * 7 + (tksr gn 0 (tkC b n (tkN b n lim a)) (g 0).toInt 0))).toNat by omega])
  exact Or.inr (Or.inr (Or.inr (Or.inr (Or.inl ⟨hw, hf, fun z => absurd z h0⟩))))
theorem tkAX.Room_f {b : Nat → Int32} {n lim : Int} {g : Nat → Int32} {gn : Nat → Int64} {t0 t1 wd st a k pl : Int} {cm cd cr cw : Int32} {cf1 cf2 : Nat → Int64} {cf3 cf4 cf5 lf2 lf3 : Nat → Int32} {xr xf : Int32} (h : tkAX g gn t0 t1 cm cd cr cw cf1 cf2 cf3 cf4 cf5 lf2 lf3 xr xf) (hw : wd = 7) (hf : fRoom (st) (xr.toInt) ((tkK b n lim a)) ((tkVi b n a).toInt) ((tkS b n lim a)) ((tkN b n lim a)) k pl) (h0 : k ≠ 0) : tkLN b n lim g gn t0 t1 wd st a k pl g gn t0 t1 := by
  rw [h.2.2.2.2.2.2.2.2.2.1] at hf
  exact Or.inr (Or.inr (Or.inr (Or.inr (Or.inr (Or.inl ⟨hw, hf, fun z => absurd z h0⟩)))))
theorem tkAX.Faint_f {b : Nat → Int32} {n lim : Int} {g : Nat → Int32} {gn : Nat → Int64} {t0 t1 wd st a k pl : Int} {cm cd cr cw : Int32} {cf1 cf2 : Nat → Int64} {cf3 cf4 cf5 lf2 lf3 : Nat → Int32} {xr xf : Int32} (h : tkAX g gn t0 t1 cm cd cr cw cf1 cf2 cf3 cf4 cf5 lf2 lf3 xr xf) (hw : wd = 8) (hf : fFaint (st) (xf.toInt) ((tkK b n lim a)) ((tkVi b n a).toInt) ((tkS b n lim a)) ((tkN b n lim a)) k pl) (h0 : k ≠ 0) : tkLN b n lim g gn t0 t1 wd st a k pl g gn t0 t1 := by
  rw [h.2.2.2.2.2.2.2.2.2.2] at hf
  exact Or.inr (Or.inr (Or.inr (Or.inr (Or.inr (Or.inr (Or.inl ⟨hw, hf, fun z => absurd z h0⟩))))))
theorem tkLN_no {b : Nat → Int32} {n lim : Int} {g : Nat → Int32} {gn : Nat → Int64} {t0 t1 wd st a k pl : Int} {g2 : Nat → Int32} {gn2 : Nat → Int64} {u0 u1 : Int} (h : wd ≠ 0 ∧ wd ≠ 1 ∧ wd ≠ 4 ∧ wd ≠ 5 ∧ wd ≠ 6 ∧ wd ≠ 7 ∧ wd ≠ 8) (hk : k = 1) (hp : pl = st) : tkLN b n lim g gn t0 t1 wd st a k pl g2 gn2 u0 u1 := Or.inr (Or.inr (Or.inr (Or.inr (Or.inr (Or.inr (Or.inr ⟨h.1, h.2.1, h.2.2.1, h.2.2.2.1, h.2.2.2.2.1, h.2.2.2.2.2.1, h.2.2.2.2.2.2, hk, hp⟩))))))
theorem tkAX.Man_s {b : Nat → Int32} {n lim : Int} {g : Nat → Int32} {gn : Nat → Int64} {t0 t1 wd st a : Int} {cm cd cr cw : Int32} {cf1 cf2 : Nat → Int64} {cf3 cf4 cf5 lf2 lf3 : Nat → Int32} {xr xf : Int32} (h : tkAX g gn t0 t1 cm cd cr cw cf1 cf2 cf3 cf4 cf5 lf2 lf3 xr xf) (hw : wd = 0) (hf : fMan (st) (cm.toInt) ((tkK b n lim a)) ((tkW b n lim a)) ((tkS b n lim a)) ((tksr cf1 0 (tkC b n a) cm.toInt 0)) ((tksr cf2 0 (tkC b n a) cd.toInt 0)) ((tkK b n lim (tkN b n lim a))) ((tkVi b n (tkN b n lim a)).toInt) ((tkS b n lim (tkN b n lim a))) ((tkN b n lim (tkN b n lim a))) 0 (tkN b n lim (tkN b n lim a))) {cm' : Int32} {cf1' : Nat → Int64} (e1 : cf1' = vp_updL cf1 (cm.toInt).toNat (tkC b n a)) (e2 : cm'.toInt = cm.toInt + 1) : ∃ (g2 : Nat → Int32) (gn2 : Nat → Int64) (u0 u1 : Int), tkLN b n lim g gn t0 t1 wd st a 0 (tkN b n lim (tkN b n lim a)) g2 gn2 u0 u1 ∧ tkAX g2 gn2 u0 u1 cm' cd cr cw cf1' cf2 cf3 cf4 cf5 lf2 lf3 xr xf := by
  rw [h.sm, h.sd, h.1.1] at hf
  refine ⟨upd (upd g (4 + (g 0).toInt).toNat (tkVi b n (tkN b n lim a))) 0 (g 0 + 1), vp_updL gn (g 0).toInt.toNat (tkC b n a), t0, t1, Or.inl ⟨hw, hf, fun _ => ⟨rfl, rfl, rfl, rfl⟩⟩, ?_⟩
  obtain ⟨ok0, ok1, ok2, ok3, ok4, ok5, ok6, ok7, ok8⟩ := fMan_ok hf
  clear hf
  obtain ⟨⟨h1, h2, h3, h4⟩, hb, a1, a2, a3, a4, a5, a6, a7, a8, a9⟩ := h
  have k1 : (1 : Int32).toInt = 1 := by decide
  have e0 : (g 0 + 1).toInt = (g 0).toInt + 1 := by rw [← k1]; exact i_add rfl (by omega) (by omega)
  exact ⟨⟨(by rw [pk_us, e0]; omega), (by rw [pk_un (show (1 : Nat) ≠ 0 by omega), pk_un (show (1 : Nat) ≠ (4 + (g 0).toInt).toNat by omega)]; exact h2), (by rw [pk_un (show (2 : Nat) ≠ 0 by omega), pk_un (show (2 : Nat) ≠ (4 + (g 0).toInt).toNat by omega)]; exact h3), (by rw [pk_un (show (3 : Nat) ≠ 0 by omega), pk_un (show (3 : Nat) ≠ (4 + (g 0).toInt).toNat by omega)]; exact h4)⟩, (by omega),
    (fun j hj => by rw [pk_un (show 11 + j ≠ 0 by omega), pk_un (show 11 + j ≠ (4 + (g 0).toInt).toNat by omega)]; exact a1 j hj),
    (fun j hj => by rw [pk_un (show 21 + j ≠ 0 by omega), pk_un (show 21 + j ≠ (4 + (g 0).toInt).toNat by omega)]; exact a2 j hj),
    (fun j hj => by rw [pk_un (show 31 + j ≠ 0 by omega), pk_un (show 31 + j ≠ (4 + (g 0).toInt).toNat by omega)]; exact a3 j hj),
    (fun j hj => by rw [pk_un (show 101 + j ≠ 0 by omega), pk_un (show 101 + j ≠ (4 + (g 0).toInt).toNat by omega)]; exact a4 j hj),
    (fun j hj => by rw [pk_un (show 108 + j ≠ 0 by omega), pk_un (show 108 + j ≠ (4 + (g 0).toInt).toNat by omega)]; exact a5 j hj),
    (fun j hj => by
      rw [e1]
      by_cases c : j = (cm.toInt).toNat
      · rw [c, pk_uLs, h1, pk_uLs]
      · rw [pk_uLn c, pk_uLn (show j ≠ (g 0).toInt.toNat by omega)]; exact a6 j (by omega)),
    (fun j hj => by rw [pk_uLn (show 7 + j ≠ (g 0).toInt.toNat by omega)]; exact a7 j hj),
    a8,
    a9⟩
theorem tkAX.Deed_s {b : Nat → Int32} {n lim : Int} {g : Nat → Int32} {gn : Nat → Int64} {t0 t1 wd st a : Int} {cm cd cr cw : Int32} {cf1 cf2 : Nat → Int64} {cf3 cf4 cf5 lf2 lf3 : Nat → Int32} {xr xf : Int32} (h : tkAX g gn t0 t1 cm cd cr cw cf1 cf2 cf3 cf4 cf5 lf2 lf3 xr xf) (hw : wd = 1) (hf : fDeed (st) (cd.toInt) ((tkK b n lim a)) ((tkW b n lim a)) ((tkS b n lim a)) ((tksr cf1 0 (tkC b n a) cm.toInt 0)) ((tksr cf2 0 (tkC b n a) cd.toInt 0)) ((tkW b n lim (tkN b n lim a))) ((tkS b n lim (tkN b n lim a))) ((tkK b n lim (tkN b n lim (tkN b n lim a)))) ((tkVi b n (tkN b n lim (tkN b n lim a))).toInt) ((tkS b n lim (tkN b n lim (tkN b n lim a)))) ((tkN b n lim (tkN b n lim (tkN b n lim a)))) 0 (tkN b n lim (tkN b n lim (tkN b n lim a)))) {cd' : Int32} {cf2' : Nat → Int64} {cf3' cf4' : Nat → Int32} (e1 : cf2' = vp_updL cf2 (cd.toInt).toNat (tkC b n a)) (e4 : cf4' = upd cf4 (cd.toInt).toNat (if (tkW b n lim (tkN b n lim a)) = 3 then 1 else 0)) (e3 : cf3' = upd cf3 (cd.toInt).toNat (tkVi b n (tkN b n lim (tkN b n lim a)))) (e2 : cd'.toInt = cd.toInt + 1) : ∃ (g2 : Nat → Int32) (gn2 : Nat → Int64) (u0 u1 : Int), tkLN b n lim g gn t0 t1 wd st a 0 (tkN b n lim (tkN b n lim (tkN b n lim a))) g2 gn2 u0 u1 ∧ tkAX g2 gn2 u0 u1 cm cd' cr cw cf1 cf2' cf3' cf4' cf5 lf2 lf3 xr xf := by
  rw [h.sm, h.sd, h.1.2.1] at hf
  refine ⟨upd (upd (upd g (21 + (g 1).toInt).toNat (if (tkW b n lim (tkN b n lim a)) = 3 then 1 else 0)) (11 + (g 1).toInt).toNat (tkVi b n (tkN b n lim (tkN b n lim a)))) 1 (g 1 + 1), vp_updL gn (7 + (g 1).toInt).toNat (tkC b n a), t0, t1, Or.inr (Or.inl ⟨hw, hf, fun _ => ⟨rfl, rfl, rfl, rfl⟩⟩), ?_⟩
  obtain ⟨ok0, ok1, ok2, ok3, ok4, ok5, ok6, ok7, ok8, ok9⟩ := fDeed_ok hf
  clear hf
  obtain ⟨⟨h1, h2, h3, h4⟩, hb, a1, a2, a3, a4, a5, a6, a7, a8, a9⟩ := h
  have k1 : (1 : Int32).toInt = 1 := by decide
  have e0 : (g 1 + 1).toInt = (g 1).toInt + 1 := by rw [← k1]; exact i_add rfl (by omega) (by omega)
  exact ⟨⟨(by rw [pk_un (show (0 : Nat) ≠ 1 by omega), pk_un (show (0 : Nat) ≠ (11 + (g 1).toInt).toNat by omega), pk_un (show (0 : Nat) ≠ (21 + (g 1).toInt).toNat by omega)]; exact h1), (by rw [pk_us, e0]; omega), (by rw [pk_un (show (2 : Nat) ≠ 1 by omega), pk_un (show (2 : Nat) ≠ (11 + (g 1).toInt).toNat by omega), pk_un (show (2 : Nat) ≠ (21 + (g 1).toInt).toNat by omega)]; exact h3), (by rw [pk_un (show (3 : Nat) ≠ 1 by omega), pk_un (show (3 : Nat) ≠ (11 + (g 1).toInt).toNat by omega), pk_un (show (3 : Nat) ≠ (21 + (g 1).toInt).toNat by omega)]; exact h4)⟩, (by omega),
    (fun j hj => by
      rw [pk_un (show 11 + j ≠ 1 by omega)]
      by_cases c : j = (cd.toInt).toNat
      · rw [e3, c, pk_us, show 11 + (cd.toInt).toNat = (11 + (g 1).toInt).toNat by omega, pk_us]
      · rw [e3, pk_un c, pk_un (show 11 + j ≠ (11 + (g 1).toInt).toNat by omega), pk_un (show 11 + j ≠ (21 + (g 1).toInt).toNat by omega)]; exact a1 j (by omega)),
    (fun j hj => by
      rw [pk_un (show 21 + j ≠ 1 by omega), pk_un (show 21 + j ≠ (11 + (g 1).toInt).toNat by omega)]
      by_cases c : j = (cd.toInt).toNat
      · rw [e4, c, pk_us, show 21 + (cd.toInt).toNat = (21 + (g 1).toInt).toNat by omega, pk_us]
      · rw [e4, pk_un c, pk_un (show 21 + j ≠ (21 + (g 1).toInt).toNat by omega)]; exact a2 j (by omega)),
    (fun j hj => by rw [pk_un (show 31 + j ≠ 1 by omega), pk_un (show 31 + j ≠ (11 + (g 1).toInt).toNat by omega), pk_un (show 31 + j ≠ (21 + (g 1).toInt).toNat by omega)]; exact a3 j hj),
    (fun j hj => by rw [pk_un (show 101 + j ≠ 1 by omega), pk_un (show 101 + j ≠ (11 + (g 1).toInt).toNat by omega), pk_un (show 101 + j ≠ (21 + (g 1).toInt).toNat by omega)]; exact a4 j hj),
    (fun j hj => by rw [pk_un (show 108 + j ≠ 1 by omega), pk_un (show 108 + j ≠ (11 + (g 1).toInt).toNat by omega), pk_un (show 108 + j ≠ (21 + (g 1).toInt).toNat by omega)]; exact a5 j hj),
    (fun j hj => by rw [pk_uLn (show j ≠ (7 + (g 1).toInt).toNat by omega)]; exact a6 j hj),
    (fun j hj => by
      rw [e1]
      by_cases c : j = (cd.toInt).toNat
      · rw [c, pk_uLs, show 7 + (cd.toInt).toNat = (7 + (g 1).toInt).toNat by omega, pk_uLs]
      · rw [pk_uLn c, pk_uLn (show 7 + j ≠ (7 + (g 1).toInt).toNat by omega)]; exact a7 j (by omega)),
    a8,
    a9⟩
theorem tkAX.Did_s {b : Nat → Int32} {n lim : Int} {g : Nat → Int32} {gn : Nat → Int64} {t0 t1 wd st a : Int} {cm cd cr cw : Int32} {cf1 cf2 : Nat → Int64} {cf3 cf4 cf5 lf2 lf3 : Nat → Int32} {xr xf : Int32} (h : tkAX g gn t0 t1 cm cd cr cw cf1 cf2 cf3 cf4 cf5 lf2 lf3 xr xf) (hw : wd = 4) (hf : fDid ((tkK b n lim a)) ((tkW b n lim a)) ((tkS b n lim a)) ((tksr cf1 0 (tkC b n a) cm.toInt 0)) ((tkK b n lim (tkN b n lim a))) ((tkW b n lim (tkN b n lim a))) ((tkS b n lim (tkN b n lim a))) ((tksr cf2 0 (tkC b n (tkN b n lim a)) cd.toInt 0)) ((lf2 ((tksr cf1 0 (tkC b n a) cm.toInt 0) * 10 + (tksr cf2 0 (tkC b n (tkN b n lim a)) cd.toInt 0)).toNat).toInt) ((tkK b n lim (tkN b n lim (tkN b n lim a)))) ((tkVi b n (tkN b n lim (tkN b n lim a))).toInt) ((tkS b n lim (tkN b n lim (tkN b n lim a)))) ((tkN b n lim (tkN b n lim (tkN b n lim a)))) 0 (tkN b n lim (tkN b n lim (tkN b n lim a)))) {lf2' : Nat → Int32} (e1 : lf2' = upd lf2 ((tksr cf1 0 (tkC b n a) cm.toInt 0) * 10 + (tksr cf2 0 (tkC b n (tkN b n lim a)) cd.toInt 0)).toNat (tkVi b n (tkN b n lim (tkN b n lim a)))) : ∃ (g2 : Nat → Int32) (gn2 : Nat → Int64) (u0 u1 : Int), tkLN b n lim g gn t0 t1 wd st a 0 (tkN b n lim (tkN b n lim (tkN b n lim a))) g2 gn2 u0 u1 ∧ tkAX g2 gn2 u0 u1 cm cd cr cw cf1 cf2 cf3 cf4 cf5 lf2' lf3 xr xf := by
  rw [h.sm, h.sd] at hf
  have r1 := h.rm (tkC b n a)
  have r2 := h.rd (tkC b n (tkN b n lim a))
  have hf := fDid_old (old' := (g (31 + ((tksr gn 0 (tkC b n a) (g 0).toInt 0) * 10 + (tksr gn 7 (tkC b n (tkN b n lim a)) (g 1).toInt 0))).toNat).toInt) hf (fun _ _ z1 z2 => by rw [h.2.2.2.2.1 _ (show ((tksr gn 0 (tkC b n a) (g 0).toInt 0) * 10 + (tksr gn 7 (tkC b n (tkN b n lim a)) (g 1).toInt 0)).toNat < 70 by omega), show 31 + ((tksr gn 0 (tkC b n a) (g 0).toInt 0) * 10 + (tksr gn 7 (tkC b n (tkN b n lim a)) (g 1).toInt 0)).toNat = (31 + ((tksr gn 0 (tkC b n a) (g 0).toInt 0) * 10 + (tksr gn 7 (tkC b n (tkN b n lim a)) (g 1).toInt 0))).toNat by omega])
  rw [h.sm, h.sd] at e1
  refine ⟨upd g (31 + ((tksr gn 0 (tkC b n a) (g 0).toInt 0) * 10 + (tksr gn 7 (tkC b n (tkN b n lim a)) (g 1).toInt 0))).toNat (tkVi b n (tkN b n lim (tkN b n lim a))), gn, t0, t1, Or.inr (Or.inr (Or.inl ⟨hw, hf, fun _ => ⟨rfl, rfl, rfl, rfl⟩⟩)), ?_⟩
  obtain ⟨ok0, ok1, ok2, ok3, ok4, ok5, ok6, ok7, ok8, ok9, ok10⟩ := fDid_ok hf
  clear hf
  obtain ⟨⟨h1, h2, h3, h4⟩, hb, a1, a2, a3, a4, a5, a6, a7, a8, a9⟩ := h
  have k1 : (1 : Int32).toInt = 1 := by decide
  exact ⟨⟨(by rw [pk_un (show (0 : Nat) ≠ (31 + ((tksr gn 0 (tkC b n a) (g 0).toInt 0) * 10 + (tksr gn 7 (tkC b n (tkN b n lim a)) (g 1).toInt 0))).toNat by omega)]; exact h1), (by rw [pk_un (show (1 : Nat) ≠ (31 + ((tksr gn 0 (tkC b n a) (g 0).toInt 0) * 10 + (tksr gn 7 (tkC b n (tkN b n lim a)) (g 1).toInt 0))).toNat by omega)]; exact h2), (by rw [pk_un (show (2 : Nat) ≠ (31 + ((tksr gn 0 (tkC b n a) (g 0).toInt 0) * 10 + (tksr gn 7 (tkC b n (tkN b n lim a)) (g 1).toInt 0))).toNat by omega)]; exact h3), (by rw [pk_un (show (3 : Nat) ≠ (31 + ((tksr gn 0 (tkC b n a) (g 0).toInt 0) * 10 + (tksr gn 7 (tkC b n (tkN b n lim a)) (g 1).toInt 0))).toNat by omega)]; exact h4)⟩, (by omega),
    (fun j hj => by rw [pk_un (show 11 + j ≠ (31 + ((tksr gn 0 (tkC b n a) (g 0).toInt 0) * 10 + (tksr gn 7 (tkC b n (tkN b n lim a)) (g 1).toInt 0))).toNat by omega)]; exact a1 j hj),
    (fun j hj => by rw [pk_un (show 21 + j ≠ (31 + ((tksr gn 0 (tkC b n a) (g 0).toInt 0) * 10 + (tksr gn 7 (tkC b n (tkN b n lim a)) (g 1).toInt 0))).toNat by omega)]; exact a2 j hj),
    (fun j hj => by
      rw [e1]
      by_cases c : j = ((tksr gn 0 (tkC b n a) (g 0).toInt 0) * 10 + (tksr gn 7 (tkC b n (tkN b n lim a)) (g 1).toInt 0)).toNat
      · rw [c, pk_us, show 31 + ((tksr gn 0 (tkC b n a) (g 0).toInt 0) * 10 + (tksr gn 7 (tkC b n (tkN b n lim a)) (g 1).toInt 0)).toNat = (31 + ((tksr gn 0 (tkC b n a) (g 0).toInt 0) * 10 + (tksr gn 7 (tkC b n (tkN b n lim a)) (g 1).toInt 0))).toNat by omega, pk_us]
      · rw [pk_un c, pk_un (show 31 + j ≠ (31 + ((tksr gn 0 (tkC b n a) (g 0).toInt 0) * 10 + (tksr gn 7 (tkC b n (tkN b n lim a)) (g 1).toInt 0))).toNat by omega)]; exact a3 j hj),
    (fun j hj => by rw [pk_un (show 101 + j ≠ (31 + ((tksr gn 0 (tkC b n a) (g 0).toInt 0) * 10 + (tksr gn 7 (tkC b n (tkN b n lim a)) (g 1).toInt 0))).toNat by omega)]; exact a4 j hj),
    (fun j hj => by rw [pk_un (show 108 + j ≠ (31 + ((tksr gn 0 (tkC b n a) (g 0).toInt 0) * 10 + (tksr gn 7 (tkC b n (tkN b n lim a)) (g 1).toInt 0))).toNat by omega)]; exact a5 j hj),
    a6,
    a7,
    a8,
    a9⟩
theorem tkAX.Kin_s {b : Nat → Int32} {n lim : Int} {g : Nat → Int32} {gn : Nat → Int64} {t0 t1 wd st a : Int} {cm cd cr cw : Int32} {cf1 cf2 : Nat → Int64} {cf3 cf4 cf5 lf2 lf3 : Nat → Int32} {xr xf : Int32} (h : tkAX g gn t0 t1 cm cd cr cw cf1 cf2 cf3 cf4 cf5 lf2 lf3 xr xf) (hw : wd = 5) (hf : fKin ((tkK b n lim a)) ((tkW b n lim a)) ((tkS b n lim a)) ((tksr cf1 0 (tkC b n a) cm.toInt 0)) ((tkK b n lim (tkN b n lim a))) ((tkW b n lim (tkN b n lim a))) ((tkS b n lim (tkN b n lim a))) ((tksr cf1 0 (tkC b n (tkN b n lim a)) cm.toInt 0)) (tkHas (cf5 (tksr cf1 0 (tkC b n a) cm.toInt 0).toNat) (tksr cf1 0 (tkC b n (tkN b n lim a)) cm.toInt 0)) ((tkN b n lim (tkN b n lim a))) 0 (tkN b n lim (tkN b n lim a))) {cf5' : Nat → Int32} (e1 : cf5' = tkKinU cf5 0 (tksr cf1 0 (tkC b n a) cm.toInt 0) (tksr cf1 0 (tkC b n (tkN b n lim a)) cm.toInt 0)) : ∃ (g2 : Nat → Int32) (gn2 : Nat → Int64) (u0 u1 : Int), tkLN b n lim g gn t0 t1 wd st a 0 (tkN b n lim (tkN b n lim a)) g2 gn2 u0 u1 ∧ tkAX g2 gn2 u0 u1 cm cd cr cw cf1 cf2 cf3 cf4 cf5' lf2 lf3 xr xf := by
  rw [h.sm, h.sm] at hf
  have r1 := h.rm (tkC b n a)
  have r2 := h.rm (tkC b n (tkN b n lim a))
  have hf := fKin_old (old' := tkHas (g (101 + (tksr gn 0 (tkC b n a) (g 0).toInt 0)).toNat) (tksr gn 0 (tkC b n (tkN b n lim a)) (g 0).toInt 0)) hf (fun _ _ z1 z2 => by rw [h.2.2.2.2.2.1 _ (show (tksr gn 0 (tkC b n a) (g 0).toInt 0).toNat < 7 by omega), show 101 + (tksr gn 0 (tkC b n a) (g 0).toInt 0).toNat = (101 + (tksr gn 0 (tkC b n a) (g 0).toInt 0)).toNat by omega])
  rw [h.sm, h.sm] at e1
  refine ⟨tkKinU g 101 (tksr gn 0 (tkC b n a) (g 0).toInt 0) (tksr gn 0 (tkC b n (tkN b n lim a)) (g 0).toInt 0), gn, t0, t1, Or.inr (Or.inr (Or.inr (Or.inl ⟨hw, hf, fun _ => ⟨rfl, rfl, rfl, rfl⟩⟩))), ?_⟩
  obtain ⟨ok0, ok1, ok2, ok3, ok4, ok5, ok6, ok7, ok8⟩ := fKin_ok hf
  clear hf
  obtain ⟨⟨h1, h2, h3, h4⟩, hb, a1, a2, a3, a4, a5, a6, a7, a8, a9⟩ := h
  have k1 : (1 : Int32).toInt = 1 := by decide
  exact ⟨⟨(by rw [tkKinU_out (show (0 : Nat) ≠ (101 + (tksr gn 0 (tkC b n a) (g 0).toInt 0)).toNat by omega) (show (0 : Nat) ≠ (101 + (tksr gn 0 (tkC b n (tkN b n lim a)) (g 0).toInt 0)).toNat by omega)]; exact h1), (by rw [tkKinU_out (show (1 : Nat) ≠ (101 + (tksr gn 0 (tkC b n a) (g 0).toInt 0)).toNat by omega) (show (1 : Nat) ≠ (101 + (tksr gn 0 (tkC b n (tkN b n lim a)) (g 0).toInt 0)).toNat by omega)]; exact h2), (by rw [tkKinU_out (show (2 : Nat) ≠ (101 + (tksr gn 0 (tkC b n a) (g 0).toInt 0)).toNat by omega) (show (2 : Nat) ≠ (101 + (tksr gn 0 (tkC b n (tkN b n lim a)) (g 0).toInt 0)).toNat by omega)]; exact h3), (by rw [tkKinU_out (show (3 : Nat) ≠ (101 + (tksr gn 0 (tkC b n a) (g 0).toInt 0)).toNat by omega) (show (3 : Nat) ≠ (101 + (tksr gn 0 (tkC b n (tkN b n lim a)) (g 0).toInt 0)).toNat by omega)]; exact h4)⟩, (by omega),
    (fun j hj => by rw [tkKinU_out (show 11 + j ≠ (101 + (tksr gn 0 (tkC b n a) (g 0).toInt 0)).toNat by omega) (show 11 + j ≠ (101 + (tksr gn 0 (tkC b n (tkN b n lim a)) (g 0).toInt 0)).toNat by omega)]; exact a1 j hj),
    (fun j hj => by rw [tkKinU_out (show 21 + j ≠ (101 + (tksr gn 0 (tkC b n a) (g 0).toInt 0)).toNat by omega) (show 21 + j ≠ (101 + (tksr gn 0 (tkC b n (tkN b n lim a)) (g 0).toInt 0)).toNat by omega)]; exact a2 j hj),
    (fun j hj => by rw [tkKinU_out (show 31 + j ≠ (101 + (tksr gn 0 (tkC b n a) (g 0).toInt 0)).toNat by omega) (show 31 + j ≠ (101 + (tksr gn 0 (tkC b n (tkN b n lim a)) (g 0).toInt 0)).toNat by omega)]; exact a3 j hj),
    (fun j hj => by
      rw [e1]
      refine tkKinU_like (by omega) (by omega) (by omega) (by omega) (by omega) ?_ ?_ (a4 j hj)
      · rw [a4 _ (show (0 + (tksr gn 0 (tkC b n a) (g 0).toInt 0)).toNat < 7 by omega), show 101 + (0 + (tksr gn 0 (tkC b n a) (g 0).toInt 0)).toNat = (101 + (tksr gn 0 (tkC b n a) (g 0).toInt 0)).toNat by omega]
      · rw [a4 _ (show (0 + (tksr gn 0 (tkC b n (tkN b n lim a)) (g 0).toInt 0)).toNat < 7 by omega), show 101 + (0 + (tksr gn 0 (tkC b n (tkN b n lim a)) (g 0).toInt 0)).toNat = (101 + (tksr gn 0 (tkC b n (tkN b n lim a)) (g 0).toInt 0)).toNat by omega]),
    (fun j hj => by rw [tkKinU_out (show 108 + j ≠ (101 + (tksr gn 0 (tkC b n a) (g 0).toInt 0)).toNat by omega) (show 108 + j ≠ (101 + (tksr gn 0 (tkC b n (tkN b n lim a)) (g 0).toInt 0)).toNat by omega)]; exact a5 j hj),
    a6,
    a7,
    a8,
    a9⟩
theorem tkAX.Owes_s {b : Nat → Int32} {n lim : Int} {g : Nat → Int32} {gn : Nat → Int64} {t0 t1 wd st a : Int} {cm cd cr cw : Int32} {cf1 cf2 : Nat → Int64} {cf3 cf4 cf5 lf2 lf3 : Nat → Int32} {xr xf : Int32} (h : tkAX g gn t0 t1 cm cd cr cw cf1 cf2 cf3 cf4 cf5 lf2 lf3 xr xf) (hw : wd = 6) (hf : fOwes ((tkK b n lim a)) ((tkW b n lim a)) ((tkS b n lim a)) ((tksr cf1 0 (tkC b n a) cm.toInt 0)) ((tkK b n lim (tkN b n lim a))) ((tkW b n lim (tkN b n lim a))) ((tkS b n lim (tkN b n lim a))) ((tksr cf1 0 (tkC b n (tkN b n lim a)) cm.toInt 0)) ((lf3 ((tksr cf1 0 (tkC b n a) cm.toInt 0) * 7 + (tksr cf1 0 (tkC b n (tkN b n lim a)) cm.toInt 0)).toNat).toInt) ((tkK b n lim (tkN b n lim (tkN b n lim a)))) ((tkVi b n (tkN b n lim (tkN b n lim a))).toInt) ((tkS b n lim (tkN b n lim (tkN b n lim a)))) ((tkN b n lim (tkN b n lim (tkN b n lim a)))) 0 (tkN b n lim (tkN b n lim (tkN b n lim a)))) {lf3' : Nat → Int32} (e1 : lf3' = upd lf3 ((tksr cf1 0 (tkC b n a) cm.toInt 0) * 7 + (tksr cf1 0 (tkC b n (tkN b n lim a)) cm.toInt 0)).toNat (tkVi b n (tkN b n lim (tkN b n lim a)))) : ∃ (g2 : Nat → Int32) (gn2 : Nat → Int64) (u0 u1 : Int), tkLN b n lim g gn t0 t1 wd st a 0 (tkN b n lim (tkN b n lim (tkN b n lim a))) g2 gn2 u0 u1 ∧ tkAX g2 gn2 u0 u1 cm cd cr cw cf1 cf2 cf3 cf4 cf5 lf2 lf3' xr xf := by
  rw [h.sm, h.sm] at hf
  have r1 := h.rm (tkC b n a)
  have r2 := h.rm (tkC b n (tkN b n lim a))
  have hf := fOwes_old (old' := (g (108 + ((tksr gn 0 (tkC b n a) (g 0).toInt 0) * 7 + (tksr gn 0 (tkC b n (tkN b n lim a)) (g 0).toInt 0))).toNat).toInt) hf (fun _ _ z1 z2 => by rw [h.2.2.2.2.2.2.1 _ (show ((tksr gn 0 (tkC b n a) (g 0).toInt 0) * 7 + (tksr gn 0 (tkC b n (tkN b n lim a)) (g 0).toInt 0)).toNat < 49 by omega), show 108 + ((tksr gn 0 (tkC b n a) (g 0).toInt 0) * 7 + (tksr gn 0 (tkC b n (tkN b n lim a)) (g 0).toInt 0)).toNat = (108 + ((tksr gn 0 (tkC b n a) (g 0).toInt 0) * 7 + (tksr gn 0 (tkC b n (tkN b n lim a)) (g 0).toInt 0))).toNat by omega])
  rw [h.sm, h.sm] at e1
  refine ⟨upd g (108 + ((tksr gn 0 (tkC b n a) (g 0).toInt 0) * 7 + (tksr gn 0 (tkC b n (tkN b n lim a)) (g 0).toInt 0))).toNat (tkVi b n (tkN b n lim (tkN b n lim a))), gn, t0, t1, Or.inr (Or.inr (Or.inr (Or.inr (Or.inl ⟨hw, hf, fun _ => ⟨rfl, rfl, rfl, rfl⟩⟩)))), ?_⟩
  obtain ⟨ok0, ok1, ok2, ok3, ok4, ok5, ok6, ok7, ok8, ok9, ok10, ok11⟩ := fOwes_ok hf
  clear hf
  obtain ⟨⟨h1, h2, h3, h4⟩, hb, a1, a2, a3, a4, a5, a6, a7, a8, a9⟩ := h
  have k1 : (1 : Int32).toInt = 1 := by decide
  exact ⟨⟨(by rw [pk_un (show (0 : Nat) ≠ (108 + ((tksr gn 0 (tkC b n a) (g 0).toInt 0) * 7 + (tksr gn 0 (tkC b n (tkN b n lim a)) (g 0).toInt 0))).toNat by omega)]; exact h1), (by rw [pk_un (show (1 : Nat) ≠ (108 + ((tksr gn 0 (tkC b n a) (g 0).toInt 0) * 7 + (tksr gn 0 (tkC b n (tkN b n lim a)) (g 0).toInt 0))).toNat by omega)]; exact h2), (by rw [pk_un (show (2 : Nat) ≠ (108 + ((tksr gn 0 (tkC b n a) (g 0).toInt 0) * 7 + (tksr gn 0 (tkC b n (tkN b n lim a)) (g 0).toInt 0))).toNat by omega)]; exact h3), (by rw [pk_un (show (3 : Nat) ≠ (108 + ((tksr gn 0 (tkC b n a) (g 0).toInt 0) * 7 + (tksr gn 0 (tkC b n (tkN b n lim a)) (g 0).toInt 0))).toNat by omega)]; exact h4)⟩, (by omega),
    (fun j hj => by rw [pk_un (show 11 + j ≠ (108 + ((tksr gn 0 (tkC b n a) (g 0).toInt 0) * 7 + (tksr gn 0 (tkC b n (tkN b n lim a)) (g 0).toInt 0))).toNat by omega)]; exact a1 j hj),
    (fun j hj => by rw [pk_un (show 21 + j ≠ (108 + ((tksr gn 0 (tkC b n a) (g 0).toInt 0) * 7 + (tksr gn 0 (tkC b n (tkN b n lim a)) (g 0).toInt 0))).toNat by omega)]; exact a2 j hj),
    (fun j hj => by rw [pk_un (show 31 + j ≠ (108 + ((tksr gn 0 (tkC b n a) (g 0).toInt 0) * 7 + (tksr gn 0 (tkC b n (tkN b n lim a)) (g 0).toInt 0))).toNat by omega)]; exact a3 j hj),
    (fun j hj => by rw [pk_un (show 101 + j ≠ (108 + ((tksr gn 0 (tkC b n a) (g 0).toInt 0) * 7 + (tksr gn 0 (tkC b n (tkN b n lim a)) (g 0).toInt 0))).toNat by omega)]; exact a4 j hj),
    (fun j hj => by
      rw [e1]
      by_cases c : j = ((tksr gn 0 (tkC b n a) (g 0).toInt 0) * 7 + (tksr gn 0 (tkC b n (tkN b n lim a)) (g 0).toInt 0)).toNat
      · rw [c, pk_us, show 108 + ((tksr gn 0 (tkC b n a) (g 0).toInt 0) * 7 + (tksr gn 0 (tkC b n (tkN b n lim a)) (g 0).toInt 0)).toNat = (108 + ((tksr gn 0 (tkC b n a) (g 0).toInt 0) * 7 + (tksr gn 0 (tkC b n (tkN b n lim a)) (g 0).toInt 0))).toNat by omega, pk_us]
      · rw [pk_un c, pk_un (show 108 + j ≠ (108 + ((tksr gn 0 (tkC b n a) (g 0).toInt 0) * 7 + (tksr gn 0 (tkC b n (tkN b n lim a)) (g 0).toInt 0))).toNat by omega)]; exact a5 j hj),
    a6,
    a7,
    a8,
    a9⟩
theorem tkAX.Room_s {b : Nat → Int32} {n lim : Int} {g : Nat → Int32} {gn : Nat → Int64} {t0 t1 wd st a : Int} {cm cd cr cw : Int32} {cf1 cf2 : Nat → Int64} {cf3 cf4 cf5 lf2 lf3 : Nat → Int32} {xr xf : Int32} (h : tkAX g gn t0 t1 cm cd cr cw cf1 cf2 cf3 cf4 cf5 lf2 lf3 xr xf) (hw : wd = 7) (hf : fRoom (st) (xr.toInt) ((tkK b n lim a)) ((tkVi b n a).toInt) ((tkS b n lim a)) ((tkN b n lim a)) 0 (tkN b n lim a)) {cr' xr' : Int32} (e1 : xr'.toInt = 1) (e2 : cr' = (tkVi b n a)) : ∃ (g2 : Nat → Int32) (gn2 : Nat → Int64) (u0 u1 : Int), tkLN b n lim g gn t0 t1 wd st a 0 (tkN b n lim a) g2 gn2 u0 u1 ∧ tkAX g2 gn2 u0 u1 cm cd cr' cw cf1 cf2 cf3 cf4 cf5 lf2 lf3 xr' xf := by
  rw [h.2.2.2.2.2.2.2.2.2.1] at hf
  refine ⟨upd g 2 (tkVi b n a), gn, 1, t1, Or.inr (Or.inr (Or.inr (Or.inr (Or.inr (Or.inl ⟨hw, hf, fun _ => ⟨rfl, rfl, rfl, rfl⟩⟩))))), ?_⟩
  obtain ⟨ok0, ok1, ok2, ok3, ok4⟩ := fRoom_ok hf
  clear hf
  obtain ⟨⟨h1, h2, h3, h4⟩, hb, a1, a2, a3, a4, a5, a6, a7, a8, a9⟩ := h
  have k1 : (1 : Int32).toInt = 1 := by decide
  exact ⟨⟨(by rw [pk_un (show (0 : Nat) ≠ 2 by omega)]; exact h1), (by rw [pk_un (show (1 : Nat) ≠ 2 by omega)]; exact h2), (by rw [pk_us]; exact e2), (by rw [pk_un (show (3 : Nat) ≠ 2 by omega)]; exact h4)⟩, (by omega),
    (fun j hj => by rw [pk_un (show 11 + j ≠ 2 by omega)]; exact a1 j hj),
    (fun j hj => by rw [pk_un (show 21 + j ≠ 2 by omega)]; exact a2 j hj),
    (fun j hj => by rw [pk_un (show 31 + j ≠ 2 by omega)]; exact a3 j hj),
    (fun j hj => by rw [pk_un (show 101 + j ≠ 2 by omega)]; exact a4 j hj),
    (fun j hj => by rw [pk_un (show 108 + j ≠ 2 by omega)]; exact a5 j hj),
    a6,
    a7,
    e1,
    a9⟩
theorem tkAX.Faint_s {b : Nat → Int32} {n lim : Int} {g : Nat → Int32} {gn : Nat → Int64} {t0 t1 wd st a : Int} {cm cd cr cw : Int32} {cf1 cf2 : Nat → Int64} {cf3 cf4 cf5 lf2 lf3 : Nat → Int32} {xr xf : Int32} (h : tkAX g gn t0 t1 cm cd cr cw cf1 cf2 cf3 cf4 cf5 lf2 lf3 xr xf) (hw : wd = 8) (hf : fFaint (st) (xf.toInt) ((tkK b n lim a)) ((tkVi b n a).toInt) ((tkS b n lim a)) ((tkN b n lim a)) 0 (tkN b n lim a)) {cw' xf' : Int32} (e1 : xf'.toInt = 1) (e2 : cw' = (tkVi b n a)) : ∃ (g2 : Nat → Int32) (gn2 : Nat → Int64) (u0 u1 : Int), tkLN b n lim g gn t0 t1 wd st a 0 (tkN b n lim a) g2 gn2 u0 u1 ∧ tkAX g2 gn2 u0 u1 cm cd cr cw' cf1 cf2 cf3 cf4 cf5 lf2 lf3 xr xf' := by
  rw [h.2.2.2.2.2.2.2.2.2.2] at hf
  refine ⟨upd g 3 (tkVi b n a), gn, t0, 1, Or.inr (Or.inr (Or.inr (Or.inr (Or.inr (Or.inr (Or.inl ⟨hw, hf, fun _ => ⟨rfl, rfl, rfl, rfl⟩⟩)))))), ?_⟩
  obtain ⟨ok0, ok1, ok2, ok3, ok4⟩ := fFaint_ok hf
  clear hf
  obtain ⟨⟨h1, h2, h3, h4⟩, hb, a1, a2, a3, a4, a5, a6, a7, a8, a9⟩ := h
  have k1 : (1 : Int32).toInt = 1 := by decide
  exact ⟨⟨(by rw [pk_un (show (0 : Nat) ≠ 3 by omega)]; exact h1), (by rw [pk_un (show (1 : Nat) ≠ 3 by omega)]; exact h2), (by rw [pk_un (show (2 : Nat) ≠ 3 by omega)]; exact h3), (by rw [pk_us]; exact e2)⟩, (by omega),
    (fun j hj => by rw [pk_un (show 11 + j ≠ 3 by omega)]; exact a1 j hj),
    (fun j hj => by rw [pk_un (show 21 + j ≠ 3 by omega)]; exact a2 j hj),
    (fun j hj => by rw [pk_un (show 31 + j ≠ 3 by omega)]; exact a3 j hj),
    (fun j hj => by rw [pk_un (show 101 + j ≠ 3 by omega)]; exact a4 j hj),
    (fun j hj => by rw [pk_un (show 108 + j ≠ 3 by omega)]; exact a5 j hj),
    a6,
    a7,
    a8,
    e1⟩
