def tkLN (b : Nat → Int32) (n lim : Int) (g : Nat → Int32) (gn : Nat → Int64) (t0 t1 wd st a k pl : Int) (g2 : Nat → Int32) (gn2 : Nat → Int64) (u0 u1 : Int) : Prop :=
    (wd = 0 ∧ fMan (st) ((g 0).toInt) ((tkK b n lim a)) ((tkW b n lim a)) ((tkS b n lim a)) ((tksr gn 0 (tkC b n a) (g 0).toInt 0)) ((tksr gn 7 (tkC b n a) (g 1).toInt 0)) ((tkK b n lim (tkN b n lim a))) ((tkVi b n (tkN b n lim a)).toInt) ((tkS b n lim (tkN b n lim a))) ((tkN b n lim (tkN b n lim a))) k pl ∧ (k = 0 → g2 = upd (upd g (4 + (g 0).toInt).toNat (tkVi b n (tkN b n lim a))) 0 (g 0 + 1) ∧ gn2 = vp_updL gn (g 0).toInt.toNat (tkC b n a) ∧ u0 = t0 ∧ u1 = t1)) ∨
    (wd = 1 ∧ fDeed (st) ((g 1).toInt) ((tkK b n lim a)) ((tkW b n lim a)) ((tkS b n lim a)) ((tksr gn 0 (tkC b n a) (g 0).toInt 0)) ((tksr gn 7 (tkC b n a) (g 1).toInt 0)) ((tkW b n lim (tkN b n lim a))) ((tkS b n lim (tkN b n lim a))) ((tkK b n lim (tkN b n lim (tkN b n lim a)))) ((tkVi b n (tkN b n lim (tkN b n lim a))).toInt) ((tkS b n lim (tkN b n lim (tkN b n lim a)))) ((tkN b n lim (tkN b n lim (tkN b n lim a)))) k pl ∧ (k = 0 → g2 = upd (upd (upd g (21 + (g 1).toInt).toNat (if (tkW b n lim (tkN b n lim a)) = 3 then 1 else 0)) (11 + (g 1).toInt).toNat (tkVi b n (tkN b n lim (tkN b n lim a)))) 1 (g 1 + 1) ∧ gn2 = vp_updL gn (7 + (g 1).toInt).toNat (tkC b n a) ∧ u0 = t0 ∧ u1 = t1)) ∨
    (wd = 4 ∧ fDid ((tkK b n lim a)) ((tkW b n lim a)) ((tkS b n lim a)) ((tksr gn 0 (tkC b n a) (g 0).toInt 0)) ((tkK b n lim (tkN b n lim a))) ((tkW b n lim (tkN b n lim a))) ((tkS b n lim (tkN b n lim a))) ((tksr gn 7 (tkC b n (tkN b n lim a)) (g 1).toInt 0)) ((g (31 + ((tksr gn 0 (tkC b n a) (g 0).toInt 0) * 10 + (tksr gn 7 (tkC b n (tkN b n lim a)) (g 1).toInt 0))).toNat).toInt) ((tkK b n lim (tkN b n lim (tkN b n lim a)))) ((tkVi b n (tkN b n lim (tkN b n lim a))).toInt) ((tkS b n lim (tkN b n lim (tkN b n lim a)))) ((tkN b n lim (tkN b n lim (tkN b n lim a)))) k pl ∧ (k = 0 → g2 = upd g (31 + ((tksr gn 0 (tkC b n a) (g 0).toInt 0) * 10 + (tksr gn 7 (tkC b n (tkN b n lim a)) (g 1).toInt 0))).toNat (tkVi b n (tkN b n lim (tkN b n lim a))) ∧ gn2 = gn ∧ u0 = t0 ∧ u1 = t1)) ∨
    (wd = 5 ∧ fKin ((tkK b n lim a)) ((tkW b n lim a)) ((tkS b n lim a)) ((tksr gn 0 (tkC b n a) (g 0).toInt 0)) ((tkK b n lim (tkN b n lim a))) ((tkW b n lim (tkN b n lim a))) ((tkS b n lim (tkN b n lim a))) ((tksr gn 0 (tkC b n (tkN b n lim a)) (g 0).toInt 0)) (tkHas (g (101 + (tksr gn 0 (tkC b n a) (g 0).toInt 0)).toNat) (tksr gn 0 (tkC b n (tkN b n lim a)) (g 0).toInt 0)) ((tkN b n lim (tkN b n lim a))) k pl ∧ (k = 0 → g2 = tkKinU g 101 (tksr gn 0 (tkC b n a) (g 0).toInt 0) (tksr gn 0 (tkC b n (tkN b n lim a)) (g 0).toInt 0) ∧ gn2 = gn ∧ u0 = t0 ∧ u1 = t1)) ∨
    (wd = 6 ∧ fOwes ((tkK b n lim a)) ((tkW b n lim a)) ((tkS b n lim a)) ((tksr gn 0 (tkC b n a) (g 0).toInt 0)) ((tkK b n lim (tkN b n lim a))) ((tkW b n lim (tkN b n lim a))) ((tkS b n lim (tkN b n lim a))) ((tksr gn 0 (tkC b n (tkN b n lim a)) (g 0).toInt 0)) ((g (108 + ((tksr gn 0 (tkC b n a) (g 0).toInt 0) * 7 + (tksr gn 0 (tkC b n (tkN b n lim a)) (g 0).toInt 0))).toNat).toInt) ((tkK b n lim (tkN b n lim (tkN b n lim a)))) ((tkVi b n (tkN b n lim (tkN b n lim a))).toInt) ((tkS b n lim (tkN b n lim (tkN b n lim a)))) ((tkN b n lim (tkN b n lim (tkN b n lim a)))) k pl ∧ (k = 0 → g2 = upd g (108 + ((tksr gn 0 (tkC b n a) (g 0).toInt 0) * 7 + (tksr gn 0 (tkC b n (tkN b n lim a)) (g 0).toInt 0))).toNat (tkVi b n (tkN b n lim (tkN b n lim a))) ∧ gn2 = gn ∧ u0 = t0 ∧ u1 = t1)) ∨
    (wd = 7 ∧ fRoom (st) (t0) ((tkK b n lim a)) ((tkVi b n a).toInt) ((tkS b n lim a)) ((tkN b n lim a)) k pl ∧ (k = 0 → g2 = upd g 2 (tkVi b n a) ∧ gn2 = gn ∧ u0 = 1 ∧ u1 = t1)) ∨
    (wd = 8 ∧ fFaint (st) (t1) ((tkK b n lim a)) ((tkVi b n a).toInt) ((tkS b n lim a)) ((tkN b n lim a)) k pl ∧ (k = 0 → g2 = upd g 3 (tkVi b n a) ∧ gn2 = gn ∧ u0 = t0 ∧ u1 = 1)) ∨
    (wd ≠ 0 ∧ wd ≠ 1 ∧ wd ≠ 4 ∧ wd ≠ 5 ∧ wd ≠ 6 ∧ wd ≠ 7 ∧ wd ≠ 8 ∧ k = 1 ∧ pl = st)
theorem tkLN_det {b : Nat → Int32} {n lim : Int} {g : Nat → Int32} {gn : Nat → Int64} {t0 t1 wd st a k pl k' pl' : Int} {g2 g2' : Nat → Int32} {gn2 gn2' : Nat → Int64} {u0 u1 u0' u1' : Int} (h : tkLN b n lim g gn t0 t1 wd st a k pl g2 gn2 u0 u1) (h' : tkLN b n lim g gn t0 t1 wd st a k' pl' g2' gn2' u0' u1') : k = k' ∧ pl = pl' ∧ (k = 0 → g2 = g2' ∧ gn2 = gn2' ∧ u0 = u0' ∧ u1 = u1') := by
  unfold tkLN at h h'
  rcases h with ⟨e, h, q⟩ | ⟨e, h, q⟩ | ⟨e, h, q⟩ | ⟨e, h, q⟩ | ⟨e, h, q⟩ | ⟨e, h, q⟩ | ⟨e, h, q⟩ | ⟨n0, n1, n4, n5, n6, n7, n8, e, q⟩
  · rcases h' with ⟨e', h', q'⟩ | ⟨e', h', q'⟩ | ⟨e', h', q'⟩ | ⟨e', h', q'⟩ | ⟨e', h', q'⟩ | ⟨e', h', q'⟩ | ⟨e', h', q'⟩ | ⟨m0, m1, m4, m5, m6, m7, m8, e', q'⟩
    all_goals first
      | (exfalso; omega)
      | (obtain ⟨z1, z2⟩ := fMan_det h h'; refine ⟨z1, z2, fun z => ?_⟩; obtain ⟨a1, a2, a3, a4⟩ := q z; obtain ⟨b1, b2, b3, b4⟩ := q' (by omega); exact ⟨a1.trans b1.symm, a2.trans b2.symm, a3.trans b3.symm, a4.trans b4.symm⟩)
  · rcases h' with ⟨e', h', q'⟩ | ⟨e', h', q'⟩ | ⟨e', h', q'⟩ | ⟨e', h', q'⟩ | ⟨e', h', q'⟩ | ⟨e', h', q'⟩ | ⟨e', h', q'⟩ | ⟨m0, m1, m4, m5, m6, m7, m8, e', q'⟩
    all_goals first
      | (exfalso; omega)
      | (obtain ⟨z1, z2⟩ := fDeed_det h h'; refine ⟨z1, z2, fun z => ?_⟩; obtain ⟨a1, a2, a3, a4⟩ := q z; obtain ⟨b1, b2, b3, b4⟩ := q' (by omega); exact ⟨a1.trans b1.symm, a2.trans b2.symm, a3.trans b3.symm, a4.trans b4.symm⟩)
  · rcases h' with ⟨e', h', q'⟩ | ⟨e', h', q'⟩ | ⟨e', h', q'⟩ | ⟨e', h', q'⟩ | ⟨e', h', q'⟩ | ⟨e', h', q'⟩ | ⟨e', h', q'⟩ | ⟨m0, m1, m4, m5, m6, m7, m8, e', q'⟩
    all_goals first
      | (exfalso; omega)
      | (obtain ⟨z1, z2⟩ := fDid_det h h'; refine ⟨z1, z2, fun z => ?_⟩; obtain ⟨a1, a2, a3, a4⟩ := q z; obtain ⟨b1, b2, b3, b4⟩ := q' (by omega); exact ⟨a1.trans b1.symm, a2.trans b2.symm, a3.trans b3.symm, a4.trans b4.symm⟩)
  · rcases h' with ⟨e', h', q'⟩ | ⟨e', h', q'⟩ | ⟨e', h', q'⟩ | ⟨e', h', q'⟩ | ⟨e', h', q'⟩ | ⟨e', h', q'⟩ | ⟨e', h', q'⟩ | ⟨m0, m1, m4, m5, m6, m7, m8, e', q'⟩
    all_goals first
      | (exfalso; omega)
      | (obtain ⟨z1, z2⟩ := fKin_det h h'; refine ⟨z1, z2, fun z => ?_⟩; obtain ⟨a1, a2, a3, a4⟩ := q z; obtain ⟨b1, b2, b3, b4⟩ := q' (by omega); exact ⟨a1.trans b1.symm, a2.trans b2.symm, a3.trans b3.symm, a4.trans b4.symm⟩)
  · rcases h' with ⟨e', h', q'⟩ | ⟨e', h', q'⟩ | ⟨e', h', q'⟩ | ⟨e', h', q'⟩ | ⟨e', h', q'⟩ | ⟨e', h', q'⟩ | ⟨e', h', q'⟩ | ⟨m0, m1, m4, m5, m6, m7, m8, e', q'⟩
    all_goals first
      | (exfalso; omega)
      | (obtain ⟨z1, z2⟩ := fOwes_det h h'; refine ⟨z1, z2, fun z => ?_⟩; obtain ⟨a1, a2, a3, a4⟩ := q z; obtain ⟨b1, b2, b3, b4⟩ := q' (by omega); exact ⟨a1.trans b1.symm, a2.trans b2.symm, a3.trans b3.symm, a4.trans b4.symm⟩)
  · rcases h' with ⟨e', h', q'⟩ | ⟨e', h', q'⟩ | ⟨e', h', q'⟩ | ⟨e', h', q'⟩ | ⟨e', h', q'⟩ | ⟨e', h', q'⟩ | ⟨e', h', q'⟩ | ⟨m0, m1, m4, m5, m6, m7, m8, e', q'⟩
    all_goals first
      | (exfalso; omega)
      | (obtain ⟨z1, z2⟩ := fRoom_det h h'; refine ⟨z1, z2, fun z => ?_⟩; obtain ⟨a1, a2, a3, a4⟩ := q z; obtain ⟨b1, b2, b3, b4⟩ := q' (by omega); exact ⟨a1.trans b1.symm, a2.trans b2.symm, a3.trans b3.symm, a4.trans b4.symm⟩)
  · rcases h' with ⟨e', h', q'⟩ | ⟨e', h', q'⟩ | ⟨e', h', q'⟩ | ⟨e', h', q'⟩ | ⟨e', h', q'⟩ | ⟨e', h', q'⟩ | ⟨e', h', q'⟩ | ⟨m0, m1, m4, m5, m6, m7, m8, e', q'⟩
    all_goals first
      | (exfalso; omega)
      | (obtain ⟨z1, z2⟩ := fFaint_det h h'; refine ⟨z1, z2, fun z => ?_⟩; obtain ⟨a1, a2, a3, a4⟩ := q z; obtain ⟨b1, b2, b3, b4⟩ := q' (by omega); exact ⟨a1.trans b1.symm, a2.trans b2.symm, a3.trans b3.symm, a4.trans b4.symm⟩)
  · rcases h' with ⟨e', h', q'⟩ | ⟨e', h', q'⟩ | ⟨e', h', q'⟩ | ⟨e', h', q'⟩ | ⟨e', h', q'⟩ | ⟨e', h', q'⟩ | ⟨e', h', q'⟩ | ⟨m0, m1, m4, m5, m6, m7, m8, e', q'⟩
    all_goals first
      | (exfalso; omega)
      | exact ⟨by omega, by omega, fun z => absurd z (by omega)⟩
def tkCO (b : Nat → Int32) (n lim : Int) : Nat → (Nat → Int32) → (Nat → Int64) → Int → Int → Int → Int → Int → Int → Int → (Nat → Int32) → (Nat → Int64) → Prop
  | 0, _, _, _, _, _, _, _, _, _, _, _ => False
  | q + 1, g, gn, t0, t1, a, lines, k, pl, lf, gf, nf => (tkK b n lim a = 3 ∧ k = 0 ∧ lf = lines ∧ gf = g ∧ nf = gn) ∨ (tkK b n lim a ≠ 3 ∧ ∃ (k1 pl1 : Int) (g1 : Nat → Int32) (gn1 : Nat → Int64) (u0 u1 : Int), tkLN b n lim g gn t0 t1 (tkW b n lim a) (tkS b n lim a) (tkN b n lim a) k1 pl1 g1 gn1 u0 u1 ∧ ((k1 ≠ 0 ∧ k = k1 ∧ pl = pl1) ∨ (k1 = 0 ∧ tkK b n lim pl1 ≠ 59 ∧ k = 1 ∧ pl = tkS b n lim pl1) ∨ (k1 = 0 ∧ tkK b n lim pl1 = 59 ∧ tkCO b n lim q g1 gn1 u0 u1 (tkN b n lim pl1) (lines + 1) k pl lf gf nf)))
theorem tkCO_det {b : Nat → Int32} {n lim : Int} : ∀ (q q' : Nat) (g : Nat → Int32) (gn : Nat → Int64) (t0 t1 a lines k pl lf k' pl' lf' : Int) (gf gf' : Nat → Int32) (nf nf' : Nat → Int64), tkCO b n lim q g gn t0 t1 a lines k pl lf gf nf → tkCO b n lim q' g gn t0 t1 a lines k' pl' lf' gf' nf' → k = k' ∧ (k ≠ 0 → pl = pl') ∧ (k = 0 → lf = lf' ∧ gf = gf' ∧ nf = nf') := by
  intro q
  induction q with
  | zero => intro q' g gn t0 t1 a lines k pl lf k' pl' lf' gf gf' nf nf' h; exact h.elim
  | succ q ih =>
    intro q' g gn t0 t1 a lines k pl lf k' pl' lf' gf gf' nf nf' h h'
    cases q' with
    | zero => exact h'.elim
    | succ q' =>
      rcases h with ⟨c, hk, hl, hg, hn⟩ | ⟨c, k1, pl1, g1, gn1, u0, u1, hL, hr⟩ <;> rcases h' with ⟨c', hk', hl', hg', hn'⟩ | ⟨c', k1', pl1', g1', gn1', u0', u1', hL', hr'⟩
      · exact ⟨by omega, fun z => absurd hk z, fun _ => ⟨by omega, hg.trans hg'.symm, hn.trans hn'.symm⟩⟩
      · exact absurd c c'
      · exact absurd c' c
      · obtain ⟨z1, z2, z3⟩ := tkLN_det hL hL'
        subst z1 z2
        rcases hr with ⟨r1, r2, r3⟩ | ⟨r1, r2, r3, r4⟩ | ⟨r1, r2, r3⟩ <;> rcases hr' with ⟨s1, s2, s3⟩ | ⟨s1, s2, s3, s4⟩ | ⟨s1, s2, s3⟩
        · exact ⟨by omega, fun _ => by omega, fun z => absurd z (by omega)⟩
        · exact absurd s1 r1
        · exact absurd s1 r1
        · exact absurd r1 s1
        · exact ⟨by omega, fun _ => by omega, fun z => absurd z (by omega)⟩
        · exact absurd s2 r2
        · exact absurd r1 s1
        · exact absurd r2 s2
        · obtain ⟨e1, e2, e3, e4⟩ := z3 r1
          subst e1 e2 e3 e4
          exact ih q' _ _ _ _ _ _ _ _ _ _ _ _ _ _ _ _ r3 s3
def tkG0 : Nat → Int32 := fun j => if j = 2 then 60 else if j = 3 then 10 else 0
def tkRES (b : Nat → Int32) (n k pl lf : Int) (gf : Nat → Int32) (nf : Nat → Int64) : Prop := ∃ q : Nat, tkCO b n 900 q tkG0 (fun _ => 0) 0 0 0 0 k pl lf gf nf
/-- what is read from here on is what is read from the beginning on -/
def tkGO (b : Nat → Int32) (n : Int) (g : Nat → Int32) (gn : Nat → Int64) (t0 t1 a lines : Int) : Prop := ∀ (k pl lf : Int) (gf : Nat → Int32) (nf : Nat → Int64), (∃ q : Nat, tkCO b n 900 q g gn t0 t1 a lines k pl lf gf nf) → tkRES b n k pl lf gf nf
theorem tkGO_0 {b : Nat → Int32} {n : Int} : tkGO b n tkG0 (fun _ => 0) 0 0 0 0 := fun _ _ _ _ _ h => h
theorem tkGO_end {b : Nat → Int32} {n : Int} {g : Nat → Int32} {gn : Nat → Int64} {t0 t1 a lines : Int} (h : tkGO b n g gn t0 t1 a lines) (hk : tkK b n 900 a = 3) : tkRES b n 0 0 lines g gn := h _ _ _ _ _ ⟨1, Or.inl ⟨hk, rfl, rfl, rfl, rfl⟩⟩
theorem tkGO_bad {b : Nat → Int32} {n : Int} {g : Nat → Int32} {gn : Nat → Int64} {t0 t1 a lines k pl : Int} {g1 : Nat → Int32} {gn1 : Nat → Int64} {u0 u1 : Int} (h : tkGO b n g gn t0 t1 a lines) (hk : tkK b n 900 a ≠ 3) (hL : tkLN b n 900 g gn t0 t1 (tkW b n 900 a) (tkS b n 900 a) (tkN b n 900 a) k pl g1 gn1 u0 u1) (h0 : k ≠ 0) : tkRES b n k pl 0 g gn := h _ _ _ _ _ ⟨1, Or.inr ⟨hk, _, _, _, _, _, _, hL, Or.inl ⟨h0, rfl, rfl⟩⟩⟩
theorem tkGO_semi {b : Nat → Int32} {n : Int} {g : Nat → Int32} {gn : Nat → Int64} {t0 t1 a lines p : Int} {g1 : Nat → Int32} {gn1 : Nat → Int64} {u0 u1 : Int} (h : tkGO b n g gn t0 t1 a lines) (hk : tkK b n 900 a ≠ 3) (hL : tkLN b n 900 g gn t0 t1 (tkW b n 900 a) (tkS b n 900 a) (tkN b n 900 a) 0 p g1 gn1 u0 u1) (h0 : tkK b n 900 p ≠ 59) : tkRES b n 1 (tkS b n 900 p) 0 g gn := h _ _ _ _ _ ⟨1, Or.inr ⟨hk, _, _, _, _, _, _, hL, Or.inr (Or.inl ⟨rfl, h0, rfl, rfl⟩)⟩⟩
theorem tkGO_step {b : Nat → Int32} {n : Int} {g : Nat → Int32} {gn : Nat → Int64} {t0 t1 a lines p : Int} {g1 : Nat → Int32} {gn1 : Nat → Int64} {u0 u1 : Int} (h : tkGO b n g gn t0 t1 a lines) (hk : tkK b n 900 a ≠ 3) (hL : tkLN b n 900 g gn t0 t1 (tkW b n 900 a) (tkS b n 900 a) (tkN b n 900 a) 0 p g1 gn1 u0 u1) (h0 : tkK b n 900 p = 59) : tkGO b n g1 gn1 u0 u1 (tkN b n 900 p) (lines + 1) := by
  intro k pl lf gf nf hq
  obtain ⟨q, hq⟩ := hq
  exact h _ _ _ _ _ ⟨q + 1, Or.inr ⟨hk, _, _, _, _, _, _, hL, Or.inr (Or.inr ⟨rfl, h0, hq⟩)⟩⟩
theorem tkRES_det {b : Nat → Int32} {n k pl lf k' pl' lf' : Int} {gf gf' : Nat → Int32} {nf nf' : Nat → Int64} (h : tkRES b n k pl lf gf nf) (h' : tkRES b n k' pl' lf' gf' nf') : k = k' ∧ (k ≠ 0 → pl = pl') ∧ (k = 0 → lf = lf' ∧ gf = gf' ∧ nf = nf') := by
  obtain ⟨q, h⟩ := h
  obtain ⟨q', h'⟩ := h'
  exact tkCO_det _ _ _ _ _ _ _ _ _ _ _ _ _ _ _ _ _ _ h h'
/-- the cells of a text's reader are those of the state -/
def tkAX (g : Nat → Int32) (gn : Nat → Int64) (t0 t1 : Int) (cm cd cr cw : Int32) (cf1 cf2 : Nat → Int64) (cf3 cf4 cf5 lf2 lf3 : Nat → Int32) (xr xf : Int32) : Prop :=
  (cm.toInt = (g 0).toInt ∧ cd.toInt = (g 1).toInt ∧ cr = g 2 ∧ cw = g 3) ∧ (0 ≤ cm.toInt ∧ cm.toInt ≤ 7 ∧ 0 ≤ cd.toInt ∧ cd.toInt ≤ 10) ∧ (∀ j : Nat, (j : Int) < cd.toInt → cf3 j = g (11 + j)) ∧ (∀ j : Nat, (j : Int) < cd.toInt → cf4 j = g (21 + j)) ∧ (∀ j : Nat, j < 70 → lf2 j = g (31 + j)) ∧ (∀ j : Nat, j < 7 → cf5 j = g (101 + j)) ∧ (∀ j : Nat, j < 49 → lf3 j = g (108 + j)) ∧ (∀ j : Nat, (j : Int) < cm.toInt → cf1 j = gn j) ∧ (∀ j : Nat, (j : Int) < cd.toInt → cf2 j = gn (7 + j)) ∧ xr.toInt = t0 ∧ xf.toInt = t1
theorem tkAX.sm {g : Nat → Int32} {gn : Nat → Int64} {t0 t1 : Int} {cm cd cr cw : Int32} {cf1 cf2 : Nat → Int64} {cf3 cf4 cf5 lf2 lf3 : Nat → Int32} {xr xf : Int32} (h : tkAX g gn t0 t1 cm cd cr cw cf1 cf2 cf3 cf4 cf5 lf2 lf3 xr xf) (c : Int64) : tksr cf1 0 c cm.toInt 0 = tksr gn 0 c (g 0).toInt 0 := by
  obtain ⟨⟨h1, _⟩, hb, _, _, _, _, _, h2, _⟩ := h
  rw [← h1]
  refine tksr_like (fun j a1 a2 => ?_)
  rw [h2 (0 + j).toNat (by omega)]
theorem tkAX.sd {g : Nat → Int32} {gn : Nat → Int64} {t0 t1 : Int} {cm cd cr cw : Int32} {cf1 cf2 : Nat → Int64} {cf3 cf4 cf5 lf2 lf3 : Nat → Int32} {xr xf : Int32} (h : tkAX g gn t0 t1 cm cd cr cw cf1 cf2 cf3 cf4 cf5 lf2 lf3 xr xf) (c : Int64) : tksr cf2 0 c cd.toInt 0 = tksr gn 7 c (g 1).toInt 0 := by
  obtain ⟨⟨_, h1, _⟩, hb, _, _, _, _, _, _, h2, _⟩ := h
  rw [← h1]
  refine tksr_like (fun j a1 a2 => ?_)
  rw [h2 (0 + j).toNat (by omega), show 7 + (0 + j).toNat = (7 + j).toNat by omega]
theorem tkAX.rm {g : Nat → Int32} {gn : Nat → Int64} {t0 t1 : Int} {cm cd cr cw : Int32} {cf1 cf2 : Nat → Int64} {cf3 cf4 cf5 lf2 lf3 : Nat → Int32} {xr xf : Int32} (h : tkAX g gn t0 t1 cm cd cr cw cf1 cf2 cf3 cf4 cf5 lf2 lf3 xr xf) (c : Int64) : tksr gn 0 c (g 0).toInt 0 = -1 ∨ (0 ≤ tksr gn 0 c (g 0).toInt 0 ∧ tksr gn 0 c (g 0).toInt 0 ≤ 6) := by
  obtain ⟨⟨h1, _⟩, hb, _⟩ := h
  have := tksr_rg (f := gn) (o := 0) (c := c) (n := (g 0).toInt)
  omega
theorem tkAX.rd {g : Nat → Int32} {gn : Nat → Int64} {t0 t1 : Int} {cm cd cr cw : Int32} {cf1 cf2 : Nat → Int64} {cf3 cf4 cf5 lf2 lf3 : Nat → Int32} {xr xf : Int32} (h : tkAX g gn t0 t1 cm cd cr cw cf1 cf2 cf3 cf4 cf5 lf2 lf3 xr xf) (c : Int64) : tksr gn 7 c (g 1).toInt 0 = -1 ∨ (0 ≤ tksr gn 7 c (g 1).toInt 0 ∧ tksr gn 7 c (g 1).toInt 0 ≤ 9) := by
  obtain ⟨⟨_, h1, _⟩, hb, _⟩ := h
  have := tksr_rg (f := gn) (o := 7) (c := c) (n := (g 1).toInt)
  omega
