def seO (b : Nat → Int32) (n lim : Int) (mf df : Int → Int) (R : Int → Int → Int → Int → Int → Int → Int → Int → Prop) (d o p k pl q2 o2 : Int) : Prop :=
    (¬ (tkK b n lim p = 40) ∧ ¬ (tkW b n lim p = 8 ∨ 18 ≤ tkW b n lim p) ∧ k = 1 ∧ pl = tkS b n lim p) ∨
    ((tkK b n lim p = 40 ∨ (tkW b n lim p = 8 ∨ 18 ≤ tkW b n lim p)) ∧ (20 ≤ o ∨ 8 < d) ∧ k = 4 ∧ pl = tkS b n lim p) ∨
    (tkK b n lim p = 40 ∧ (o < 20 ∧ d ≤ 8) ∧ ∃ k1 pl1 r1 o1 : Int, R 0 (d + 1) (o + 1) (tkN b n lim p) k1 pl1 r1 o1 ∧ ((k1 ≠ 0 ∧ k = k1 ∧ pl = pl1) ∨ (k1 = 0 ∧ tkK b n lim r1 ≠ 41 ∧ k = 1 ∧ pl = tkS b n lim r1) ∨ (k1 = 0 ∧ tkK b n lim r1 = 41 ∧ k = 0 ∧ q2 = (tkN b n lim r1) ∧ o2 = o1))) ∨
    (tkK b n lim p ≠ 40 ∧ tkW b n lim p = 18 ∧ (o < 20 ∧ d ≤ 8) ∧ R 2 (d + 1) (o + 1) (tkN b n lim p) k pl q2 o2) ∨
    (tkK b n lim p ≠ 40 ∧ tkW b n lim p = 23 ∧ (o < 20 ∧ d ≤ 8) ∧ ((¬ (tkK b n lim (tkN b n lim p) = 1 ∧ tkW b n lim (tkN b n lim p) = -1) ∧ k = 1 ∧ pl = tkS b n lim (tkN b n lim p)) ∨ ((tkK b n lim (tkN b n lim p) = 1 ∧ tkW b n lim (tkN b n lim p) = -1) ∧ df (tkN b n lim p) = -1 ∧ k = 3 ∧ pl = tkS b n lim (tkN b n lim p)) ∨ ((tkK b n lim (tkN b n lim p) = 1 ∧ tkW b n lim (tkN b n lim p) = -1) ∧ df (tkN b n lim p) ≠ -1 ∧ k = 0 ∧ q2 = (tkN b n lim (tkN b n lim p)) ∧ o2 = o + 1))) ∨
    (tkK b n lim p ≠ 40 ∧ tkW b n lim p = 24 ∧ (o < 20 ∧ d ≤ 8) ∧ ((¬ (tkK b n lim (tkN b n lim p) = 1 ∧ tkW b n lim (tkN b n lim p) = -1) ∧ k = 1 ∧ pl = tkS b n lim (tkN b n lim p)) ∨ ((tkK b n lim (tkN b n lim p) = 1 ∧ tkW b n lim (tkN b n lim p) = -1) ∧ mf (tkN b n lim p) = -1 ∧ k = 3 ∧ pl = tkS b n lim (tkN b n lim p)) ∨ ((tkK b n lim (tkN b n lim p) = 1 ∧ tkW b n lim (tkN b n lim p) = -1) ∧ mf (tkN b n lim p) ≠ -1 ∧ k = 0 ∧ q2 = (tkN b n lim (tkN b n lim p)) ∧ o2 = o + 1))) ∨
    (tkK b n lim p ≠ 40 ∧ 25 ≤ tkW b n lim p ∧ (o < 20 ∧ d ≤ 8) ∧ ((¬ (60 ≤ tkK b n lim (tkN b n lim p) ∧ tkK b n lim (tkN b n lim p) ≤ 62) ∧ k = 1 ∧ pl = tkS b n lim (tkN b n lim p)) ∨ (60 ≤ tkK b n lim (tkN b n lim p) ∧ tkK b n lim (tkN b n lim p) ≤ 62 ∧ tkK b n lim (tkN b n lim (tkN b n lim p)) ≠ 2 ∧ k = 1 ∧ pl = tkS b n lim (tkN b n lim (tkN b n lim p))) ∨ (60 ≤ tkK b n lim (tkN b n lim p) ∧ tkK b n lim (tkN b n lim p) ≤ 62 ∧ tkK b n lim (tkN b n lim (tkN b n lim p)) = 2 ∧ k = 0 ∧ q2 = (tkN b n lim (tkN b n lim (tkN b n lim p))) ∧ o2 = o + 1))) ∨
    (tkK b n lim p ≠ 40 ∧ (tkW b n lim p = 8 ∨ (19 ≤ tkW b n lim p ∧ tkW b n lim p ≤ 22)) ∧ (o < 20 ∧ d ≤ 8) ∧ k = 0 ∧ q2 = (tkN b n lim p) ∧ o2 = o + 1)
def seX (R : Int → Int → Int → Int → Int → Int → Int → Int → Prop) (m1 m2 : Int) (d o p k pl q2 o2 : Int) : Prop := ∃ k1 pl1 r1 o1 : Int, R m1 d o p k1 pl1 r1 o1 ∧ ((k1 ≠ 0 ∧ k = k1 ∧ pl = pl1) ∨ (k1 = 0 ∧ R m2 d o1 r1 k pl q2 o2))
def seY (b : Nat → Int32) (n lim : Int) (R : Int → Int → Int → Int → Int → Int → Int → Int → Prop) (wd m1 m2 : Int) (d o p k pl q2 o2 : Int) : Prop := (tkW b n lim p ≠ wd ∧ k = 0 ∧ q2 = p ∧ o2 = o) ∨ (tkW b n lim p = wd ∧ seX R m1 m2 d o (tkN b n lim p) k pl q2 o2)
def seR (b : Nat → Int32) (n lim : Int) (mf df : Int → Int) : Nat → (Int → Int → Int → Int → Int → Int → Int → Int → Prop)
  | 0 => fun _ _ _ _ _ _ _ _ => False
  | q + 1 => fun md d o p k pl q2 o2 => (md = 2 ∧ seO b n lim mf df (seR b n lim mf df q) d o p k pl q2 o2) ∨ (md = 1 ∧ seX (seR b n lim mf df q) 2 4 d o p k pl q2 o2) ∨ (md = 4 ∧ seY b n lim (seR b n lim mf df q) 17 2 4 d o p k pl q2 o2) ∨ (md = 0 ∧ seX (seR b n lim mf df q) 1 3 d o p k pl q2 o2) ∨ (md = 3 ∧ seY b n lim (seR b n lim mf df q) 16 1 3 d o p k pl q2 o2)
theorem seR_e {b : Nat → Int32} {n lim : Int} {mf df : Int → Int} {q : Nat} {md d o p k pl q2 o2 : Int} : seR b n lim mf df (q + 1) md d o p k pl q2 o2 = ((md = 2 ∧ seO b n lim mf df (seR b n lim mf df q) d o p k pl q2 o2) ∨ (md = 1 ∧ seX (seR b n lim mf df q) 2 4 d o p k pl q2 o2) ∨ (md = 4 ∧ seY b n lim (seR b n lim mf df q) 17 2 4 d o p k pl q2 o2) ∨ (md = 0 ∧ seX (seR b n lim mf df q) 1 3 d o p k pl q2 o2) ∨ (md = 3 ∧ seY b n lim (seR b n lim mf df q) 16 1 3 d o p k pl q2 o2)) := rfl
theorem seX_mono {R R' : Int → Int → Int → Int → Int → Int → Int → Int → Prop} (hR : ∀ md d o p k pl q2 o2 : Int, R md d o p k pl q2 o2 → R' md d o p k pl q2 o2) {m1 m2 d o p k pl q2 o2 : Int} (h : seX R m1 m2 d o p k pl q2 o2) : seX R' m1 m2 d o p k pl q2 o2 := by
  obtain ⟨k1, pl1, r1, o1, h1, h2⟩ := h
  refine ⟨k1, pl1, r1, o1, hR _ _ _ _ _ _ _ _ h1, ?_⟩
  rcases h2 with h2 | ⟨h2, h3⟩
  · exact Or.inl h2
  · exact Or.inr ⟨h2, hR _ _ _ _ _ _ _ _ h3⟩
theorem seY_mono {b : Nat → Int32} {n lim : Int} {R R' : Int → Int → Int → Int → Int → Int → Int → Int → Prop} (hR : ∀ md d o p k pl q2 o2 : Int, R md d o p k pl q2 o2 → R' md d o p k pl q2 o2) {wd m1 m2 d o p k pl q2 o2 : Int} (h : seY b n lim R wd m1 m2 d o p k pl q2 o2) : seY b n lim R' wd m1 m2 d o p k pl q2 o2 := by
  rcases h with h | ⟨h, h2⟩
  · exact Or.inl h
  · exact Or.inr ⟨h, seX_mono hR h2⟩
theorem seO_mono {b : Nat → Int32} {n lim : Int} {mf df : Int → Int} {R R' : Int → Int → Int → Int → Int → Int → Int → Int → Prop} (hR : ∀ md d o p k pl q2 o2 : Int, R md d o p k pl q2 o2 → R' md d o p k pl q2 o2) {d o p k pl q2 o2 : Int} (h : seO b n lim mf df R d o p k pl q2 o2) : seO b n lim mf df R' d o p k pl q2 o2 := by
  unfold seO at h ⊢
  rcases h with h | h | ⟨h1, h2, k1, pl1, r1, o1, h3, h4⟩ | ⟨h1, h2, h3, h4⟩ | h | h | h | h
  · exact Or.inl h
  · exact Or.inr (Or.inl h)
  · exact Or.inr (Or.inr (Or.inl ⟨h1, h2, k1, pl1, r1, o1, hR _ _ _ _ _ _ _ _ h3, h4⟩))
  · exact Or.inr (Or.inr (Or.inr (Or.inl ⟨h1, h2, h3, hR _ _ _ _ _ _ _ _ h4⟩)))
  · exact Or.inr (Or.inr (Or.inr (Or.inr (Or.inl h))))
  · exact Or.inr (Or.inr (Or.inr (Or.inr (Or.inr (Or.inl h)))))
  · exact Or.inr (Or.inr (Or.inr (Or.inr (Or.inr (Or.inr (Or.inl h))))))
  · exact Or.inr (Or.inr (Or.inr (Or.inr (Or.inr (Or.inr (Or.inr h))))))
theorem seR_s {b : Nat → Int32} {n lim : Int} {mf df : Int → Int} : ∀ (q : Nat) (md d o p k pl q2 o2 : Int), seR b n lim mf df q md d o p k pl q2 o2 → seR b n lim mf df (q + 1) md d o p k pl q2 o2 := by
  intro q
  induction q with
  | zero => intro md d o p k pl q2 o2 h; exact h.elim
  | succ q ih =>
    intro md d o p k pl q2 o2 h
    rw [seR_e] at h ⊢
    rcases h with ⟨m, h⟩ | ⟨m, h⟩ | ⟨m, h⟩ | ⟨m, h⟩ | ⟨m, h⟩
    · exact Or.inl ⟨m, seO_mono ih h⟩
    · exact Or.inr (Or.inl ⟨m, seX_mono ih h⟩)
    · exact Or.inr (Or.inr (Or.inl ⟨m, seY_mono ih h⟩))
    · exact Or.inr (Or.inr (Or.inr (Or.inl ⟨m, seX_mono ih h⟩)))
    · exact Or.inr (Or.inr (Or.inr (Or.inr ⟨m, seY_mono ih h⟩)))
theorem seR_le {b : Nat → Int32} {n lim : Int} {mf df : Int → Int} {q : Nat} {md d o p k pl q2 o2 : Int} (h : seR b n lim mf df q md d o p k pl q2 o2) : ∀ j : Nat, seR b n lim mf df (q + j) md d o p k pl q2 o2 := by
  intro j
  induction j with
  | zero => exact h
  | succ j ih => exact seR_s _ _ _ _ _ _ _ _ _ ih
theorem seX_det {R R' : Int → Int → Int → Int → Int → Int → Int → Int → Prop} (hD : ∀ md d o p k pl q2 o2 k' pl' q2' o2' : Int, R md d o p k pl q2 o2 → R' md d o p k' pl' q2' o2' → k = k' ∧ (k ≠ 0 → pl = pl') ∧ (k = 0 → q2 = q2' ∧ o2 = o2')) {m1 m2 d o p k pl q2 o2 k' pl' q2' o2' : Int} (h : seX R m1 m2 d o p k pl q2 o2) (h' : seX R' m1 m2 d o p k' pl' q2' o2') : k = k' ∧ (k ≠ 0 → pl = pl') ∧ (k = 0 → q2 = q2' ∧ o2 = o2') := by
  obtain ⟨k1, pl1, r1, o1, h1, h2⟩ := h
  obtain ⟨k1', pl1', r1', o1', h1', h2'⟩ := h'
  obtain ⟨e1, e2, e3⟩ := hD _ _ _ _ _ _ _ _ _ _ _ _ h1 h1'
  rcases h2 with ⟨a, a2, a3⟩ | ⟨a, a2⟩ <;> rcases h2' with ⟨c, c2, c3⟩ | ⟨c, c2⟩
  · exact ⟨by omega, fun _ => by rw [a3, c3]; exact e2 a, fun z => absurd z (by omega)⟩
  · exact absurd (e1.trans c) a
  · exact absurd (e1.symm.trans a) c
  · obtain ⟨z1, z2⟩ := e3 a
    subst z1 z2
    exact hD _ _ _ _ _ _ _ _ _ _ _ _ a2 c2
theorem seY_det {b : Nat → Int32} {n lim : Int} {R R' : Int → Int → Int → Int → Int → Int → Int → Int → Prop} (hD : ∀ md d o p k pl q2 o2 k' pl' q2' o2' : Int, R md d o p k pl q2 o2 → R' md d o p k' pl' q2' o2' → k = k' ∧ (k ≠ 0 → pl = pl') ∧ (k = 0 → q2 = q2' ∧ o2 = o2')) {wd m1 m2 d o p k pl q2 o2 k' pl' q2' o2' : Int} (h : seY b n lim R wd m1 m2 d o p k pl q2 o2) (h' : seY b n lim R' wd m1 m2 d o p k' pl' q2' o2') : k = k' ∧ (k ≠ 0 → pl = pl') ∧ (k = 0 → q2 = q2' ∧ o2 = o2') := by
  rcases h with ⟨a, a1, a2, a3⟩ | ⟨a, a1⟩ <;> rcases h' with ⟨c, c1, c2, c3⟩ | ⟨c, c1⟩
  · exact ⟨by omega, fun z => absurd a1 z, fun _ => ⟨by omega, by omega⟩⟩
  · exact absurd c a
  · exact absurd a c
  · exact seX_det hD a1 c1
theorem seO_det {b : Nat → Int32} {n lim : Int} {mf df : Int → Int} {R R' : Int → Int → Int → Int → Int → Int → Int → Int → Prop} (hD : ∀ md d o p k pl q2 o2 k' pl' q2' o2' : Int, R md d o p k pl q2 o2 → R' md d o p k' pl' q2' o2' → k = k' ∧ (k ≠ 0 → pl = pl') ∧ (k = 0 → q2 = q2' ∧ o2 = o2')) {d o p k pl q2 o2 k' pl' q2' o2' : Int} (h : seO b n lim mf df R d o p k pl q2 o2) (h' : seO b n lim mf df R' d o p k' pl' q2' o2') : k = k' ∧ (k ≠ 0 → pl = pl') ∧ (k = 0 → q2 = q2' ∧ o2 = o2') := by
  unfold seO at h h'
  rcases h with h | h | ⟨h1, h2, k1, pl1, r1, o1, h3, h4⟩ | ⟨h1, h2, h3, h4⟩ | h | h | h | h
  · rcases h' with g | g | ⟨g1, g2, k1', pl1', r1', o1', g3, g4⟩ | ⟨g1, g2, g3, g4⟩ | g | g | g | g <;> first | (exfalso; omega) | exact ⟨by omega, fun _ => by omega, fun z => absurd z (by omega)⟩
  · rcases h' with g | g | ⟨g1, g2, k1', pl1', r1', o1', g3, g4⟩ | ⟨g1, g2, g3, g4⟩ | g | g | g | g <;> first | (exfalso; omega) | exact ⟨by omega, fun _ => by omega, fun z => absurd z (by omega)⟩
  · rcases h' with g | g | ⟨g1, g2, k1', pl1', r1', o1', g3, g4⟩ | ⟨g1, g2, g3, g4⟩ | g | g | g | g <;> first | (exfalso; omega) | skip
    obtain ⟨e1, e2, e3⟩ := hD _ _ _ _ _ _ _ _ _ _ _ _ h3 g3
    rcases h4 with ⟨a, a2, a3⟩ | ⟨a, a2, a3, a4⟩ | ⟨a, a2, a3, a4, a5⟩
    · rcases g4 with ⟨c, c2, c3⟩ | ⟨c, c2⟩ | ⟨c, c2⟩
      · exact ⟨by omega, fun _ => by rw [a3, c3]; exact e2 a, fun z => absurd z (by omega)⟩
      · exfalso; omega
      · exfalso; omega
    · rcases g4 with ⟨c, c2, c3⟩ | ⟨c, c2, c3, c4⟩ | ⟨c, c2, c3, c4, c5⟩
      · exfalso; omega
      · obtain ⟨z1, z2⟩ := e3 a
        subst z1
        exact ⟨by omega, fun _ => by omega, fun z => absurd z (by omega)⟩
      · obtain ⟨z1, z2⟩ := e3 a
        subst z1
        exact absurd c2 a2
    · rcases g4 with ⟨c, c2, c3⟩ | ⟨c, c2, c3, c4⟩ | ⟨c, c2, c3, c4, c5⟩
      · exfalso; omega
      · obtain ⟨z1, z2⟩ := e3 a
        subst z1
        exact absurd a2 c2
      · obtain ⟨z1, z2⟩ := e3 a
        subst z1
        exact ⟨by omega, fun z => absurd a3 z, fun _ => ⟨by omega, by omega⟩⟩
  · rcases h' with g | g | ⟨g1, g2, k1', pl1', r1', o1', g3, g4⟩ | ⟨g1, g2, g3, g4⟩ | g | g | g | g <;> first | (exfalso; omega) | exact hD _ _ _ _ _ _ _ _ _ _ _ _ h4 g4
  · rcases h' with g | g | ⟨g1, g2, k1', pl1', r1', o1', g3, g4⟩ | ⟨g1, g2, g3, g4⟩ | g | g | g | g <;> first | (exfalso; omega) | skip
    obtain ⟨_, _, _, h⟩ := h
    obtain ⟨_, _, _, g⟩ := g
    rcases h with h | h | h <;> rcases g with g | g | g <;> first | (exfalso; omega) | exact ⟨by omega, fun _ => by omega, fun _ => ⟨by omega, by omega⟩⟩
  · rcases h' with g | g | ⟨g1, g2, k1', pl1', r1', o1', g3, g4⟩ | ⟨g1, g2, g3, g4⟩ | g | g | g | g <;> first | (exfalso; omega) | skip
    obtain ⟨_, _, _, h⟩ := h
    obtain ⟨_, _, _, g⟩ := g
    rcases h with h | h | h <;> rcases g with g | g | g <;> first | (exfalso; omega) | exact ⟨by omega, fun _ => by omega, fun _ => ⟨by omega, by omega⟩⟩
  · rcases h' with g | g | ⟨g1, g2, k1', pl1', r1', o1', g3, g4⟩ | ⟨g1, g2, g3, g4⟩ | g | g | g | g <;> first | (exfalso; omega) | skip
    obtain ⟨_, _, _, h⟩ := h
    obtain ⟨_, _, _, g⟩ := g
    rcases h with h | h | h <;> rcases g with g | g | g <;> first | (exfalso; omega) | exact ⟨by omega, fun _ => by omega, fun _ => ⟨by omega, by omega⟩⟩
  · rcases h' with g | g | ⟨g1, g2, k1', pl1', r1', o1', g3, g4⟩ | ⟨g1, g2, g3, g4⟩ | g | g | g | g <;> first | (exfalso; omega) | exact ⟨by omega, fun _ => by omega, fun _ => ⟨by omega, by omega⟩⟩
theorem seR_det {b : Nat → Int32} {n lim : Int} {mf df : Int → Int} : ∀ (q q' : Nat) (md d o p k pl q2 o2 k' pl' q2' o2' : Int), seR b n lim mf df q md d o p k pl q2 o2 → seR b n lim mf df q' md d o p k' pl' q2' o2' → k = k' ∧ (k ≠ 0 → pl = pl') ∧ (k = 0 → q2 = q2' ∧ o2 = o2') := by
  intro q
  induction q with
  | zero => intro q' md d o p k pl q2 o2 k' pl' q2' o2' h; exact h.elim
  | succ q ih =>
    intro q' md d o p k pl q2 o2 k' pl' q2' o2' h h'
    cases q' with
    | zero => exact h'.elim
    | succ q' =>
      rw [seR_e] at h h'
      rcases h with ⟨m, h⟩ | ⟨m, h⟩ | ⟨m, h⟩ | ⟨m, h⟩ | ⟨m, h⟩ <;> rcases h' with ⟨m', h'⟩ | ⟨m', h'⟩ | ⟨m', h'⟩ | ⟨m', h'⟩ | ⟨m', h'⟩ <;> first | (exfalso; omega) | exact seO_det (ih q') h h' | exact seX_det (ih q') h h' | exact seY_det (ih q') h h'
def seNO (b : Nat → Int32) (n lim : Int) (mf df : Int → Int) (md d o p k pl : Int) : Prop := ¬ (k = 0) ∧ ∃ q : Nat, seR b n lim mf df q md d o p k pl 0 0
def seOK (b : Nat → Int32) (n lim : Int) (mf df : Int → Int) (md d o p q2 o2 : Int) : Prop := ∃ q : Nat, seR b n lim mf df q md d o p 0 0 q2 o2
theorem se_mk2 {b : Nat → Int32} {n lim : Int} {mf df : Int → Int} {d o p k pl q2 o2 : Int} {q : Nat} (h : seO b n lim mf df (seR b n lim mf df q) d o p k pl q2 o2) : seR b n lim mf df (q + 1) 2 d o p k pl q2 o2 := by rw [seR_e]; exact Or.inl ⟨rfl, h⟩
theorem se_A {b : Nat → Int32} {n lim : Int} {mf df : Int → Int} {d o p : Int} (h1 : ¬ (tkK b n lim p = 40)) (h2 : ¬ (tkW b n lim p = 8 ∨ 18 ≤ tkW b n lim p)) : seNO b n lim mf df 2 d o p 1 (tkS b n lim p) := ⟨by omega, ⟨_, se_mk2 (q := 0) (Or.inl (⟨h1, h2, rfl, rfl⟩))⟩⟩
theorem se_B {b : Nat → Int32} {n lim : Int} {mf df : Int → Int} {d o p : Int} (h1 : tkK b n lim p = 40 ∨ (tkW b n lim p = 8 ∨ 18 ≤ tkW b n lim p)) (h2 : 20 ≤ o ∨ 8 < d) : seNO b n lim mf df 2 d o p 4 (tkS b n lim p) := ⟨by omega, ⟨_, se_mk2 (q := 0) (Or.inr (Or.inl (⟨h1, h2, rfl, rfl⟩)))⟩⟩
theorem se_Cf {b : Nat → Int32} {n lim : Int} {mf df : Int → Int} {d o p k pl : Int} (h1 : tkK b n lim p = 40) (ho : o < 20) (hd : d ≤ 8) (h : seNO b n lim mf df 0 (d + 1) (o + 1) (tkN b n lim p) k pl) : seNO b n lim mf df 2 d o p k (pl) := by
  obtain ⟨hk, q, h⟩ := h
  exact ⟨hk, _, se_mk2 (q := q) (Or.inr (Or.inr (Or.inl (⟨h1, ⟨ho, hd⟩, _, _, _, _, h, Or.inl ⟨hk, rfl, rfl⟩⟩))))⟩
theorem se_Cs {b : Nat → Int32} {n lim : Int} {mf df : Int → Int} {d o p r1 o1 : Int} (h1 : tkK b n lim p = 40) (ho : o < 20) (hd : d ≤ 8) (h : seOK b n lim mf df 0 (d + 1) (o + 1) (tkN b n lim p) r1 o1) (h2 : tkK b n lim r1 ≠ 41) : seNO b n lim mf df 2 d o p 1 (tkS b n lim r1) := by
  obtain ⟨q, h⟩ := h
  exact ⟨by omega, _, se_mk2 (q := q) (Or.inr (Or.inr (Or.inl (⟨h1, ⟨ho, hd⟩, _, _, _, _, h, Or.inr (Or.inl ⟨rfl, h2, rfl, rfl⟩)⟩))))⟩
theorem se_Cg {b : Nat → Int32} {n lim : Int} {mf df : Int → Int} {d o p r1 o1 : Int} (h1 : tkK b n lim p = 40) (ho : o < 20) (hd : d ≤ 8) (h : seOK b n lim mf df 0 (d + 1) (o + 1) (tkN b n lim p) r1 o1) (h2 : tkK b n lim r1 = 41) : seOK b n lim mf df 2 d o p (tkN b n lim r1) (o1) := by
  obtain ⟨q, h⟩ := h
  exact ⟨_, se_mk2 (q := q) (Or.inr (Or.inr (Or.inl (⟨h1, ⟨ho, hd⟩, _, _, _, _, h, Or.inr (Or.inr ⟨rfl, h2, rfl, rfl, rfl⟩)⟩))))⟩
theorem se_Df {b : Nat → Int32} {n lim : Int} {mf df : Int → Int} {d o p k pl : Int} (h1 : tkK b n lim p ≠ 40) (h2 : tkW b n lim p = 18) (ho : o < 20) (hd : d ≤ 8) (h : seNO b n lim mf df 2 (d + 1) (o + 1) (tkN b n lim p) k pl) : seNO b n lim mf df 2 d o p k (pl) := by
  obtain ⟨hk, q, h⟩ := h
  exact ⟨hk, _, se_mk2 (q := q) (Or.inr (Or.inr (Or.inr (Or.inl (⟨h1, h2, ⟨ho, hd⟩, h⟩)))))⟩
theorem se_Dg {b : Nat → Int32} {n lim : Int} {mf df : Int → Int} {d o p r1 o1 : Int} (h1 : tkK b n lim p ≠ 40) (h2 : tkW b n lim p = 18) (ho : o < 20) (hd : d ≤ 8) (h : seOK b n lim mf df 2 (d + 1) (o + 1) (tkN b n lim p) r1 o1) : seOK b n lim mf df 2 d o p r1 (o1) := by
  obtain ⟨q, h⟩ := h
  exact ⟨_, se_mk2 (q := q) (Or.inr (Or.inr (Or.inr (Or.inl (⟨h1, h2, ⟨ho, hd⟩, h⟩)))))⟩
theorem se_Ea {b : Nat → Int32} {n lim : Int} {mf df : Int → Int} {d o p : Int} (h1 : tkK b n lim p ≠ 40) (h2 : tkW b n lim p = 23) (ho : o < 20) (hd : d ≤ 8) (h : ¬ (tkK b n lim (tkN b n lim p) = 1 ∧ tkW b n lim (tkN b n lim p) = -1)) : seNO b n lim mf df 2 d o p 1 (tkS b n lim (tkN b n lim p)) := ⟨by omega, ⟨_, se_mk2 (q := 0) (Or.inr (Or.inr (Or.inr (Or.inr (Or.inl (⟨h1, h2, ⟨ho, hd⟩, Or.inl ⟨h, rfl, rfl⟩⟩))))))⟩⟩
theorem se_Eb {b : Nat → Int32} {n lim : Int} {mf df : Int → Int} {d o p : Int} (h1 : tkK b n lim p ≠ 40) (h2 : tkW b n lim p = 23) (ho : o < 20) (hd : d ≤ 8) (h : (tkK b n lim (tkN b n lim p) = 1 ∧ tkW b n lim (tkN b n lim p) = -1)) (hf : df (tkN b n lim p) = -1) : seNO b n lim mf df 2 d o p 3 (tkS b n lim (tkN b n lim p)) := ⟨by omega, ⟨_, se_mk2 (q := 0) (Or.inr (Or.inr (Or.inr (Or.inr (Or.inl (⟨h1, h2, ⟨ho, hd⟩, Or.inr (Or.inl ⟨h, hf, rfl, rfl⟩)⟩))))))⟩⟩
theorem se_Eg {b : Nat → Int32} {n lim : Int} {mf df : Int → Int} {d o p : Int} (h1 : tkK b n lim p ≠ 40) (h2 : tkW b n lim p = 23) (ho : o < 20) (hd : d ≤ 8) (h : (tkK b n lim (tkN b n lim p) = 1 ∧ tkW b n lim (tkN b n lim p) = -1)) (hf : df (tkN b n lim p) ≠ -1) : seOK b n lim mf df 2 d o p (tkN b n lim (tkN b n lim p)) (o + 1) := ⟨_, se_mk2 (q := 0) (Or.inr (Or.inr (Or.inr (Or.inr (Or.inl (⟨h1, h2, ⟨ho, hd⟩, Or.inr (Or.inr ⟨h, hf, rfl, rfl, rfl⟩)⟩))))))⟩
theorem se_Fa {b : Nat → Int32} {n lim : Int} {mf df : Int → Int} {d o p : Int} (h1 : tkK b n lim p ≠ 40) (h2 : tkW b n lim p = 24) (ho : o < 20) (hd : d ≤ 8) (h : ¬ (tkK b n lim (tkN b n lim p) = 1 ∧ tkW b n lim (tkN b n lim p) = -1)) : seNO b n lim mf df 2 d o p 1 (tkS b n lim (tkN b n lim p)) := ⟨by omega, ⟨_, se_mk2 (q := 0) (Or.inr (Or.inr (Or.inr (Or.inr (Or.inr (Or.inl (⟨h1, h2, ⟨ho, hd⟩, Or.inl ⟨h, rfl, rfl⟩⟩)))))))⟩⟩
theorem se_Fb {b : Nat → Int32} {n lim : Int} {mf df : Int → Int} {d o p : Int} (h1 : tkK b n lim p ≠ 40) (h2 : tkW b n lim p = 24) (ho : o < 20) (hd : d ≤ 8) (h : (tkK b n lim (tkN b n lim p) = 1 ∧ tkW b n lim (tkN b n lim p) = -1)) (hf : mf (tkN b n lim p) = -1) : seNO b n lim mf df 2 d o p 3 (tkS b n lim (tkN b n lim p)) := ⟨by omega, ⟨_, se_mk2 (q := 0) (Or.inr (Or.inr (Or.inr (Or.inr (Or.inr (Or.inl (⟨h1, h2, ⟨ho, hd⟩, Or.inr (Or.inl ⟨h, hf, rfl, rfl⟩)⟩)))))))⟩⟩
theorem se_Fg {b : Nat → Int32} {n lim : Int} {mf df : Int → Int} {d o p : Int} (h1 : tkK b n lim p ≠ 40) (h2 : tkW b n lim p = 24) (ho : o < 20) (hd : d ≤ 8) (h : (tkK b n lim (tkN b n lim p) = 1 ∧ tkW b n lim (tkN b n lim p) = -1)) (hf : mf (tkN b n lim p) ≠ -1) : seOK b n lim mf df 2 d o p (tkN b n lim (tkN b n lim p)) (o + 1) := ⟨_, se_mk2 (q := 0) (Or.inr (Or.inr (Or.inr (Or.inr (Or.inr (Or.inl (⟨h1, h2, ⟨ho, hd⟩, Or.inr (Or.inr ⟨h, hf, rfl, rfl, rfl⟩)⟩)))))))⟩
theorem se_Ga {b : Nat → Int32} {n lim : Int} {mf df : Int → Int} {d o p : Int} (h1 : tkK b n lim p ≠ 40) (h2 : 25 ≤ tkW b n lim p) (ho : o < 20) (hd : d ≤ 8) (h : ¬ (60 ≤ tkK b n lim (tkN b n lim p) ∧ tkK b n lim (tkN b n lim p) ≤ 62)) : seNO b n lim mf df 2 d o p 1 (tkS b n lim (tkN b n lim p)) := ⟨by omega, ⟨_, se_mk2 (q := 0) (Or.inr (Or.inr (Or.inr (Or.inr (Or.inr (Or.inr (Or.inl (⟨h1, h2, ⟨ho, hd⟩, Or.inl ⟨h, rfl, rfl⟩⟩))))))))⟩⟩
theorem se_Gb {b : Nat → Int32} {n lim : Int} {mf df : Int → Int} {d o p : Int} (h1 : tkK b n lim p ≠ 40) (h2 : 25 ≤ tkW b n lim p) (ho : o < 20) (hd : d ≤ 8) (h : 60 ≤ tkK b n lim (tkN b n lim p) ∧ tkK b n lim (tkN b n lim p) ≤ 62) (h3 : tkK b n lim (tkN b n lim (tkN b n lim p)) ≠ 2) : seNO b n lim mf df 2 d o p 1 (tkS b n lim (tkN b n lim (tkN b n lim p))) := ⟨by omega, ⟨_, se_mk2 (q := 0) (Or.inr (Or.inr (Or.inr (Or.inr (Or.inr (Or.inr (Or.inl (⟨h1, h2, ⟨ho, hd⟩, Or.inr (Or.inl ⟨h.1, h.2, h3, rfl, rfl⟩)⟩))))))))⟩⟩
theorem se_Gg {b : Nat → Int32} {n lim : Int} {mf df : Int → Int} {d o p : Int} (h1 : tkK b n lim p ≠ 40) (h2 : 25 ≤ tkW b n lim p) (ho : o < 20) (hd : d ≤ 8) (h : 60 ≤ tkK b n lim (tkN b n lim p) ∧ tkK b n lim (tkN b n lim p) ≤ 62) (h3 : tkK b n lim (tkN b n lim (tkN b n lim p)) = 2) : seOK b n lim mf df 2 d o p (tkN b n lim (tkN b n lim (tkN b n lim p))) (o + 1) := ⟨_, se_mk2 (q := 0) (Or.inr (Or.inr (Or.inr (Or.inr (Or.inr (Or.inr (Or.inl (⟨h1, h2, ⟨ho, hd⟩, Or.inr (Or.inr ⟨h.1, h.2, h3, rfl, rfl, rfl⟩)⟩))))))))⟩
theorem se_H {b : Nat → Int32} {n lim : Int} {mf df : Int → Int} {d o p : Int} (h1 : tkK b n lim p ≠ 40) (h2 : tkW b n lim p = 8 ∨ (19 ≤ tkW b n lim p ∧ tkW b n lim p ≤ 22)) (ho : o < 20) (hd : d ≤ 8) : seOK b n lim mf df 2 d o p (tkN b n lim p) (o + 1) := ⟨_, se_mk2 (q := 0) (Or.inr (Or.inr (Or.inr (Or.inr (Or.inr (Or.inr (Or.inr (⟨h1, h2, ⟨ho, hd⟩, rfl, rfl, rfl⟩))))))))⟩
def seGO (b : Nat → Int32) (n lim : Int) (mf df : Int → Int) (mx m2 d o p o1 p1 : Int) : Prop := ∀ (k pl q2 o2 : Int) (q : Nat), seR b n lim mf df q m2 d o1 p1 k pl q2 o2 → ∃ q' : Nat, seR b n lim mf df q' mx d o p k pl q2 o2
theorem se_mkX {b : Nat → Int32} {n lim : Int} {mf df : Int → Int} {mx m1 m2 wd : Int} (hm : (mx = 1 ∧ m1 = 2 ∧ m2 = 4 ∧ wd = 17) ∨ (mx = 0 ∧ m1 = 1 ∧ m2 = 3 ∧ wd = 16)) {d o p k pl q2 o2 : Int} {q : Nat} (h : seX (seR b n lim mf df q) m1 m2 d o p k pl q2 o2) : seR b n lim mf df (q + 1) mx d o p k pl q2 o2 := by
  rw [seR_e]
  rcases hm with ⟨rfl, rfl, rfl, rfl⟩ | ⟨rfl, rfl, rfl, rfl⟩
  · exact Or.inr (Or.inl ⟨rfl, h⟩)
  · exact Or.inr (Or.inr (Or.inr (Or.inl ⟨rfl, h⟩)))
theorem se_mkY {b : Nat → Int32} {n lim : Int} {mf df : Int → Int} {mx m1 m2 wd : Int} (hm : (mx = 1 ∧ m1 = 2 ∧ m2 = 4 ∧ wd = 17) ∨ (mx = 0 ∧ m1 = 1 ∧ m2 = 3 ∧ wd = 16)) {d o p k pl q2 o2 : Int} {q : Nat} (h : seY b n lim (seR b n lim mf df q) wd m1 m2 d o p k pl q2 o2) : seR b n lim mf df (q + 1) m2 d o p k pl q2 o2 := by
  rw [seR_e]
  rcases hm with ⟨rfl, rfl, rfl, rfl⟩ | ⟨rfl, rfl, rfl, rfl⟩
  · exact Or.inr (Or.inr (Or.inl ⟨rfl, h⟩))
  · exact Or.inr (Or.inr (Or.inr (Or.inr ⟨rfl, h⟩)))
theorem se_Xf {b : Nat → Int32} {n lim : Int} {mf df : Int → Int} {mx m1 m2 wd : Int} (hm : (mx = 1 ∧ m1 = 2 ∧ m2 = 4 ∧ wd = 17) ∨ (mx = 0 ∧ m1 = 1 ∧ m2 = 3 ∧ wd = 16)) {d o p k pl : Int} (h : seNO b n lim mf df m1 d o p k pl) : seNO b n lim mf df mx d o p k pl := by
  obtain ⟨hk, q, h⟩ := h
  exact ⟨hk, _, se_mkX (q := q) hm ⟨_, _, _, _, h, Or.inl ⟨hk, rfl, rfl⟩⟩⟩
theorem se_X0 {b : Nat → Int32} {n lim : Int} {mf df : Int → Int} {mx m1 m2 wd : Int} (hm : (mx = 1 ∧ m1 = 2 ∧ m2 = 4 ∧ wd = 17) ∨ (mx = 0 ∧ m1 = 1 ∧ m2 = 3 ∧ wd = 16)) {d o p r1 o1 : Int} (h : seOK b n lim mf df m1 d o p r1 o1) : seGO b n lim mf df mx m2 d o p o1 r1 := by
  intro k pl q2 o2 q' h2
  obtain ⟨q, h⟩ := h
  exact ⟨_, se_mkX (q := q + q') hm ⟨_, _, _, _, seR_le h q', Or.inr ⟨rfl, by rw [Nat.add_comm]; exact seR_le h2 q⟩⟩⟩
theorem se_Ys {b : Nat → Int32} {n lim : Int} {mf df : Int → Int} {mx m1 m2 wd : Int} (hm : (mx = 1 ∧ m1 = 2 ∧ m2 = 4 ∧ wd = 17) ∨ (mx = 0 ∧ m1 = 1 ∧ m2 = 3 ∧ wd = 16)) {d o p o1 r1 o2 r2 : Int} (hG : seGO b n lim mf df mx m2 d o p o1 r1) (hw : tkW b n lim r1 = wd) (h : seOK b n lim mf df m1 d o1 (tkN b n lim r1) r2 o2) : seGO b n lim mf df mx m2 d o p o2 r2 := by
  intro k pl q2 o3 q' h2
  obtain ⟨q, h⟩ := h
  exact hG _ _ _ _ _ (se_mkY (q := q + q') hm (Or.inr ⟨hw, _, _, _, _, seR_le h q', Or.inr ⟨rfl, by rw [Nat.add_comm]; exact seR_le h2 q⟩⟩))
theorem se_Yf {b : Nat → Int32} {n lim : Int} {mf df : Int → Int} {mx m1 m2 wd : Int} (hm : (mx = 1 ∧ m1 = 2 ∧ m2 = 4 ∧ wd = 17) ∨ (mx = 0 ∧ m1 = 1 ∧ m2 = 3 ∧ wd = 16)) {d o p o1 r1 k pl : Int} (hG : seGO b n lim mf df mx m2 d o p o1 r1) (hw : tkW b n lim r1 = wd) (h : seNO b n lim mf df m1 d o1 (tkN b n lim r1) k pl) : seNO b n lim mf df mx d o p k pl := by
  obtain ⟨hk, q, h⟩ := h
  exact ⟨hk, hG _ _ _ _ _ (se_mkY (q := q) hm (Or.inr ⟨hw, _, _, _, _, h, Or.inl ⟨hk, rfl, rfl⟩⟩))⟩
theorem se_Ye {b : Nat → Int32} {n lim : Int} {mf df : Int → Int} {mx m1 m2 wd : Int} (hm : (mx = 1 ∧ m1 = 2 ∧ m2 = 4 ∧ wd = 17) ∨ (mx = 0 ∧ m1 = 1 ∧ m2 = 3 ∧ wd = 16)) {d o p o1 r1 : Int} (hG : seGO b n lim mf df mx m2 d o p o1 r1) (hw : tkW b n lim r1 ≠ wd) : seOK b n lim mf df mx d o p r1 o1 :=
  hG _ _ _ _ _ (se_mkY (q := 0) hm (Or.inl ⟨hw, rfl, rfl, rfl⟩))
theorem seR_o {b : Nat → Int32} {n lim : Int} {mf df : Int → Int} : ∀ (q : Nat) (md d o p pl q2 o2 : Int), seR b n lim mf df q md d o p 0 pl q2 o2 → (md = 0 ∨ md = 1 ∨ md = 2 → o + 1 ≤ o2) ∧ (o ≤ o2) ∧ (o ≤ 20 → o2 ≤ 20) := by
  intro q
  induction q with
  | zero => intro md d o p pl q2 o2 h; exact h.elim
  | succ q ih =>
    have hX : ∀ (m1 m2 d o p pl q2 o2 : Int), m1 = 1 ∨ m1 = 2 → seX (seR b n lim mf df q) m1 m2 d o p 0 pl q2 o2 → o + 1 ≤ o2 ∧ (o ≤ 20 → o2 ≤ 20) := by
      intro m1 m2 d o p pl q2 o2 hm h
      obtain ⟨k1, pl1, r1, o1, h1, h2⟩ := h
      rcases h2 with ⟨a, a2, _⟩ | ⟨a, a2⟩
      · exact absurd a2.symm a
      · subst a
        have i1 := ih _ _ _ _ _ _ _ h1
        have i2 := ih _ _ _ _ _ _ _ a2
        have i3 := i1.1 (by omega)
        exact ⟨by omega, fun z => i2.2.2 (i1.2.2 z)⟩
    intro md d o p pl q2 o2 h
    rw [seR_e] at h
    rcases h with ⟨m, h⟩ | ⟨m, h⟩ | ⟨m, h⟩ | ⟨m, h⟩ | ⟨m, h⟩
    · unfold seO at h
      rcases h with h | h | ⟨h1, h2, k1, pl1, r1, o1, h3, h4⟩ | ⟨h1, h2, h3, h4⟩ | h | h | h | h
      · exfalso; omega
      · exfalso; omega
      · rcases h4 with ⟨a, a2, _⟩ | ⟨a, _, a2, _⟩ | ⟨a, a2, a3, a4, a5⟩
        · exact absurd a2.symm a
        · exfalso; omega
        · subst a
          have i1 := ih _ _ _ _ _ _ _ h3
          exact ⟨fun _ => by omega, by omega, fun z => by have := i1.2.2 (by omega); omega⟩
      · have i1 := ih _ _ _ _ _ _ _ h4
        exact ⟨fun _ => by omega, by omega, fun z => i1.2.2 (by omega)⟩
      · exact ⟨fun _ => by omega, by omega, fun z => by omega⟩
      · exact ⟨fun _ => by omega, by omega, fun z => by omega⟩
      · exact ⟨fun _ => by omega, by omega, fun z => by omega⟩
      · exact ⟨fun _ => by omega, by omega, fun z => by omega⟩
    · have := hX _ _ _ _ _ _ _ _ (Or.inr rfl) h
      exact ⟨fun _ => by omega, by omega, this.2⟩
    · rcases h with ⟨a, a1, a2, a3⟩ | ⟨a, a1⟩
      · exact ⟨fun z => by omega, by omega, fun z => by omega⟩
      · have := hX _ _ _ _ _ _ _ _ (Or.inr rfl) a1
        exact ⟨fun _ => by omega, by omega, this.2⟩
    · have := hX _ _ _ _ _ _ _ _ (Or.inl rfl) h
      exact ⟨fun _ => by omega, by omega, this.2⟩
    · rcases h with ⟨a, a1, a2, a3⟩ | ⟨a, a1⟩
      · exact ⟨fun z => by omega, by omega, fun z => by omega⟩
      · have := hX _ _ _ _ _ _ _ _ (Or.inl rfl) a1
        exact ⟨fun _ => by omega, by omega, this.2⟩
theorem seOK.o {b : Nat → Int32} {n lim : Int} {mf df : Int → Int} {md d o p q2 o2 : Int} (h : seOK b n lim mf df md d o p q2 o2) (hm : md = 0 ∨ md = 1 ∨ md = 2) (ho : o ≤ 20) : o + 1 ≤ o2 ∧ o2 ≤ 20 := by
  obtain ⟨q, h⟩ := h
  have := seR_o _ _ _ _ _ _ _ _ h
  exact ⟨this.1 hm, this.2.2 ho⟩
theorem seO_cg {b : Nat → Int32} {n lim : Int} {mf df : Int → Int} {mg dg : Int → Int} (hf : ∀ p : Int, tkK b n lim p = 1 → mf p = mg p ∧ df p = dg p) {R : Int → Int → Int → Int → Int → Int → Int → Int → Prop} {d o p k pl q2 o2 : Int} (h : seO b n lim mf df R d o p k pl q2 o2) : seO b n lim mg dg R d o p k pl q2 o2 := by
  unfold seO at h ⊢
  rcases h with h | h | h | h | ⟨h1, h2, h3, h4⟩ | ⟨h1, h2, h3, h4⟩ | h | h
  · exact Or.inl h
  · exact Or.inr (Or.inl h)
  · exact Or.inr (Or.inr (Or.inl h))
  · exact Or.inr (Or.inr (Or.inr (Or.inl h)))
  · refine Or.inr (Or.inr (Or.inr (Or.inr (Or.inl ⟨h1, h2, h3, ?_⟩))))
    rcases h4 with h4 | ⟨a, a2, a3⟩ | ⟨a, a2, a3⟩
    · exact Or.inl h4
    · exact Or.inr (Or.inl ⟨a, by rw [← (hf _ a.1).2]; exact a2, a3⟩)
    · exact Or.inr (Or.inr ⟨a, by rw [← (hf _ a.1).2]; exact a2, a3⟩)
  · refine Or.inr (Or.inr (Or.inr (Or.inr (Or.inr (Or.inl ⟨h1, h2, h3, ?_⟩)))))
    rcases h4 with h4 | ⟨a, a2, a3⟩ | ⟨a, a2, a3⟩
    · exact Or.inl h4
    · exact Or.inr (Or.inl ⟨a, by rw [← (hf _ a.1).1]; exact a2, a3⟩)
    · exact Or.inr (Or.inr ⟨a, by rw [← (hf _ a.1).1]; exact a2, a3⟩)
  · exact Or.inr (Or.inr (Or.inr (Or.inr (Or.inr (Or.inr (Or.inl h))))))
  · exact Or.inr (Or.inr (Or.inr (Or.inr (Or.inr (Or.inr (Or.inr h))))))
theorem seR_cg {b : Nat → Int32} {n lim : Int} {mf df : Int → Int} {mg dg : Int → Int} (hf : ∀ p : Int, tkK b n lim p = 1 → mf p = mg p ∧ df p = dg p) : ∀ (q : Nat) (md d o p k pl q2 o2 : Int), seR b n lim mf df q md d o p k pl q2 o2 → seR b n lim mg dg q md d o p k pl q2 o2 := by
  intro q
  induction q with
  | zero => intro md d o p k pl q2 o2 h; exact h.elim
  | succ q ih =>
    intro md d o p k pl q2 o2 h
    rw [seR_e] at h ⊢
    rcases h with ⟨m, h⟩ | ⟨m, h⟩ | ⟨m, h⟩ | ⟨m, h⟩ | ⟨m, h⟩
    · exact Or.inl ⟨m, seO_cg hf (seO_mono ih h)⟩
    · exact Or.inr (Or.inl ⟨m, seX_mono ih h⟩)
    · exact Or.inr (Or.inr (Or.inl ⟨m, seY_mono ih h⟩))
    · exact Or.inr (Or.inr (Or.inr (Or.inl ⟨m, seX_mono ih h⟩)))
    · exact Or.inr (Or.inr (Or.inr (Or.inr ⟨m, seY_mono ih h⟩)))
def seANS (b : Nat → Int32) (n lim : Int) (mf df : Int → Int) (r fk : Int) : Prop := (∃ k pl : Int, seNO b n lim mf df 0 1 0 0 k pl ∧ r = -1 - pl ∧ fk = k) ∨ (∃ q2 o2 : Int, seOK b n lim mf df 0 1 0 0 q2 o2 ∧ ((tkK b n lim q2 ≠ 3 ∧ r = -1 - tkS b n lim q2 ∧ fk = 1) ∨ (tkK b n lim q2 = 3 ∧ r = o2 ∧ fk = 0)))
theorem seANS_det {b : Nat → Int32} {n lim : Int} {mf df : Int → Int} {mg dg : Int → Int} (hf : ∀ p : Int, tkK b n lim p = 1 → mf p = mg p ∧ df p = dg p) {r fk r' fk' : Int} (h : seANS b n lim mf df r fk) (h' : seANS b n lim mg dg r' fk') : r = r' ∧ fk = fk' := by
  rcases h with ⟨k, pl, ⟨h0, q, h⟩, e1, e2⟩ | ⟨q2, o2, ⟨q, h⟩, e⟩ <;> rcases h' with ⟨k', pl', ⟨h0', q', h'⟩, e1', e2'⟩ | ⟨q2', o2', ⟨q', h'⟩, e'⟩
  · obtain ⟨z1, z2, z3⟩ := seR_det _ _ _ _ _ _ _ _ _ _ _ _ _ _ (seR_cg hf _ _ _ _ _ _ _ _ _ h) h'
    have z4 := z2 h0
    exact ⟨by omega, by omega⟩
  · obtain ⟨z1, z2, z3⟩ := seR_det _ _ _ _ _ _ _ _ _ _ _ _ _ _ (seR_cg hf _ _ _ _ _ _ _ _ _ h) h'
    exact absurd z1 h0
  · obtain ⟨z1, z2, z3⟩ := seR_det _ _ _ _ _ _ _ _ _ _ _ _ _ _ (seR_cg hf _ _ _ _ _ _ _ _ _ h) h'
    exact absurd z1.symm h0'
  · obtain ⟨z1, z2, z3⟩ := seR_det _ _ _ _ _ _ _ _ _ _ _ _ _ _ (seR_cg hf _ _ _ _ _ _ _ _ _ h) h'
    obtain ⟨z4, z5⟩ := z3 rfl
    subst z4
    exact ⟨by omega, by omega⟩
def seN (b : Nat → Int32) (n : Int) (f : Nat → Int64) (c p : Int) : Int := tksr f 0 (tkC b n p) c 0
theorem seNO.eq {b : Nat → Int32} {n lim : Int} {mf df : Int → Int} {md d o p k pl k2 pl2 : Int} (h : seNO b n lim mf df md d o p k pl) (hk : k2 = k) (hp : pl2 = pl) : seNO b n lim mf df md d o p k2 pl2 := by subst hk hp; exact h
theorem seNO.at {b : Nat → Int32} {n lim : Int} {mf df : Int → Int} {md d o p k pl d1 o1 p1 : Int} (h : seNO b n lim mf df md d1 o1 p1 k pl) (hd : d1 = d) (ho : o1 = o) (hp : p1 = p) : seNO b n lim mf df md d o p k pl := by subst hd ho hp; exact h
theorem seOK.at {b : Nat → Int32} {n lim : Int} {mf df : Int → Int} {md d o p q2 o2 d1 o1 p1 : Int} (h : seOK b n lim mf df md d1 o1 p1 q2 o2) (hd : d1 = d) (ho : o1 = o) (hp : p1 = p) : seOK b n lim mf df md d o p q2 o2 := by subst hd ho hp; exact h
theorem seOK.eq {b : Nat → Int32} {n lim : Int} {mf df : Int → Int} {md d o p q2 o2 o3 : Int} (h : seOK b n lim mf df md d o p q2 o2) (ho : o3 = o2) : seOK b n lim mf df md d o p q2 o3 := by subst ho; exact h
def seE (b : Nat → Int32) (n lim : Int) (mf df : Int → Int) (fk fp : Int) : Prop := seNO b n lim mf df 0 1 0 0 fk fp ∨ ∃ q2 o2 : Int, seOK b n lim mf df 0 1 0 0 q2 o2 ∧ tkK b n lim q2 ≠ 3 ∧ fk = 1 ∧ fp = tkS b n lim q2
def seF (b : Nat → Int32) (n lim : Int) (mf df : Int → Int) (o : Int) : Prop := ∃ q2 : Int, seOK b n lim mf df 0 1 0 0 q2 o ∧ tkK b n lim q2 = 3
theorem seANS_f {b : Nat → Int32} {n lim : Int} {mf df : Int → Int} {r fk k fp : Int} (h : seE b n lim mf df k fp) (hr : r = -1 - fp) (hk : fk = k) : seANS b n lim mf df r fk := by
  subst hr hk
  rcases h with h | ⟨q2, o2, h, h3, h4, h5⟩
  · exact Or.inl ⟨_, _, h, rfl, rfl⟩
  · exact Or.inr ⟨q2, o2, h, Or.inl ⟨h3, by omega, h4⟩⟩
theorem seANS_s {b : Nat → Int32} {n lim : Int} {mf df : Int → Int} {r fk o : Int} (h : seF b n lim mf df o) (hr : r = o) (hk : fk = 0) : seANS b n lim mf df r fk := by
  obtain ⟨q2, h, h3⟩ := h
  exact Or.inr ⟨q2, o, h, Or.inr ⟨h3, hr, hk⟩⟩
def seTK (b : Nat → Int32) (n lim : Int) (mf df : Int → Int) (md d o p : Int) (ta tk tst tw : Int32) (tc : Int64) (tn : Int32) (o2 : Int) : Prop := ∃ q2 : Int, seOK b n lim mf df md d o p q2 o2 ∧ tkXT b n lim q2 ta tk tst tw tc tn
def seLV (b : Nat → Int32) (n lim : Int) (mf df : Int → Int) (mx m2 d o p good j : Int) (ta tk tst tw : Int32) (tc : Int64) (tn : Int32) (o2 fk fp fk0 fp0 : Int) : Prop := (good = 1 ∧ (∃ p9 : Int, tkXT b n lim p9 ta tk tst tw tc tn ∧ seGO b n lim mf df mx m2 d o p o2 p9) ∧ o + 1 + j ≤ o2 ∧ o2 ≤ 20 ∧ fk = fk0 ∧ fp = fp0) ∨ (good = 0 ∧ seNO b n lim mf df mx d o p fk fp)
