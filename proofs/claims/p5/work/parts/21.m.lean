/-! the reference: bounds of its rows by region, the nodes of a sentence, copies of a row into another -/
theorem up_if {f : Nat → Int32} {k j : Nat} {v : Int32} : upd f k v j = if j = k then v else f j := by
  by_cases e : j = k
  · rw [e, pk_us, if_pos rfl]
  · rw [pk_un e, if_neg e]
def HD (f : Nat → Int32) (o : Nat) : Prop := (0 ≤ (f o).toInt ∧ (f o).toInt ≤ 7) ∧ (0 ≤ (f (o + 1)).toInt ∧ (f (o + 1)).toInt ≤ 10) ∧ ∀ j : Nat, 11 ≤ j → j ≤ 20 → 0 ≤ (f (o + j)).toInt ∧ (f (o + j)).toInt ≤ 40
def NR (w a b k : Int) : Prop := (w = 1 → 0 ≤ a ∧ a < k) ∧ (w = 2 → 0 ≤ a ∧ a < k ∧ 0 ≤ b ∧ b < k) ∧ (w = 3 → 0 ≤ a ∧ a < k ∧ 0 ≤ b ∧ b < k) ∧ (w = 73 → 0 ≤ a ∧ a ≤ 9)
def NO (f : Nat → Int32) (o : Nat) : Prop := ∀ k : Nat, k < 60 → NR (f (o + 4 * k)).toInt (f (o + 4 * k + 1)).toInt (f (o + 4 * k + 2)).toInt k
def NWo (f : Nat → Int32) (o : Nat) : Prop := HD f o ∧ (0 ≤ (f (o + 334)).toInt ∧ (f (o + 334)).toInt ≤ 39) ∧ NO f (o + 335)
def RD (f : Nat → Int32) : Prop := HD f 0
def NW (hd f : Nat → Int32) : Prop := (∀ j : Nat, j < 157 → f j = hd j) ∧ NWo f 0
def RN (hd f : Nat → Int32) : Prop := (∀ j : Nat, j < 157 → f j = hd j) ∧ RD f
theorem NW.self {hd f : Nat → Int32} (h : NW hd f) : NW f f := ⟨fun _ _ => rfl, h.2⟩
theorem RD.rn {f : Nat → Int32} (h : RD f) : RN f f := ⟨fun _ _ => rfl, h⟩
def KP (f : Nat → Int32) : Prop := NWo f 0 ∧ NWo f 575
def NK (f : Nat → Int32) : Prop := NO f 0
theorem HD.upd {f : Nat → Int32} {o k : Nat} {v : Int32} (h : HD f o) (hk : k < o ∨ (k = o ∧ 0 ≤ v.toInt ∧ v.toInt ≤ 7) ∨ (k = o + 1 ∧ 0 ≤ v.toInt ∧ v.toInt ≤ 10) ∨ (o + 11 ≤ k ∧ k ≤ o + 20 ∧ 0 ≤ v.toInt ∧ v.toInt ≤ 40) ∨ (o + 2 ≤ k ∧ k ≤ o + 10) ∨ o + 21 ≤ k) : HD (upd f k v) o := by
  obtain ⟨h1, h2, h3⟩ := h
  refine ⟨?_, ?_, fun j a b => ?_⟩
  · rw [up_if]; split
    · omega
    · exact h1
  · rw [up_if]; split
    · omega
    · exact h2
  · rw [up_if]; split
    · omega
    · exact h3 j a b
theorem NO.upd {f : Nat → Int32} {o k : Nat} {v : Int32} (h : NO f o) (hk : k < o ∨ o + 240 ≤ k) : NO (upd f k v) o := by
  intro j hj
  rw [up_if, if_neg (by omega), up_if, if_neg (by omega), up_if, if_neg (by omega)]
  exact h j hj
theorem NWo.upd {f : Nat → Int32} {o k : Nat} {v : Int32} (h : NWo f o) (hk : k < o ∨ (k = o ∧ 0 ≤ v.toInt ∧ v.toInt ≤ 7) ∨ (k = o + 1 ∧ 0 ≤ v.toInt ∧ v.toInt ≤ 10) ∨ (o + 11 ≤ k ∧ k ≤ o + 20 ∧ 0 ≤ v.toInt ∧ v.toInt ≤ 40) ∨ (o + 2 ≤ k ∧ k ≤ o + 10) ∨ (o + 21 ≤ k ∧ k ≤ o + 333) ∨ (k = o + 334 ∧ 0 ≤ v.toInt ∧ v.toInt ≤ 39)) : NWo (upd f k v) o := by
  obtain ⟨h1, h2, h3⟩ := h
  refine ⟨h1.upd (by omega), ?_, h3.upd (by omega)⟩
  rw [up_if]; split
  · omega
  · exact h2
theorem HD.tr {f g : Nat → Int32} {o o' : Nat} (h : HD f o') (e : ∀ j : Nat, j < 21 → g (o + j) = f (o' + j)) : HD g o := by
  obtain ⟨h1, h2, h3⟩ := h
  refine ⟨?_, ?_, fun j a b => ?_⟩
  · have := e 0 (by decide); rw [Nat.add_zero, Nat.add_zero] at this; rw [this]; exact h1
  · rw [e 1 (by decide)]; exact h2
  · rw [e j (by omega)]; exact h3 j a b
theorem NO.tr {f g : Nat → Int32} {o o' : Nat} (h : NO f o') (e : ∀ j : Nat, j < 240 → g (o + j) = f (o' + j)) : NO g o := by
  intro k hk
  have h1 := e (4 * k) (by omega)
  have h2 := e (4 * k + 1) (by omega)
  have h3 := e (4 * k + 2) (by omega)
  rw [← Nat.add_assoc, ← Nat.add_assoc] at h2 h3
  rw [h1, h2, h3]; exact h k hk
theorem NWo.tr {f g : Nat → Int32} {o o' : Nat} (h : NWo f o') (e : ∀ j : Nat, j < 575 → g (o + j) = f (o' + j)) : NWo g o := by
  obtain ⟨h1, h2, h3⟩ := h
  refine ⟨h1.tr (fun j hj => e j (by omega)), by rw [e 334 (by decide)]; exact h2, h3.tr (fun j hj => ?_)⟩
  have := e (335 + j) (by omega)
  rw [← Nat.add_assoc, ← Nat.add_assoc] at this; exact this
theorem NW.rd {hd f : Nat → Int32} (h : NW hd f) : RD f := h.2.1
theorem x_n {x : Int32} {n : Nat} (h : (n : Int) ≤ x.toInt ∧ x.toInt ≤ n) : x.toNatClampNeg = n := by
  have := cl_nn (x := x) (by omega); omega
theorem RDne0 {x : Int32} (h : 2 ≤ x.toInt) : (0 : Nat) ≠ x.toNatClampNeg := by
  have := cl_nn (x := x) (by omega); omega
theorem RDne1 {x : Int32} (h : 2 ≤ x.toInt) : (1 : Nat) ≠ x.toNatClampNeg := by
  have := cl_nn (x := x) (by omega); omega
theorem RD.a0 {f : Nat → Int32} (h : RD f) {x z : Int32} (hx : 0 ≤ x.toInt ∧ x.toInt ≤ 0) (e : z = f x.toNatClampNeg) : 0 ≤ z.toInt ∧ z.toInt ≤ 7 := by
  rw [e, x_n (n := 0) hx]; exact h.1
theorem RD.a1 {f : Nat → Int32} (h : RD f) {x z : Int32} (hx : 1 ≤ x.toInt ∧ x.toInt ≤ 1) (e : z = f x.toNatClampNeg) : 0 ≤ z.toInt ∧ z.toInt ≤ 10 := by
  rw [e, x_n (n := 1) hx]; exact h.2.1
theorem RD.aw {f : Nat → Int32} (h : RD f) {x z : Int32} (hx : 11 ≤ x.toInt ∧ x.toInt ≤ 20) (e : z = f x.toNatClampNeg) : 0 ≤ z.toInt ∧ z.toInt ≤ 40 := by
  have h1 := cl_nn (x := x) (by omega)
  have h2 := h.2.2 x.toNatClampNeg (by omega) (by omega)
  rw [Nat.zero_add] at h2; rw [e]; exact h2
theorem NW.a0 {hd f : Nat → Int32} (h : NW hd f) {x z : Int32} (hx : 0 ≤ x.toInt ∧ x.toInt ≤ 0) (e : z = f x.toNatClampNeg) : 0 ≤ z.toInt ∧ z.toInt ≤ 7 := h.rd.a0 hx e
theorem NW.a1 {hd f : Nat → Int32} (h : NW hd f) {x z : Int32} (hx : 1 ≤ x.toInt ∧ x.toInt ≤ 1) (e : z = f x.toNatClampNeg) : 0 ≤ z.toInt ∧ z.toInt ≤ 10 := h.rd.a1 hx e
theorem NW.aw {hd f : Nat → Int32} (h : NW hd f) {x z : Int32} (hx : 11 ≤ x.toInt ∧ x.toInt ≤ 20) (e : z = f x.toNatClampNeg) : 0 ≤ z.toInt ∧ z.toInt ≤ 40 := h.rd.aw hx e
theorem NW.ap {hd f : Nat → Int32} (h : NW hd f) {x z : Int32} (hx : 334 ≤ x.toInt ∧ x.toInt ≤ 334) (e : z = f x.toNatClampNeg) : 0 ≤ z.toInt ∧ z.toInt ≤ 39 := by
  rw [e, x_n (n := 334) hx]; exact h.2.2.1
theorem RD.upd {f : Nat → Int32} (h : RD f) {x v : Int32} (hx : 0 ≤ x.toInt ∧ ((x.toInt = 0 ∧ 0 ≤ v.toInt ∧ v.toInt ≤ 7) ∨ (x.toInt = 1 ∧ 0 ≤ v.toInt ∧ v.toInt ≤ 10) ∨ (11 ≤ x.toInt ∧ x.toInt ≤ 20 ∧ 0 ≤ v.toInt ∧ v.toInt ≤ 40) ∨ (2 ≤ x.toInt ∧ x.toInt ≤ 10) ∨ 21 ≤ x.toInt)) : RD (upd f x.toNatClampNeg v) := by
  have h1 := cl_nn (x := x) (by omega)
  exact HD.upd h (by omega)
theorem NW.upd {hd f : Nat → Int32} (h : NW hd f) {x v : Int32} (hx : 0 ≤ x.toInt ∧ ((157 ≤ x.toInt ∧ x.toInt ≤ 333) ∨ (x.toInt = 334 ∧ 0 ≤ v.toInt ∧ v.toInt ≤ 39))) : NW hd (upd f x.toNatClampNeg v) := by
  have h1 := cl_nn (x := x) (by omega)
  refine ⟨fun j hj => ?_, NWo.upd h.2 (by omega)⟩
  rw [up_if, if_neg (by omega)]; exact h.1 j hj
theorem RN.upd {hd f : Nat → Int32} (h : RN hd f) {x v : Int32} (hx : 0 ≤ x.toInt ∧ 157 ≤ x.toInt) : RN hd (upd f x.toNatClampNeg v) := by
  have h1 := cl_nn (x := x) (by omega)
  refine ⟨fun j hj => ?_, HD.upd h.2 (by omega)⟩
  rw [up_if, if_neg (by omega)]; exact h.1 j hj
/-- rows of zeros behind the head -/
def ZR (f : Nat → Int32) (i : Int) : Prop := ∀ j : Nat, 157 ≤ j → (j : Int) < i → f j = 0
theorem ZR.nil {f : Nat → Int32} {i : Int} (h : i ≤ 157) : ZR f i := fun j a b => absurd b (by omega)
theorem ZR.step {f : Nat → Int32} {x v y : Int32} (h : ZR f x.toInt) (hx : 157 ≤ x.toInt) (hv : v.toInt = 0) (hy : y.toInt = x.toInt + 1) : ZR (upd f x.toNatClampNeg v) y.toInt := by
  have h1 := cl_nn (x := x) (by omega)
  intro j a b
  rw [up_if]; split
  · exact i_eq.mpr (by rw [hv]; decide)
  · exact h j a (by omega)
theorem ZR.nw {f : Nat → Int32} {i : Int} (h : ZR f i) {hd : Nat → Int32} (hr : RN hd f) (hi : 575 ≤ i) : NW hd f := by
  have k0 : (0 : Int32).toInt = 0 := by decide
  refine ⟨hr.1, hr.2, ?_, fun k hk => ?_⟩
  · rw [Nat.zero_add, h 334 (by decide) (by omega)]; exact ⟨by decide, by decide⟩
  · rw [Nat.zero_add, h (335 + 4 * k) (by omega) (by omega), k0]
    exact ⟨fun z => absurd z (by decide), fun z => absurd z (by decide), fun z => absurd z (by decide), fun z => absurd z (by decide)⟩
/-- g is f but for i cells from a on, which are those of h from b on -/
def CP (g f h : Nat → Int32) (a b i : Int) : Prop := ∀ j : Nat, (a ≤ j ∧ (j : Int) < a + i → g j = h (j - a + b).toNat) ∧ (¬ (a ≤ j ∧ (j : Int) < a + i) → g j = f j)
theorem CP.nil {f h : Nat → Int32} {a b i : Int} (hi : i ≤ 0) : CP f f h a b i := fun j => ⟨fun z => absurd z (by omega), fun _ => rfl⟩
theorem CP.step {g f h : Nat → Int32} {a b i i' : Int} (H : CP g f h a b i) {x y v : Int32} (ha : 0 ≤ a) (hb : 0 ≤ b) (hi : 0 ≤ i) (hx : x.toInt = a + i) (hy : y.toInt = b + i) (e : v = h y.toNatClampNeg) (hi' : i' = i + 1) : CP (upd g x.toNatClampNeg v) f h a b i' := by
  have h1 := cl_nn (x := x) (by omega)
  have h2 := cl_nn (x := y) (by omega)
  intro j
  rw [up_if]
  by_cases c : j = x.toNatClampNeg
  · rw [if_pos c]
    refine ⟨fun _ => ?_, fun z => absurd (by omega) z⟩
    rw [e]; exact congrArg h (by omega)
  · rw [if_neg c]
    exact ⟨fun z => (H j).1 (by omega), fun z => (H j).2 (by omega)⟩
theorem CP.no {g f h : Nat → Int32} {i : Int} (H : CP g f h 335 0 i) (hi : 240 ≤ i) {hd : Nat → Int32} (hf : NW hd f) (hh : NK h) : NW hd g := by
  obtain ⟨h0, h1, h2, _⟩ := hf
  refine ⟨fun j hj => ((H j).2 (by omega)).trans (h0 j hj), h1.tr (fun j hj => (H (0 + j)).2 (by omega)), ?_, NO.tr hh (fun j hj => ?_)⟩
  · rw [Nat.zero_add, (H 334).2 (by omega)]; rw [Nat.zero_add] at h2; exact h2
  · exact ((H (0 + 335 + j)).1 (by omega)).trans (congrArg h (by omega))
theorem CP.img {g f h : Nat → Int32} {k i : Int} (H : CP g f h (575 * k) 0 i) (hi : i = 575) (hk : 0 ≤ k ∧ k ≤ 1) (hf : KP f) {hd : Nat → Int32} (hh : NW hd h) : KP g := by
  have hh := hh.2
  have hc : k = 0 ∨ k = 1 := by omega
  rcases hc with rfl | rfl
  · exact ⟨NWo.tr hh (fun j hj => ((H (0 + j)).1 (by omega)).trans (congrArg h (by omega))), NWo.tr hf.2 (fun j hj => (H (575 + j)).2 (by omega))⟩
  · exact ⟨NWo.tr hf.1 (fun j hj => (H (0 + j)).2 (by omega)), NWo.tr hh (fun j hj => ((H (575 + j)).1 (by omega)).trans (congrArg h (by omega)))⟩
theorem CP.res {g f h : Nat → Int32} {k i : Int} (H : CP g f h 0 (575 * k) i) (hi : i = 575) (hk : 0 ≤ k ∧ k ≤ 1) (hh : KP h) : NW g g := by
  refine ⟨fun _ _ => rfl, ?_⟩
  have hc : k = 0 ∨ k = 1 := by omega
  rcases hc with rfl | rfl
  · exact NWo.tr hh.1 (fun j hj => ((H (0 + j)).1 (by omega)).trans (congrArg h (by omega)))
  · exact NWo.tr hh.2 (fun j hj => ((H (0 + j)).1 (by omega)).trans (congrArg h (by omega)))
theorem NK.put {f : Nat → Int32} (h : NK f) {n x x1 x2 x3 w a b r : Int32} (hn : 0 ≤ n.toInt ∧ n.toInt ≤ 59) (e0 : x.toInt = 4 * n.toInt) (e1 : x1.toInt = 4 * n.toInt + 1) (e2 : x2.toInt = 4 * n.toInt + 2) (e3 : x3.toInt = 4 * n.toInt + 3) (hr : NR w.toInt a.toInt b.toInt n.toInt) : NK (upd (upd (upd (upd f x.toNatClampNeg w) x1.toNatClampNeg a) x2.toNatClampNeg b) x3.toNatClampNeg r) := by
  have h0 := cl_nn (x := x) (by omega)
  have h1 := cl_nn (x := x1) (by omega)
  have h2 := cl_nn (x := x2) (by omega)
  have h3 := cl_nn (x := x3) (by omega)
  have hn1 := cl_nn (x := n) (by omega)
  intro k hk
  by_cases c : k = n.toNatClampNeg
  · have q0 : (0 + 4 * k) = x.toNatClampNeg := by omega
    have q1 : (0 + 4 * k + 1) = x1.toNatClampNeg := by omega
    have q2 : (0 + 4 * k + 2) = x2.toNatClampNeg := by omega
    rw [up_if, if_neg (by omega), up_if, if_neg (by omega), up_if, if_neg (by omega), up_if, if_pos q0]
    rw [up_if, if_neg (by omega), up_if, if_neg (by omega), up_if, if_pos q1]
    rw [up_if, if_neg (by omega), up_if, if_pos q2]
    rw [show (k : Int) = n.toInt by omega]; exact hr
  · rw [up_if, if_neg (by omega), up_if, if_neg (by omega), up_if, if_neg (by omega), up_if, if_neg (by omega)]
    rw [up_if, if_neg (by omega), up_if, if_neg (by omega), up_if, if_neg (by omega), up_if, if_neg (by omega)]
    rw [up_if, if_neg (by omega), up_if, if_neg (by omega), up_if, if_neg (by omega), up_if, if_neg (by omega)]
    exact h k hk
theorem NW.node {hd f : Nat → Int32} (h : NW hd f) {k x y z i1 i2 i0 : Int32} (hk : 0 ≤ k.toInt ∧ k.toInt ≤ 59) (a1 : i1.toInt = 336 + 4 * k.toInt) (e1 : x = f i1.toNatClampNeg) (a2 : i2.toInt = 337 + 4 * k.toInt) (e2 : y = f i2.toNatClampNeg) (a0 : i0.toInt = 335 + 4 * k.toInt) (e0 : z = f i0.toNatClampNeg) : NR z.toInt x.toInt y.toInt k.toInt := by
  have h1 := cl_nn (x := i1) (by omega)
  have h2 := cl_nn (x := i2) (by omega)
  have h3 := cl_nn (x := i0) (by omega)
  have hn1 := cl_nn (x := k) (by omega)
  have := h.2.2.2 k.toNatClampNeg (by omega)
  rw [show (0 + 335 + 4 * k.toNatClampNeg) = i0.toNatClampNeg by omega, show (i0.toNatClampNeg + 1) = i1.toNatClampNeg by omega, show (i0.toNatClampNeg + 2) = i2.toNatClampNeg by omega, ← e0, ← e1, ← e2, hn1] at this
  exact this
/-- the lines of a book: where one is no year, its man is one -/
def LK (f : Nat → Int32) : Prop := Rg f 160 (-1) 40 ∧ ∀ k : Nat, k < 40 → (f (4 * k)).toInt ≠ 6 → (f (4 * k + 1)).toInt ≤ 6
theorem LK.put {f : Nat → Int32} (h : LK f) {n x v : Int32} {d : Int} (hn : 0 ≤ n.toInt ∧ n.toInt ≤ 39) (hx : x.toInt = 4 * n.toInt + d) (hd : 0 ≤ d ∧ d ≤ 3) (hv : -1 ≤ v.toInt ∧ v.toInt ≤ 40)
    (h0 : d = 0 → v.toInt = 6 ∨ (f (4 * n.toNatClampNeg + 1)).toInt ≤ 6) (h1 : d = 1 → (f (4 * n.toNatClampNeg)).toInt = 6 ∨ v.toInt ≤ 6) : LK (upd f x.toNatClampNeg v) := by
  have q0 := cl_nn (x := x) (by omega)
  have q1 := cl_nn (x := n) (by omega)
  refine ⟨h.1.upd hv, fun k hk => ?_⟩
  have hc := h.2 k hk
  have hd4 : d = 0 ∨ d = 1 ∨ d = 2 ∨ d = 3 := by omega
  by_cases c : k = n.toNatClampNeg
  · rcases hd4 with rfl | rfl | rfl | rfl
    · rw [up_if, if_pos (by omega), up_if, if_neg (by omega)]
      intro z; rw [c]; have := h0 rfl; omega
    · rw [up_if, if_neg (by omega), up_if, if_pos (by omega), c]
      intro z; have := h1 rfl; omega
    · rw [up_if, if_neg (by omega), up_if, if_neg (by omega)]; exact hc
    · rw [up_if, if_neg (by omega), up_if, if_neg (by omega)]; exact hc
  · rw [up_if, if_neg (by omega), up_if, if_neg (by omega)]; exact hc
theorem LK.val {f : Nat → Int32} (h : LK f) {x z : Int32} (hi : vp_in x 160) (e : z = f x.toNatClampNeg) : -1 ≤ z.toInt ∧ z.toInt ≤ 40 := h.1.at hi e
theorem LK.man {f : Nat → Int32} (h : LK f) {x y z v : Int32} {q : Int} (hk : 0 ≤ q ∧ q ≤ 39) (hx : x.toInt = 4 * q) (hy : y.toInt = 4 * q + 1) (ez : z = f x.toNatClampNeg) (ev : v = f y.toNatClampNeg) (hz : z.toInt ≠ 6) : v.toInt ≤ 6 := by
  have q0 := cl_nn (x := x) (by omega)
  have q2 := cl_nn (x := y) (by omega)
  have := h.2 q.toNat (by omega)
  rw [show 4 * q.toNat = x.toNatClampNeg by omega, show x.toNatClampNeg + 1 = y.toNatClampNeg by omega, ← ez, ← ev] at this
  exact this hz
/-- an int without its lowest bit -/
theorem i_low {x y z : Int32} (ey : y = x - 1) (e : z = x &&& y) (h : 0 < x.toInt ∧ x.toInt ≤ 127) : 0 ≤ z.toInt ∧ z.toInt < x.toInt := by
  have k0 : (0 : Int32).toInt = 0 := by decide
  obtain ⟨j, hj, rfl⟩ := nI_of (x := x) (by rw [i_lt]; omega)
  rw [nI_toInt hj] at h ⊢
  have h2 : j < 128 ∧ 0 < j := by omega
  have h3 : ∀ j : Nat, j < 128 → 0 < j → 0 ≤ (nI j &&& (nI j - 1)).toInt ∧ (nI j &&& (nI j - 1)).toInt < (j : Int) := by decide +kernel
  rw [e, ey]; exact h3 j h2.1 h2.2
theorem l_cmp {x y : Int64} {z : Int32} (e : z = lg_cmp x y) : z.toInt < 0 ↔ x.toInt < y.toInt := by
  have k0 : (0 : Int32).toInt = 0 := by decide
  rw [← Int64.lt_iff_toInt_lt, ← lg_cmp_lt, ← e, i_lt, k0]
theorem l_rng (x : Int64) : x.toInt < 9223372036854775808 := by
  have h := x.toBitVec.isLt
  rw [show x.toInt = x.toBitVec.toInt from rfl, BitVec.toInt_eq_toNat_cond]
  split <;> omega
theorem l_div27 {x z : Int64} (e : z = x / 27) (h : 27 ≤ x.toInt) : 0 ≤ z.toInt ∧ z.toInt * 27 ≤ x.toInt := by
  have k : (27 : Int64).toInt = 27 := by decide
  have h1 := l_rng x
  have h2 : z.toInt = x.toInt / 27 := by
    rw [e, Int64.toInt_div, k, Int.tdiv_eq_ediv_of_nonneg (by omega)]
    simp only [Int.bmod]
    split <;> omega
  omega
theorem i_div10 {x z : Int32} (e : z = x / 10) (h : 9 < x.toInt) : 0 ≤ z.toInt ∧ z.toInt * 10 ≤ x.toInt := by
  have k : (10 : Int32).toInt = 10 := by decide
  have h1 := i_rng x
  have h2 : z.toInt = x.toInt / 10 := by
    rw [e, Int32.toInt_div, k, Int.tdiv_eq_ediv_of_nonneg (by omega)]
    simp only [Int.bmod]
    split <;> omega
  omega
def CPL (g f h : Nat → Int64) (a b i : Int) : Prop := ∀ j : Nat, (a ≤ j ∧ (j : Int) < a + i → g j = h (j - a + b).toNat) ∧ (¬ (a ≤ j ∧ (j : Int) < a + i) → g j = f j)
theorem CPL.nil {f h : Nat → Int64} {a b i : Int} (hi : i ≤ 0) : CPL f f h a b i := fun j => ⟨fun z => absurd z (by omega), fun _ => rfl⟩
theorem CPL.step {g f h : Nat → Int64} {a b i i' : Int} (H : CPL g f h a b i) {x y : Int32} {v : Int64} (ha : 0 ≤ a) (hb : 0 ≤ b) (hi : 0 ≤ i) (hx : x.toInt = a + i) (hy : y.toInt = b + i) (e : v = h y.toNatClampNeg) (hi' : i' = i + 1) : CPL (vp_updL g x.toNatClampNeg v) f h a b i' := by
  have h1 := cl_nn (x := x) (by omega)
  have h2 := cl_nn (x := y) (by omega)
  intro j
  by_cases c : j = x.toNatClampNeg
  · rw [c, pk_uLs]
    refine ⟨fun _ => ?_, fun z => absurd (by omega) z⟩
    rw [e]; exact congrArg h (by omega)
  · rw [pk_uLn c]
    exact ⟨fun z => (H j).1 (by omega), fun z => (H j).2 (by omega)⟩
theorem CP.rd {g f h : Nat → Int32} {i : Int} (H : CP g f h 0 0 i) (hi : 157 ≤ i) (hh : RD h) : RD g := HD.tr hh (fun j hj => ((H (0 + j)).1 (by omega)).trans (congrArg h (by omega)))
theorem CP.eq0 {g f h : Nat → Int32} {i : Int} (H : CP g f h 0 0 i) : ∀ j : Nat, (j : Int) < i → g j = h j := fun j hj => ((H j).1 (by omega)).trans (congrArg h (by omega))
theorem CPL.eq0 {g f h : Nat → Int64} {i : Int} (H : CPL g f h 0 0 i) : ∀ j : Nat, (j : Int) < i → g j = h j := fun j hj => ((H j).1 (by omega)).trans (congrArg h (by omega))
def tkMI (n : Int) (mn : Nat → Int32) (mm : Nat → Int64) (mk : Nat → Int32) (mkn : Nat → Int64) (mk2 : Nat → Int32) (mkn2 : Nat → Int64) : Prop := ((n < 0 ∨ 1 < n) ∧ mk2 = mk ∧ mkn2 = mkn) ∨ (0 ≤ n ∧ n ≤ 1 ∧ CP mk2 mk mn (575 * n) 0 575 ∧ CPL mkn2 mkn mm (17 * n) 0 17)
def tkMR (n f : Int) (mn : Nat → Int32) (mm : Nat → Int64) (mk : Nat → Int32) (mkn : Nat → Int64) (mn2 : Nat → Int32) (mm2 : Nat → Int64) : Prop := (((n < 0 ∨ 1 < n) ∨ f = 0) ∧ mn2 = mn ∧ mm2 = mm) ∨ (0 ≤ n ∧ n ≤ 1 ∧ ¬ (f = 0) ∧ CP mn2 mn mk 0 (575 * n) 575 ∧ CPL mm2 mm mkn 0 (17 * n) 17)
theorem tkIMt0 {mn mk mk2 : Nat → Int32} {mm mkn mkn2 : Nat → Int64} {fk fk2 : Nat → Int32} {n : Int32} {cm cd cr cw : Int32} {cf1 cf2 : Nat → Int64} {cf3 cf5 : Nat → Int32} {icm icd icr icw : Int32} {icf1 icf2 : Nat → Int64} {icf3 icf5 : Nat → Int32} {jcm jcd jcr jcw : Int32} {jcf1 jcf2 : Nat → Int64} {jcf3 jcf5 : Nat → Int32} (h1 : ¬ n.toInt = 1) (hw : tkHD mn mm cm cd cr cw cf1 cf2 cf3 cf5) (ho : fk 0 = 0 ∨ tkHD mk mkn icm icd icr icw icf1 icf2 icf3 icf5) (hf : ((n.toInt < 0 ∨ 1 < n.toInt) ∧ fk2 = fk) ∨ (0 ≤ n.toInt ∧ n.toInt ≤ 1 ∧ fk2 = upd fk (Int32.toNatClampNeg n) 1)) (hc : tkCW n.toInt jcm jcd jcr jcw jcf1 jcf2 jcf3 jcf5 icm icd icr icw icf1 icf2 icf3 icf5 cm cd cr cw cf1 cf2 cf3 cf5) (hm : tkMI n.toInt mn mm mk mkn mk2 mkn2) : fk2 0 = 0 ∨ tkHD mk2 mkn2 jcm jcd jcr jcw jcf1 jcf2 jcf3 jcf5 := by
  rcases hm with ⟨a, rfl, rfl⟩ | ⟨a1, a2, cp, cpl⟩
  · rcases hc with ⟨_, e⟩ | ⟨b1, b2, _⟩
    · rcases hf with ⟨_, rfl⟩ | ⟨b1, b2, _⟩
      · rcases ho with ho | ho
        · exact Or.inl ho
        · exact Or.inr (ho.e e)
      · exfalso; omega
    · exfalso; omega
  · rcases hc with ⟨b, _⟩ | ⟨_, _, c⟩
    · exfalso; omega
    · refine Or.inr ((hw.c c).g (fun j hj => ?_) (fun j hj => ?_))
      · exact ((cp j).1 (by omega)).trans (congrArg mn (by omega))
      · exact ((cpl j).1 (by omega)).trans (congrArg mm (by omega))
theorem tkIMo0 {mn mk mk2 : Nat → Int32} {mm mkn mkn2 : Nat → Int64} {fk fk2 : Nat → Int32} {n : Int32} {icm icd icr icw : Int32} {icf1 icf2 : Nat → Int64} {icf3 icf5 : Nat → Int32} (h1 : ¬ n.toInt = 1) (ho : fk 1 = 0 ∨ tkHD (fun j => mk (575 + j)) (fun j => mkn (17 + j)) icm icd icr icw icf1 icf2 icf3 icf5) (hf : ((n.toInt < 0 ∨ 1 < n.toInt) ∧ fk2 = fk) ∨ (0 ≤ n.toInt ∧ n.toInt ≤ 1 ∧ fk2 = upd fk (Int32.toNatClampNeg n) 1)) (hm : tkMI n.toInt mn mm mk mkn mk2 mkn2) : fk2 1 = 0 ∨ tkHD (fun j => mk2 (575 + j)) (fun j => mkn2 (17 + j)) icm icd icr icw icf1 icf2 icf3 icf5 := by
  have hq : fk2 1 = fk 1 := by
    rcases hf with ⟨_, rfl⟩ | ⟨b1, b2, rfl⟩
    · rfl
    · have h2 := cl_nn (x := n) b1
      exact pk_un (by omega)
  rw [hq]
  rcases ho with ho | ho
  · exact Or.inl ho
  rcases hm with ⟨a, rfl, rfl⟩ | ⟨a1, a2, cp, cpl⟩
  · exact Or.inr ho
  · exact Or.inr (ho.g (fun j hj => (cp (575 + j)).2 (by omega)) (fun j hj => (cpl (17 + j)).2 (by omega)))
theorem tkREt0 {mn mk mn2 : Nat → Int32} {mm mkn mm2 : Nat → Int64} {fk : Nat → Int32} {n : Int32} {fm : Nat → Int32} {cm cd cr cw : Int32} {cf1 cf2 : Nat → Int64} {cf3 cf5 : Nat → Int32} {icm icd icr icw : Int32} {icf1 icf2 : Nat → Int64} {icf3 icf5 : Nat → Int32} {jcm jcd jcr jcw : Int32} {jcf1 jcf2 : Nat → Int64} {jcf3 jcf5 : Nat → Int32} (h1 : ¬ n.toInt = 1) (hw : tkHD mn mm cm cd cr cw cf1 cf2 cf3 cf5) (ho : fk 0 = 0 ∨ tkHD mk mkn icm icd icr icw icf1 icf2 icf3 icf5) (hff : ∀ j : Nat, fk j = fm j) (hc : tkCR n.toInt (fk (Int32.toNatClampNeg n)).toInt jcm jcd jcr jcw jcf1 jcf2 jcf3 jcf5 cm cd cr cw cf1 cf2 cf3 cf5 icm icd icr icw icf1 icf2 icf3 icf5) (hm : tkMR n.toInt (fm (Int32.toNatClampNeg n)).toInt mn mm mk mkn mn2 mm2) : tkHD mn2 mm2 jcm jcd jcr jcw jcf1 jcf2 jcf3 jcf5 := by
  rw [← hff] at hm
  rcases hm with ⟨a, rfl, rfl⟩ | ⟨a1, a2, a3, cp, cpl⟩
  · rcases hc with ⟨_, e⟩ | ⟨b1, b2, b3, _⟩
    · exact hw.e e
    · exfalso; omega
  · rcases hc with ⟨b, _⟩ | ⟨_, _, _, c⟩
    · exfalso; omega
    · rw [x_n (x := n) (n := 0) ⟨by omega, by omega⟩] at a3
      rcases ho with ho | ho
      · exact absurd (by rw [ho]; decide) a3
      · refine (ho.c c).g (fun j hj => ?_) (fun j hj => ?_)
        · exact ((cp j).1 (by omega)).trans (congrArg mk (by omega))
        · exact ((cpl j).1 (by omega)).trans (congrArg mkn (by omega))
theorem tkIMt1 {mn mk mk2 : Nat → Int32} {mm mkn mkn2 : Nat → Int64} {fk fk2 : Nat → Int32} {n : Int32} {cm cd cr cw : Int32} {cf1 cf2 : Nat → Int64} {cf3 cf5 : Nat → Int32} {icm icd icr icw : Int32} {icf1 icf2 : Nat → Int64} {icf3 icf5 : Nat → Int32} {jcm jcd jcr jcw : Int32} {jcf1 jcf2 : Nat → Int64} {jcf3 jcf5 : Nat → Int32} (h1 : n.toInt = 1) (hw : tkHD mn mm cm cd cr cw cf1 cf2 cf3 cf5) (ho : fk 1 = 0 ∨ tkHD (fun j => mk (575 + j)) (fun j => mkn (17 + j)) icm icd icr icw icf1 icf2 icf3 icf5) (hf : ((n.toInt < 0 ∨ 1 < n.toInt) ∧ fk2 = fk) ∨ (0 ≤ n.toInt ∧ n.toInt ≤ 1 ∧ fk2 = upd fk (Int32.toNatClampNeg n) 1)) (hc : tkCW n.toInt jcm jcd jcr jcw jcf1 jcf2 jcf3 jcf5 icm icd icr icw icf1 icf2 icf3 icf5 cm cd cr cw cf1 cf2 cf3 cf5) (hm : tkMI n.toInt mn mm mk mkn mk2 mkn2) : fk2 1 = 0 ∨ tkHD (fun j => mk2 (575 + j)) (fun j => mkn2 (17 + j)) jcm jcd jcr jcw jcf1 jcf2 jcf3 jcf5 := by
  rcases hm with ⟨a, rfl, rfl⟩ | ⟨a1, a2, cp, cpl⟩
  · rcases hc with ⟨_, e⟩ | ⟨b1, b2, _⟩
    · rcases hf with ⟨_, rfl⟩ | ⟨b1, b2, _⟩
      · rcases ho with ho | ho
        · exact Or.inl ho
        · exact Or.inr (ho.e e)
      · exfalso; omega
    · exfalso; omega
  · rcases hc with ⟨b, _⟩ | ⟨_, _, c⟩
    · exfalso; omega
    · refine Or.inr ((hw.c c).g (fun j hj => ?_) (fun j hj => ?_))
      · exact ((cp (575 + j)).1 (by omega)).trans (congrArg mn (by omega))
      · exact ((cpl (17 + j)).1 (by omega)).trans (congrArg mm (by omega))
theorem tkIMo1 {mn mk mk2 : Nat → Int32} {mm mkn mkn2 : Nat → Int64} {fk fk2 : Nat → Int32} {n : Int32} {icm icd icr icw : Int32} {icf1 icf2 : Nat → Int64} {icf3 icf5 : Nat → Int32} (h1 : n.toInt = 1) (ho : fk 0 = 0 ∨ tkHD mk mkn icm icd icr icw icf1 icf2 icf3 icf5) (hf : ((n.toInt < 0 ∨ 1 < n.toInt) ∧ fk2 = fk) ∨ (0 ≤ n.toInt ∧ n.toInt ≤ 1 ∧ fk2 = upd fk (Int32.toNatClampNeg n) 1)) (hm : tkMI n.toInt mn mm mk mkn mk2 mkn2) : fk2 0 = 0 ∨ tkHD mk2 mkn2 icm icd icr icw icf1 icf2 icf3 icf5 := by
  have hq : fk2 0 = fk 0 := by
    rcases hf with ⟨_, rfl⟩ | ⟨b1, b2, rfl⟩
    · rfl
    · have h2 := cl_nn (x := n) b1
      exact pk_un (by omega)
  rw [hq]
  rcases ho with ho | ho
  · exact Or.inl ho
  rcases hm with ⟨a, rfl, rfl⟩ | ⟨a1, a2, cp, cpl⟩
  · exact Or.inr ho
  · exact Or.inr (ho.g (fun j hj => (cp j).2 (by omega)) (fun j hj => (cpl j).2 (by omega)))
theorem tkREt1 {mn mk mn2 : Nat → Int32} {mm mkn mm2 : Nat → Int64} {fk : Nat → Int32} {n : Int32} {fm : Nat → Int32} {cm cd cr cw : Int32} {cf1 cf2 : Nat → Int64} {cf3 cf5 : Nat → Int32} {icm icd icr icw : Int32} {icf1 icf2 : Nat → Int64} {icf3 icf5 : Nat → Int32} {jcm jcd jcr jcw : Int32} {jcf1 jcf2 : Nat → Int64} {jcf3 jcf5 : Nat → Int32} (h1 : n.toInt = 1) (hw : tkHD mn mm cm cd cr cw cf1 cf2 cf3 cf5) (ho : fk 1 = 0 ∨ tkHD (fun j => mk (575 + j)) (fun j => mkn (17 + j)) icm icd icr icw icf1 icf2 icf3 icf5) (hff : ∀ j : Nat, fk j = fm j) (hc : tkCR n.toInt (fk (Int32.toNatClampNeg n)).toInt jcm jcd jcr jcw jcf1 jcf2 jcf3 jcf5 cm cd cr cw cf1 cf2 cf3 cf5 icm icd icr icw icf1 icf2 icf3 icf5) (hm : tkMR n.toInt (fm (Int32.toNatClampNeg n)).toInt mn mm mk mkn mn2 mm2) : tkHD mn2 mm2 jcm jcd jcr jcw jcf1 jcf2 jcf3 jcf5 := by
  rw [← hff] at hm
  rcases hm with ⟨a, rfl, rfl⟩ | ⟨a1, a2, a3, cp, cpl⟩
  · rcases hc with ⟨_, e⟩ | ⟨b1, b2, b3, _⟩
    · exact hw.e e
    · exfalso; omega
  · rcases hc with ⟨b, _⟩ | ⟨_, _, _, c⟩
    · exfalso; omega
    · rw [x_n (x := n) (n := 1) ⟨by omega, by omega⟩] at a3
      rcases ho with ho | ho
      · exact absurd (by rw [ho]; decide) a3
      · refine (ho.c c).g (fun j hj => ?_) (fun j hj => ?_)
        · exact ((cp j).1 (by omega)).trans (congrArg mk (by omega))
        · exact ((cpl j).1 (by omega)).trans (congrArg mkn (by omega))

