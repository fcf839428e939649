/-! sums of deeds: a pass for each deed; passes commute -/
def su_S (f : Nat → Int64) : Nat → Int64
  | 0 => 0
  | k + 1 => su_S f k + f k
theorem su_S_e {f : Nat → Int64} {k : Nat} : su_S f (k + 1) = su_S f k + f k := rfl
theorem su_cg {f g : Nat → Int64} : ∀ k : Nat, (∀ j : Nat, j < k → f j = g j) → su_S f k = su_S g k := by
  intro k
  induction k with
  | zero => intro _; rfl
  | succ k ih => intro h; rw [su_S_e, su_S_e, ih (fun j hj => h j (by omega)), h k (by omega)]
theorem su_zero : ∀ k : Nat, su_S (fun _ => 0) k = 0 := by
  intro k
  induction k with
  | zero => rfl
  | succ k ih => rw [su_S_e, ih]; rfl
theorem su_ac {a b c d : Int64} : a + b + (c + d) = a + c + (b + d) := by
  rw [Int64.add_assoc, ← Int64.add_assoc b, Int64.add_comm b c, Int64.add_assoc c, ← Int64.add_assoc]
theorem su_add {f g : Nat → Int64} : ∀ k : Nat, su_S (fun j => f j + g j) k = su_S f k + su_S g k := by
  intro k
  induction k with
  | zero => rfl
  | succ k ih => rw [su_S_e, su_S_e, su_S_e, ih]; exact su_ac
theorem su_swap {F : Nat → Nat → Int64} {l : Nat} : ∀ k : Nat, su_S (fun n => su_S (fun m => F n m) l) k = su_S (fun m => su_S (fun n => F n m) k) l := by
  intro k
  induction k with
  | zero => exact (su_zero l).symm
  | succ k ih => rw [su_S_e, ih, ← su_add]; rfl
/-- one deed, t - 1 times at most, each weighs w -/
def su_W (t w : Nat) (v : Nat → Int64) (s : Nat) : Int64 := su_S (fun n => if n * w ≤ s then v (s - n * w) else 0) t
theorem su_in {l w X s : Nat} {v : Nat → Int64} : (if X ≤ s then su_S (fun m => if m * w ≤ s - X then v (s - X - m * w) else 0) l else 0) = su_S (fun m => if X + m * w ≤ s then v (s - (X + m * w)) else 0) l := by
  by_cases c : X ≤ s
  · rw [if_pos c]
    refine su_cg l (fun m _ => ?_)
    by_cases d : m * w ≤ s - X
    · rw [if_pos d, if_pos (by omega)]; exact congrArg v (by omega)
    · rw [if_neg d, if_neg (by omega)]
  · have e : su_S (fun m => if X + m * w ≤ s then v (s - (X + m * w)) else 0) l = su_S (fun _ => 0) l := su_cg l (fun m _ => if_neg (by omega))
    rw [if_neg c, e, su_zero]
theorem su_comm {t w u x : Nat} {v : Nat → Int64} : su_W t w (su_W u x v) = su_W u x (su_W t w v) := by
  funext s
  have h1 : ∀ (t w u x : Nat), su_W t w (su_W u x v) s = su_S (fun n => su_S (fun m => if n * w + m * x ≤ s then v (s - (n * w + m * x)) else 0) u) t := by
    intro t w u x
    exact su_cg t (fun n _ => su_in)
  rw [h1, h1, su_swap]
  refine su_cg u (fun m _ => su_cg t (fun n _ => ?_))
  rw [Nat.add_comm]
def su_0 : Nat → Int64 := fun s => if s = 0 then 1 else 0
/-- as the class goes: deed by deed -/
def su_C (t w : Nat → Nat) : Nat → Nat → Int64
  | 0 => su_0
  | d + 1 => su_W (t d) (w d) (su_C t w d)
/-- as the reference goes: from the last one down -/
def su_Q (t w : Nat → Nat) : Nat → (Nat → Int64) → Nat → Int64
  | 0, v => v
  | d + 1, v => su_Q t w d (su_W (t d) (w d) v)
theorem su_Q_e {t w : Nat → Nat} {d : Nat} {v : Nat → Int64} : su_Q t w (d + 1) v = su_Q t w d (su_W (t d) (w d) v) := rfl
theorem su_Q_W {t w : Nat → Nat} {a x : Nat} : ∀ (d : Nat) (v : Nat → Int64), su_W a x (su_Q t w d v) = su_Q t w d (su_W a x v) := by
  intro d
  induction d with
  | zero => intro v; rfl
  | succ d ih => intro v; rw [su_Q_e, ih, su_Q_e, su_comm]
theorem su_CQ {t w : Nat → Nat} : ∀ d : Nat, su_C t w d = su_Q t w d su_0 := by
  intro d
  induction d with
  | zero => rfl
  | succ d ih => rw [su_Q_e, ← su_Q_W, ← ih]; rfl
theorem su_stop {f : Nat → Int64} {k : Nat} : ∀ m : Nat, k ≤ m → (∀ j : Nat, k ≤ j → j < m → f j = 0) → su_S f m = su_S f k := by
  intro m
  induction m with
  | zero => intro h _; rw [show k = 0 by omega]
  | succ m ih =>
    intro h hf
    by_cases c : k = m + 1
    · rw [c]
    · rw [su_S_e, ih (by omega) (fun j a b => hf j a (by omega)), hf m (by omega) (by omega), Int64.add_zero]
theorem su_W_cg {t w s : Nat} {v u : Nat → Int64} (h : ∀ j : Nat, j ≤ s → v j = u j) : su_W t w v s = su_W t w u s := by
  refine su_cg t (fun n _ => ?_)
  by_cases c : n * w ≤ s
  · rw [if_pos c, if_pos c, h _ (Nat.sub_le _ _)]
  · rw [if_neg c, if_neg c]
theorem su_W_lt {t w s : Nat} {v : Nat → Int64} (ht : 1 ≤ t) (h : s < w) : su_W t w v s = v s := by
  unfold su_W
  rw [su_stop (f := fun n => if n * w ≤ s then v (s - n * w) else 0) (k := 1) t ht (fun j a _ => if_neg (by have := Nat.mul_le_mul_right w a; omega))]
  rw [su_S_e]
  show su_S _ 0 + _ = _
  rw [if_pos (by omega)]
  show (0 : Int64) + _ = _
  rw [Int64.zero_add]; exact congrArg v (by omega)
/-! a pass in place, from the highest sum down -/
def suT (w : Nat) (f : Nat → Int64) (s : Nat) : Nat → Int64 := fun n => if n * w ≤ s then f (s - n * w) else 0
theorem su_W_T {t w s : Nat} {f : Nat → Int64} : su_W t w f s = su_S (suT w f s) t := rfl
def suA (t w : Nat) (f g : Nat → Int64) (s top : Int) : Prop := (∀ j : Nat, (j : Int) ≤ s → g j = f j) ∧ (∀ j : Nat, s < (j : Int) → (j : Int) ≤ top → g j = su_W t w f j)
def suB (t w : Nat) (f g : Nat → Int64) (s n top : Int) : Prop := (∀ j : Nat, (j : Int) < s → g j = f j) ∧ (∀ j : Nat, s < (j : Int) → (j : Int) ≤ top → g j = su_W t w f j) ∧ g s.toNat = su_S (suT w f s.toNat) n.toNat
theorem suA_0 {t w : Nat} {f : Nat → Int64} {s top : Int} (h : top ≤ s) : suA t w f f s top := ⟨fun _ _ => rfl, fun j a b => absurd b (by omega)⟩
theorem suB_0 {t w : Nat} {f g : Nat → Int64} {s n top : Int} (h : suA t w f g s top) (h0 : 0 ≤ s) (hn : n = 1) : suB t w f g s n top := by
  refine ⟨fun j hj => h.1 j (by omega), h.2, ?_⟩
  rw [h.1 s.toNat (by omega), hn]
  show _ = su_S _ 0 + suT w f s.toNat 0
  unfold suT
  rw [if_pos (by omega)]
  show _ = (0 : Int64) + _
  rw [Int64.zero_add]; exact congrArg f (by omega)
theorem su_cast {x w z : Int32} (hz : z.toInt = x.toInt * w.toInt) (hx : 0 ≤ x.toInt) (hw : 0 ≤ w.toInt) : ((x.toInt.toNat * w.toInt.toNat : Nat) : Int) = z.toInt := by
  rw [Int.natCast_mul, Int.toNat_of_nonneg hx, Int.toNat_of_nonneg hw, hz]
theorem suB_s {t : Nat} {f g g2 : Nat → Int64} {s x w z i x2 : Int32} {y1 y2 y3 : Int64} {top : Int} (h : suB t w.toInt.toNat f g s.toInt x.toInt top) (hs : 0 ≤ s.toInt) (hx : 1 ≤ x.toInt) (hw : 1 ≤ w.toInt) (hz : z.toInt = x.toInt * w.toInt) (hzs : z.toInt ≤ s.toInt) (hi : i.toInt = s.toInt - z.toInt) (e1 : y1 = g s.toNatClampNeg) (e2 : y2 = g i.toNatClampNeg) (e3 : y3 = y1 + y2) (e : g2 = vp_updL g s.toNatClampNeg y3) (hx2 : x2.toInt = x.toInt + 1) : suB t w.toInt.toNat f g2 s.toInt x2.toInt top := by
  have hp : 0 < z.toInt := by rw [hz]; exact Int.mul_pos (by omega) (by omega)
  have c1 := cl_nn (x := s) hs
  have c2 := cl_nn (x := i) (by omega)
  have c3 := su_cast hz (by omega) (by omega)
  obtain ⟨h1, h2, h3⟩ := h
  refine ⟨fun j hj => ?_, fun j a b => ?_, ?_⟩
  · rw [e, pk_uLn (by omega)]; exact h1 j hj
  · rw [e, pk_uLn (by omega)]; exact h2 j a b
  · rw [e, show s.toInt.toNat = s.toNatClampNeg from rfl, pk_uLs, e3, e1, e2, h1 i.toNatClampNeg (by omega)]
    rw [show x2.toInt.toNat = x.toInt.toNat + 1 by omega, su_S_e]
    rw [show s.toInt.toNat = s.toNatClampNeg from rfl] at h3
    rw [h3]
    refine congrArg (fun q => su_S (suT w.toInt.toNat f s.toNatClampNeg) x.toInt.toNat + q) ?_
    show f _ = suT _ _ _ _
    unfold suT
    rw [if_pos (by omega)]; exact congrArg f (by omega)
theorem suB_e {t w : Nat} {f g : Nat → Int64} {s s2 n top : Int} (h : suB t w f g s n top) (h0 : 0 ≤ s) (hn : n.toNat = t ∨ (s < ((n.toNat * w : Nat) : Int) ∧ n.toNat ≤ t)) (hs : s2 = s - 1) : suA t w f g s2 top := by
  obtain ⟨h1, h2, h3⟩ := h
  refine ⟨fun j hj => h1 j (by omega), fun j a b => ?_⟩
  by_cases c : (j : Int) = s
  · have hj : j = s.toNat := by omega
    rw [hj, h3, su_W_T]
    rcases hn with hn | ⟨ha, hb⟩
    · rw [hn]
    · refine (su_stop t hb (fun q q1 q2 => ?_)).symm
      have := Nat.mul_le_mul_right w q1
      exact if_neg (by omega)
  · exact h2 j (by omega) b
theorem suA_e {t w : Nat} {f g : Nat → Int64} {s top : Int} (h : suA t w f g s top) (ht : 1 ≤ t) (hs : s < (w : Int)) : ∀ j : Nat, (j : Int) ≤ top → g j = su_W t w f j := by
  intro j hj
  by_cases c : (j : Int) ≤ s
  · rw [h.1 j c, su_W_lt ht (by omega)]
  · exact h.2 j (by omega) hj
def suTm (f : Nat → Int32) (c : Int) : Nat → Nat := fun d => if (f d).toInt = c then 10 else 1
def suWt (f : Nat → Int32) : Nat → Nat := fun d => (f d).toInt.toNat
theorem su_C_cg {t w t' w' : Nat → Nat} : ∀ d : Nat, (∀ j : Nat, j < d → t j = t' j ∧ w j = w' j) → su_C t w d = su_C t' w' d := by
  intro d
  induction d with
  | zero => intro _; rfl
  | succ d ih =>
    intro h
    show su_W (t d) (w d) (su_C t w d) = su_W (t' d) (w' d) (su_C t' w' d)
    rw [ih (fun j hj => h j (by omega)), (h d (by omega)).1, (h d (by omega)).2]
theorem su_0_s {g g2 : Nat → Int64} {x z : Int32} {v : Int64} (h : ∀ j : Nat, (j : Int) < x.toInt → g j = su_0 j) (hx : 0 ≤ x.toInt) (hz : z.toInt = x.toInt + 1) (hv : v = su_0 x.toNatClampNeg) (e : g2 = vp_updL g x.toNatClampNeg v) : ∀ j : Nat, (j : Int) < z.toInt → g2 j = su_0 j := by
  have h1 := cl_nn hx
  intro j hj
  rw [e]
  by_cases c : j = x.toNatClampNeg
  · rw [c, pk_uLs, hv]
  · rw [pk_uLn c]; exact h j (by omega)
theorem su_C_s {m f3 : Nat → Int32} {g g2 : Nat → Int64} {x z mv wv : Int32} {su : Int} (h : ∀ j : Nat, (j : Int) ≤ su → j < 256 → g j = su_C (fun d9 => (m d9).toInt.toNat + 1) (suWt f3) x.toInt.toNat j) (hx : 0 ≤ x.toInt) (hz : z.toInt = x.toInt + 1) (h2 : ∀ s9 : Nat, (s9 : Int) ≤ su → s9 < 256 → g2 s9 = su_W (mv.toInt.toNat + 1) wv.toInt.toNat g s9) (hx2 : 0 ≤ x.toInt) (em : mv = m x.toNatClampNeg) (ew : wv = f3 x.toNatClampNeg) : ∀ j : Nat, (j : Int) ≤ su → j < 256 → g2 j = su_C (fun d9 => (m d9).toInt.toNat + 1) (suWt f3) z.toInt.toNat j := by
  intro j a b
  rw [h2 j a b, show z.toInt.toNat = x.toInt.toNat + 1 by omega]
  show _ = su_W ((m x.toInt.toNat).toInt.toNat + 1) (suWt f3 x.toInt.toNat) (su_C (fun d9 => (m d9).toInt.toNat + 1) (suWt f3) x.toInt.toNat) j
  rw [em, ew]
  exact su_W_cg (fun q hq => h q (by omega) (by omega))
theorem su_m_s {f4 m m2 : Nat → Int32} {c x z zc v : Int32} (h : ∀ j : Nat, (j : Int) < x.toInt → (m j).toInt.toNat + 1 = suTm f4 c.toInt j) (hx : 0 ≤ x.toInt) (hz : z.toInt = x.toInt + 1) (ec : zc = f4 x.toNatClampNeg) (e : m2 = upd m x.toNatClampNeg v) (hv : (zc.toInt = c.toInt ∧ v.toInt = 9) ∨ (zc.toInt ≠ c.toInt ∧ v.toInt = 0)) : ∀ j : Nat, (j : Int) < z.toInt → (m2 j).toInt.toNat + 1 = suTm f4 c.toInt j := by
  have h1 := cl_nn hx
  intro j hj
  rw [e]
  by_cases q : j = x.toNatClampNeg
  · rw [q, pk_us]
    unfold suTm
    rw [← ec]
    rcases hv with ⟨a, b⟩ | ⟨a, b⟩
    · rw [if_pos a, b]; rfl
    · rw [if_neg a, b]; rfl
  · rw [pk_un q]; exact h j (by omega)
/-- so many deeds from the last one down -/
def su_L (t w : Nat → Nat) (D : Nat) : Nat → Nat → Int64
  | 0 => su_0
  | j + 1 => su_W (t (D - 1 - j)) (w (D - 1 - j)) (su_L t w D j)
theorem su_L_Q {t w : Nat → Nat} {D : Nat} : ∀ d : Nat, d ≤ D → su_Q t w d (su_L t w D (D - d)) = su_Q t w D su_0 := by
  intro d hd
  obtain ⟨j, hj⟩ : ∃ j : Nat, D - d = j := ⟨_, rfl⟩
  rw [hj]
  induction j generalizing d with
  | zero => rw [show d = D by omega]; rfl
  | succ j ih =>
    have h1 := ih (d + 1) (by omega) (by omega)
    rw [← h1, su_Q_e]
    show su_Q t w d (su_W (t (D - 1 - j)) (w (D - 1 - j)) (su_L t w D j)) = _
    rw [show D - 1 - j = d by omega]
theorem su_L_C {t w : Nat → Nat} {D : Nat} : su_L t w D D = su_C t w D := by
  have h := su_L_Q (t := t) (w := w) (D := D) 0 (Nat.zero_le D)
  rw [Nat.sub_zero] at h
  rw [su_CQ]; exact h
