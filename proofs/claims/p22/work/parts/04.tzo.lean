/-! families: the passes over the men add men or stay as they are -/
theorem fa_mono {v y : Int32} {k : Int} (h : ¬ (tkHas v k = 0)) : ¬ (tkHas (v ||| y) k = 0) := by
  intro h2
  apply h
  unfold tkHas at h2 ⊢
  rw [Int32.shiftRight_or] at h2
  have e : ∀ a b : Int32, (a ||| b) &&& 1 = (a &&& 1) ||| (b &&& 1) := fun a b => Int32.toBitVec_inj.1 BitVec.and_or_distrib_right
  rw [e] at h2
  have z : ∀ x : Int32, x.toInt = 0 → x = 0 := fun x hx => i_eq.mpr (hx.trans (by decide))
  rw [(Int32.or_eq_zero_iff.mp (z _ h2)).1]; decide
def fa_P (f : Nat → Int32) (s : Int32) : Nat → Int32
  | 0 => s
  | i + 1 => if tkHas (fa_P f s i) (i : Int) = 0 then fa_P f s i else fa_P f s i ||| f i
def fa_R (f : Nat → Int32) (n : Nat) (s : Int32) : Nat → Int32
  | 0 => s
  | r + 1 => fa_P f (fa_R f n s r) n
theorem fa_P_e {f : Nat → Int32} {s : Int32} {i : Nat} : fa_P f s (i + 1) = if tkHas (fa_P f s i) (i : Int) = 0 then fa_P f s i else fa_P f s i ||| f i := rfl
theorem fa_R_e {f : Nat → Int32} {n : Nat} {s : Int32} {r : Nat} : fa_R f n s (r + 1) = fa_P f (fa_R f n s r) n := rfl
theorem fa_P_mono {f : Nat → Int32} {s : Int32} {k : Int} (h : ¬ (tkHas s k = 0)) : ∀ i : Nat, ¬ (tkHas (fa_P f s i) k = 0) := by
  intro i
  induction i with
  | zero => exact h
  | succ i ih =>
    rw [fa_P_e]
    by_cases c : tkHas (fa_P f s i) (i : Int) = 0
    · rw [if_pos c]; exact ih
    · rw [if_neg c]; exact fa_mono ih
theorem fa_ab {x y z : Int32} (h : x ||| y = x) : (x ||| z) ||| y = x ||| z := by
  rw [Int32.or_assoc, Int32.or_comm z y, ← Int32.or_assoc, h]
theorem fa_P_ab {f : Nat → Int32} {s : Int32} {k : Nat} (h : ¬ (tkHas s (k : Int) = 0)) : ∀ i : Nat, k < i → fa_P f s i ||| f k = fa_P f s i := by
  intro i
  induction i with
  | zero => intro h1; omega
  | succ i ih =>
    intro h1
    rw [fa_P_e]
    by_cases c : k = i
    · subst c; rw [if_neg (fa_P_mono h k), Int32.or_assoc, Int32.or_self]
    · have h2 := ih (by omega)
      by_cases c2 : tkHas (fa_P f s i) (i : Int) = 0
      · rw [if_pos c2]; exact h2
      · rw [if_neg c2]; exact fa_ab h2
theorem fa_P_fix {f : Nat → Int32} {n : Nat} {t : Int32} (h : ∀ k : Nat, k < n → ¬ (tkHas t (k : Int) = 0) → t ||| f k = t) : ∀ i : Nat, i ≤ n → fa_P f t i = t := by
  intro i
  induction i with
  | zero => intro _; rfl
  | succ i ih =>
    intro h1
    rw [fa_P_e, ih (by omega)]
    by_cases c : tkHas t (i : Int) = 0
    · rw [if_pos c]
    · rw [if_neg c]; exact h i (by omega) c
def fa_b (s : Int32) (k : Int) : Nat := if tkHas s k = 0 then 0 else 1
theorem fa_b1 {s : Int32} {k : Int} : fa_b s k ≤ 1 := by
  unfold fa_b; split <;> omega
def fa_c (s : Int32) : Nat → Nat
  | 0 => 0
  | n + 1 => fa_c s n + fa_b s (n : Int)
theorem fa_c_e {s : Int32} {n : Nat} : fa_c s (n + 1) = fa_c s n + fa_b s (n : Int) := rfl
theorem fa_c_le {s : Int32} : ∀ n : Nat, fa_c s n ≤ n := by
  intro n
  induction n with
  | zero => exact Nat.le_refl 0
  | succ n ih => have h1 := fa_b1 (s := s) (k := (n : Int)); rw [fa_c_e]; omega
theorem fa_c_mono {s t : Int32} (h : ∀ k : Nat, fa_b s (k : Int) ≤ fa_b t (k : Int)) : ∀ n : Nat, fa_c s n ≤ fa_c t n := by
  intro n
  induction n with
  | zero => exact Nat.le_refl 0
  | succ n ih => have h1 := h n; rw [fa_c_e, fa_c_e]; omega
theorem fa_c_eq {s t : Int32} (h : ∀ k : Nat, fa_b s (k : Int) ≤ fa_b t (k : Int)) : ∀ n : Nat, fa_c s n = fa_c t n → ∀ k : Nat, k < n → fa_b s (k : Int) = fa_b t (k : Int) := by
  intro n
  induction n with
  | zero => intro _ k hk; omega
  | succ n ih =>
    intro he k hk
    have h1 := h n
    have h2 := fa_c_mono h n
    rw [fa_c_e, fa_c_e] at he
    by_cases c : k = n
    · subst c; omega
    · exact ih (by omega) k (by omega)
theorem fa_c_pos {s : Int32} {m : Nat} (hb : ¬ (tkHas s (m : Int) = 0)) : ∀ n : Nat, m < n → 1 ≤ fa_c s n := by
  intro n
  induction n with
  | zero => intro h; omega
  | succ n ih =>
    intro h
    rw [fa_c_e]
    by_cases c : m = n
    · subst c; unfold fa_b; rw [if_neg hb]; omega
    · have := ih (by omega); omega
theorem fa_b_P {f : Nat → Int32} {s : Int32} {k : Int} {i : Nat} : fa_b s k ≤ fa_b (fa_P f s i) k := by
  by_cases c : tkHas s k = 0
  · unfold fa_b; rw [if_pos c]; exact Nat.zero_le _
  · unfold fa_b; rw [if_neg c, if_neg (fa_P_mono c i)]; exact Nat.le_refl 1
theorem fa_stop {f : Nat → Int32} {n : Nat} {s : Int32} (h : fa_c s n = fa_c (fa_P f s n) n) : fa_P f (fa_P f s n) n = fa_P f s n := by
  refine fa_P_fix (fun k hk hb => ?_) n (Nat.le_refl n)
  have e := fa_c_eq (fun k => fa_b_P) n h k hk
  refine fa_P_ab ?_ n hk
  intro h0
  unfold fa_b at e
  rw [if_pos h0, if_neg hb] at e
  omega
theorem fa_R_step {f : Nat → Int32} {n : Nat} {s : Int32} (h0 : 1 ≤ fa_c s n) : ∀ i : Nat, fa_R f n s (i + 1) = fa_R f n s i ∨ i + 1 ≤ fa_c (fa_R f n s i) n := by
  intro i
  induction i with
  | zero => exact Or.inr h0
  | succ i ih =>
    rcases ih with e | e
    · left; rw [fa_R_e, e, ← fa_R_e, e]
    · by_cases c : fa_c (fa_R f n s i) n = fa_c (fa_R f n s (i + 1)) n
      · left; rw [fa_R_e (r := i + 1), fa_R_e (r := i)]; exact fa_stop c
      · right
        have h1 : fa_c (fa_R f n s i) n ≤ fa_c (fa_R f n s (i + 1)) n := fa_c_mono (fun k => fa_b_P) n
        omega
theorem fa_R_fin {f : Nat → Int32} {n : Nat} {s : Int32} (h0 : 1 ≤ fa_c s n) : ∀ j : Nat, fa_R f n s (n + j) = fa_R f n s n := by
  have h1 : fa_R f n s (n + 1) = fa_R f n s n := by
    rcases fa_R_step (f := f) h0 n with e | e
    · exact e
    · have := fa_c_le (s := fa_R f n s n) n; omega
  intro j
  induction j with
  | zero => rfl
  | succ j ih => rw [← Nat.add_assoc, fa_R_e, ih, ← fa_R_e]; exact h1
theorem fa_P_cg {f g : Nat → Int32} {s : Int32} : ∀ i : Nat, (∀ k : Nat, k < i → f k = g k) → fa_P f s i = fa_P g s i := by
  intro i
  induction i with
  | zero => intro _; rfl
  | succ i ih => intro h; rw [fa_P_e, fa_P_e, ih (fun k hk => h k (by omega)), h i (by omega)]
theorem fa_R_cg {f g : Nat → Int32} {n : Nat} {s : Int32} (h : ∀ k : Nat, k < n → f k = g k) : ∀ r : Nat, fa_R f n s r = fa_R g n s r := by
  intro r
  induction r with
  | zero => rfl
  | succ r ih => rw [fa_R_e, fa_R_e, ih]; exact fa_P_cg n h
theorem fa_bit {m : Int} (h : 0 ≤ m ∧ m ≤ 6) : ¬ (tkHas (tkBit m) m = 0) := by
  have hc : m = 0 ∨ m = 1 ∨ m = 2 ∨ m = 3 ∨ m = 4 ∨ m = 5 ∨ m = 6 := by omega
  rcases hc with e | e | e | e | e | e | e <;> rw [e] <;> decide
theorem fa_bit_of {z y : Int32} (e : z = (1 : Int32) <<< (y &&& 31)) : z = tkBit y.toInt := by
  rw [e]; unfold tkBit; rw [Int32.ofInt_toInt]
theorem fa_R_0 {f : Nat → Int32} {n : Nat} {s b : Int32} {x : Int} (e : b = s) (h : x = 0) : b = fa_R f n s x.toNat := by
  subst h; exact e
theorem fa_R_s {f : Nat → Int32} {n : Nat} {s b : Int32} {r r2 k : Int} (h : b = fa_P f (fa_R f n s r.toNat) k.toNat) (hk : k.toNat = n) (hr : r2 = r + 1) (h0 : 0 ≤ r) : b = fa_R f n s r2.toNat := by
  rw [show r2.toNat = r.toNat + 1 by omega, fa_R_e, h, hk]
theorem fa_P_0 {f : Nat → Int32} {X b : Int32} {k : Int} (h : b = X) (hk : k = 0) : b = fa_P f X k.toNat := by
  subst hk; exact h
theorem fa_P_no {f : Nat → Int32} {X b : Int32} {k k2 : Int} (h : b = fa_P f X k.toNat) (hb : tkHas b k = 0) (h0 : 0 ≤ k) (hk : k2 = k + 1) : b = fa_P f X k2.toNat := by
  rw [h] at hb
  rw [show k2.toNat = k.toNat + 1 by omega, fa_P_e, show ((k.toNat : Nat) : Int) = k by omega, if_pos hb]; exact h
theorem fa_P_yes {f : Nat → Int32} {X b b2 v : Int32} {k k2 : Int} (h : b = fa_P f X k.toNat) (hb : ¬ (tkHas b k = 0)) (h0 : 0 ≤ k) (hv : v = f k.toNat) (e : b2 = b ||| v) (hk : k2 = k + 1) : b2 = fa_P f X k2.toNat := by
  rw [h] at hb
  rw [show k2.toNat = k.toNat + 1 by omega, fa_P_e, show ((k.toNat : Nat) : Int) = k by omega, if_neg hb, e, hv, h]
theorem tkFam_eq {g : Nat → Int32} {gn : Nat → Int64} {cm cd cr cw : Int32} {cf1 cf2 : Nat → Int64} {cf3 cf5 : Nat → Int32} (h : tkHD g gn cm cd cr cw cf1 cf2 cf3 cf5) {m r r2 : Int32} (hc : ((m.toInt < 0 ∨ cm.toInt ≤ m.toInt) ∧ r = -1) ∨ (0 ≤ m.toInt ∧ m.toInt < cm.toInt ∧ r = fa_R cf5 cm.toInt.toNat (tkBit m.toInt) cm.toInt.toNat)) (hm : ((m.toInt < 0 ∨ (g 0).toInt ≤ m.toInt) ∧ r2 = -1) ∨ (0 ≤ m.toInt ∧ m.toInt < (g 0).toInt ∧ r2 = fa_R (fun k => g (101 + k)) (g 0).toInt.toNat (tkBit m.toInt) 7)) : r = r2 := by
  have hn := h.nums
  rcases hc with ⟨a, e⟩ | ⟨a1, a2, e⟩ <;> rcases hm with ⟨b, e2⟩ | ⟨b1, b2, e2⟩
  · rw [e, e2]
  · exfalso; omega
  · exfalso; omega
  · rw [e, e2, ← hn.1]
    have h0 : 1 ≤ fa_c (tkBit m.toInt) cm.toInt.toNat := fa_c_pos (m := m.toInt.toNat) (by rw [show ((m.toInt.toNat : Nat) : Int) = m.toInt by omega]; exact fa_bit ⟨by omega, by omega⟩) _ (by omega)
    have h1 := fa_R_fin (f := cf5) h0 (7 - cm.toInt.toNat)
    rw [show cm.toInt.toNat + (7 - cm.toInt.toNat) = 7 by omega] at h1
    rw [← h1]
    exact fa_R_cg (fun k hk => h.2.2.2.1 k (by omega)) 7
