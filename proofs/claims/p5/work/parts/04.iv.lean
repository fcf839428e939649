/-! ints by their toInt, rows by bounds of their elements -/
def Rg (f : Nat → Int32) (n : Nat) (a b : Int) : Prop := ∀ j : Nat, j < n → a ≤ (f j).toInt ∧ (f j).toInt ≤ b
theorem Rg.upd {f : Nat → Int32} {n k : Nat} {a b : Int} {v : Int32} (h : Rg f n a b) (hv : a ≤ v.toInt ∧ v.toInt ≤ b) : Rg (upd f k v) n a b := by
  intro j hj
  by_cases e : j = k
  · rw [e, pk_us]; exact hv
  · rw [pk_un e]; exact h j hj
theorem Rg.mono {f : Nat → Int32} {n : Nat} {a b a' b' : Int} (h : Rg f n a b) (h1 : a' ≤ a) (h2 : b ≤ b') : Rg f n a' b' := fun j hj => ⟨Int.le_trans h1 (h j hj).1, Int.le_trans (h j hj).2 h2⟩
theorem vp_cl {x : Int32} {n : Nat} (h : vp_in x n) : x.toNatClampNeg < n := Nat.lt_of_not_le (fun z => h (Or.inr z))
theorem Rg.at {f : Nat → Int32} {n : Nat} {a b : Int} (h : Rg f n a b) {x z : Int32} (hi : vp_in x n) (e : z = f x.toNatClampNeg) : a ≤ z.toInt ∧ z.toInt ≤ b := by
  rw [e]; exact h _ (vp_cl hi)
theorem i_lt {x y : Int32} : x < y ↔ x.toInt < y.toInt := Int32.lt_iff_toInt_lt
theorem i_le {x y : Int32} : x ≤ y ↔ x.toInt ≤ y.toInt := Int32.le_iff_toInt_le
theorem i_eq {x y : Int32} : x = y ↔ x.toInt = y.toInt := Int32.toInt_inj.symm
theorem bm_eq {n : Int} (h1 : -2147483648 ≤ n) (h2 : n ≤ 2147483647) : n.bmod (2 ^ 32) = n := by
  simp only [Int.bmod]
  split <;> omega
theorem i_add {x y z : Int32} (e : z = x + y) (h1 : -2147483648 ≤ x.toInt + y.toInt) (h2 : x.toInt + y.toInt ≤ 2147483647) : z.toInt = x.toInt + y.toInt := by
  rw [e, Int32.toInt_add]; exact bm_eq h1 h2
theorem i_sub {x y z : Int32} (e : z = x - y) (h1 : -2147483648 ≤ x.toInt - y.toInt) (h2 : x.toInt - y.toInt ≤ 2147483647) : z.toInt = x.toInt - y.toInt := by
  rw [e, Int32.toInt_sub]; exact bm_eq h1 h2
theorem i_mul {x y z : Int32} (e : z = x * y) (h1 : -2147483648 ≤ x.toInt * y.toInt) (h2 : x.toInt * y.toInt ≤ 2147483647) : z.toInt = x.toInt * y.toInt := by
  rw [e, Int32.toInt_mul]; exact bm_eq h1 h2
theorem i_mulc {x c z : Int32} {n : Int} (hc : c.toInt = n) (e : z = x * c) (h1 : -2147483648 ≤ x.toInt * n) (h2 : x.toInt * n ≤ 2147483647) : z.toInt = x.toInt * n := by
  subst hc; exact i_mul e h1 h2
theorem i_cmul {x c z : Int32} {n : Int} (hc : c.toInt = n) (e : z = c * x) (h1 : -2147483648 ≤ x.toInt * n) (h2 : x.toInt * n ≤ 2147483647) : z.toInt = x.toInt * n := by
  subst hc; rw [Int.mul_comm] at h1 h2 ⊢; exact i_mul e h1 h2
theorem i_mulb {x y z : Int32} {A B : Int} (e : z = x * y) (hx : 0 ≤ x.toInt ∧ x.toInt ≤ A) (hy : 0 ≤ y.toInt ∧ y.toInt ≤ B) (h : A * B ≤ 2147483647) : 0 ≤ z.toInt ∧ z.toInt ≤ A * B ∧ z.toInt = x.toInt * y.toInt := by
  have h0 : 0 ≤ x.toInt * y.toInt := Int.mul_nonneg hx.1 hy.1
  have h1 : x.toInt * y.toInt ≤ A * B := Int.mul_le_mul hx.2 hy.2 hy.1 (Int.le_trans hx.1 hx.2)
  have h2 := i_mul e (by omega) (by omega)
  rw [h2]; exact ⟨h0, h1, rfl⟩
theorem i_min {x y z : Int32} (e : z = if y < x then y else x) : z.toInt ≤ x.toInt ∧ z.toInt ≤ y.toInt ∧ (z.toInt = x.toInt ∨ z.toInt = y.toInt) := by
  by_cases h : y < x
  · rw [if_pos h] at e; rw [i_lt] at h; subst e; omega
  · rw [if_neg h] at e; rw [i_lt] at h; subst e; omega
theorem Rg.cpy {f g : Nat → Int32} {n n' : Nat} {a b : Int} (h : Rg f n' a b) (hn : n ≤ n') : Rg (va_cpy f g 0 0 n) n a b := by
  intro j hj
  have h1 : va_cpy f g 0 0 n j = f j := by unfold va_cpy; simp [hj]
  rw [h1]; exact h j (Nat.lt_of_lt_of_le hj hn)
theorem i_and1 {x z : Int32} (e : z = x &&& 1) : 0 ≤ z.toInt ∧ z.toInt ≤ 1 := by
  subst e; have h := vp_in_iff.mp (pk_andIn x (m := 1) 1 (by decide) (by decide)); omega
theorem i_and31 {x z : Int32} (e : z = x &&& 31) : 0 ≤ z.toInt ∧ z.toInt ≤ 31 := by
  subst e; have h := vp_in_iff.mp (pk_andIn x (m := 31) 5 (by decide) (by decide)); omega
theorem i_and255 {x z : Int32} (e : z = x &&& 255) : 0 ≤ z.toInt ∧ z.toInt ≤ 255 := by
  subst e; have h := vp_in_iff.mp (pk_andIn x (m := 255) 8 (by decide) (by decide)); omega
theorem i_ushr8 {x z : Int32} (e : (Int32.toUInt32 x >>> (Int32.toUInt32 8 &&& Int32.toUInt32 31)).toInt32 = z) : 0 ≤ z.toInt ∧ z.toInt ≤ 16777215 := by
  have h := pk_ushr x 8 8 (by decide)
  rw [e] at h
  have h2 : z.toBitVec.toNat < 16777216 := by rw [h]; have := x.toBitVec.isLt; omega
  have h3 : z.toInt = (z.toBitVec.toNat : Int) := BitVec.toInt_eq_toNat_of_lt (by omega)
  omega
theorem i_shl7 {m z : Int32} (e : z = (1 : Int32) <<< (m &&& 31)) (h : 0 ≤ m.toInt ∧ m.toInt ≤ 7) : 1 ≤ z.toInt ∧ z.toInt ≤ 128 := by
  have k0 : (0 : Int32).toInt = 0 := by decide
  obtain ⟨j, hj, rfl⟩ := nI_of (x := m) (by rw [i_lt]; omega)
  rw [nI_toInt hj] at h
  have h8 : j = 0 ∨ j = 1 ∨ j = 2 ∨ j = 3 ∨ j = 4 ∨ j = 5 ∨ j = 6 ∨ j = 7 := by omega
  rcases h8 with rfl | rfl | rfl | rfl | rfl | rfl | rfl | rfl <;> subst e <;> decide
theorem i_rng (x : Int32) : -2147483648 ≤ x.toInt ∧ x.toInt ≤ 2147483647 := by
  have h := x.toBitVec.isLt
  rw [show x.toInt = x.toBitVec.toInt from rfl, BitVec.toInt_eq_toNat_cond]
  split <;> omega
theorem i_same {f : Nat → Int32} {x y a b : Int32} (ex : x = f a.toNatClampNeg) (ey : y = f b.toNatClampNeg) (h : b.toInt = a.toInt) : y.toInt = x.toInt := by
  rw [ex, ey, i_eq.mpr h]
theorem cl_nn {x : Int32} (h : 0 ≤ x.toInt) : ((x.toNatClampNeg : Nat) : Int) = x.toInt := by
  rw [show x.toNatClampNeg = x.toInt.toNat from rfl]; omega
theorem i_bool {x : Int32} (h : 0 ≤ x.toInt ∧ x.toInt ≤ 1) : x = 0 ∨ x = 1 := by
  have k0 : (0 : Int32).toInt = 0 := by decide
  have k1 : (1 : Int32).toInt = 1 := by decide
  have h2 : x.toInt = 0 ∨ x.toInt = 1 := by omega
  rcases h2 with h2 | h2
  · exact Or.inl (i_eq.mpr (h2.trans k0.symm))
  · exact Or.inr (i_eq.mpr (h2.trans k1.symm))
theorem i_rem {x y z : Int32} (e : z = x - x / y * y) (hx : 0 ≤ x.toInt) (hy : 0 < y.toInt) : 0 ≤ z.toInt ∧ z.toInt < y.toInt := by
  have k0 : (0 : Int32).toInt = 0 := by decide
  obtain ⟨a, ha, rfl⟩ := nI_of (x := x) (by rw [i_lt]; omega)
  obtain ⟨b, hb, rfl⟩ := nI_of (x := y) (by rw [i_lt]; omega)
  rw [nI_toInt hb] at hy ⊢
  have h0 : 0 < b := by omega
  have h1 : z = nI (a % b) := e.trans (pk_rem ha h0 hb)
  have h2 := Nat.mod_lt a h0
  rw [h1, nI_toInt (by omega)]
  omega
