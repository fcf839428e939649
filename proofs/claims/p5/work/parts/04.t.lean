def tkb (b : Nat → Int32) (a : Int) : Int := (b a.toNat).toInt
theorem tkb_of {b : Nat → Int32} {x z : Int32} (e : z = b x.toNatClampNeg) : z.toInt = tkb b x.toInt := by rw [e]; rfl
def tkskF (b : Nat → Int32) (n : Int) : Nat → Int → Int
  | 0, a => a
  | k + 1, a => if a < n ∧ (tkb b a = 32 ∨ tkb b a = 10) then tkskF b n k (a + 1) else a
def tksk (b : Nat → Int32) (n a : Int) : Int := tkskF b n (n - a).toNat a
theorem tksk_go {b : Nat → Int32} {n a : Int} (h : a < n) (hb : tkb b a = 32 ∨ tkb b a = 10) : tksk b n (a + 1) = tksk b n a := by
  have e : (n - a).toNat = (n - (a + 1)).toNat + 1 := by omega
  unfold tksk
  rw [e]
  show _ = if a < n ∧ (tkb b a = 32 ∨ tkb b a = 10) then tkskF b n (n - (a + 1)).toNat (a + 1) else a
  rw [if_pos ⟨h, hb⟩]
theorem tksk_at {b : Nat → Int32} {n a : Int} (h : ¬ (a < n ∧ (tkb b a = 32 ∨ tkb b a = 10))) : tksk b n a = a := by
  unfold tksk
  cases (n - a).toNat with
  | zero => rfl
  | succ k => show (if a < n ∧ (tkb b a = 32 ∨ tkb b a = 10) then tkskF b n k (a + 1) else a) = a; rw [if_neg h]
theorem tkskF_ge {b : Nat → Int32} {n : Int} : ∀ (k : Nat) (a : Int), a ≤ tkskF b n k a ∧ (a ≤ n → tkskF b n k a ≤ n) := by
  intro k
  induction k with
  | zero => intro a; exact ⟨Int.le_refl _, fun h => h⟩
  | succ k ih =>
    intro a
    show a ≤ (if a < n ∧ (tkb b a = 32 ∨ tkb b a = 10) then tkskF b n k (a + 1) else a) ∧ (a ≤ n → (if a < n ∧ (tkb b a = 32 ∨ tkb b a = 10) then tkskF b n k (a + 1) else a) ≤ n)
    have := ih (a + 1)
    split
    · exact ⟨by omega, fun _ => by omega⟩
    · exact ⟨Int.le_refl _, fun h => h⟩
theorem tksk_ge {b : Nat → Int32} {n a : Int} : a ≤ tksk b n a ∧ (a ≤ n → tksk b n a ≤ n) := tkskF_ge _ _
def tkrnF (b : Nat → Int32) (n : Int) : Nat → Int → Int
  | 0, a => a
  | k + 1, a => if a < n ∧ ((97 ≤ tkb b a ∧ tkb b a ≤ 122) ∨ (48 ≤ tkb b a ∧ tkb b a ≤ 57)) then tkrnF b n k (a + 1) else a
def tkrn (b : Nat → Int32) (n a : Int) : Int := tkrnF b n (n - a).toNat a
theorem tkrn_go {b : Nat → Int32} {n a : Int} (h : a < n) (hb : (97 ≤ tkb b a ∧ tkb b a ≤ 122) ∨ (48 ≤ tkb b a ∧ tkb b a ≤ 57)) : tkrn b n (a + 1) = tkrn b n a := by
  have e : (n - a).toNat = (n - (a + 1)).toNat + 1 := by omega
  unfold tkrn
  rw [e]
  show _ = if a < n ∧ ((97 ≤ tkb b a ∧ tkb b a ≤ 122) ∨ (48 ≤ tkb b a ∧ tkb b a ≤ 57)) then tkrnF b n (n - (a + 1)).toNat (a + 1) else a
  rw [if_pos ⟨h, hb⟩]
theorem tkrn_at {b : Nat → Int32} {n a : Int} (h : ¬ (a < n ∧ ((97 ≤ tkb b a ∧ tkb b a ≤ 122) ∨ (48 ≤ tkb b a ∧ tkb b a ≤ 57)))) : tkrn b n a = a := by
  unfold tkrn
  cases (n - a).toNat with
  | zero => rfl
  | succ k => show (if a < n ∧ ((97 ≤ tkb b a ∧ tkb b a ≤ 122) ∨ (48 ≤ tkb b a ∧ tkb b a ≤ 57)) then tkrnF b n k (a + 1) else a) = a; rw [if_neg h]
theorem tkrnF_ge {b : Nat → Int32} {n : Int} : ∀ (k : Nat) (a : Int), a ≤ tkrnF b n k a ∧ (a ≤ n → tkrnF b n k a ≤ n) := by
  intro k
  induction k with
  | zero => intro a; exact ⟨Int.le_refl _, fun h => h⟩
  | succ k ih =>
    intro a
    show a ≤ (if a < n ∧ ((97 ≤ tkb b a ∧ tkb b a ≤ 122) ∨ (48 ≤ tkb b a ∧ tkb b a ≤ 57)) then tkrnF b n k (a + 1) else a) ∧ (a ≤ n → (if a < n ∧ ((97 ≤ tkb b a ∧ tkb b a ≤ 122) ∨ (48 ≤ tkb b a ∧ tkb b a ≤ 57)) then tkrnF b n k (a + 1) else a) ≤ n)
    have := ih (a + 1)
    split
    · exact ⟨by omega, fun _ => by omega⟩
    · exact ⟨Int.le_refl _, fun h => h⟩
theorem tkrn_ge {b : Nat → Int32} {n a : Int} : a ≤ tkrn b n a ∧ (a ≤ n → tkrn b n a ≤ n) := tkrnF_ge _ _
theorem tkrn_gt {b : Nat → Int32} {n a : Int} (h : a < n) (hb : (97 ≤ tkb b a ∧ tkb b a ≤ 122) ∨ (48 ≤ tkb b a ∧ tkb b a ≤ 57)) : a + 1 ≤ tkrn b n a := by
  rw [← tkrn_go h hb]; exact tkrn_ge.1
def tkcLF (b : Nat → Int32) (s : Int) : Nat → Int
  | 0 => 0
  | k + 1 => tkcLF b s k + (if 97 ≤ tkb b (s + k) ∧ tkb b (s + k) ≤ 122 then 1 else 0)
def tkcGF (b : Nat → Int32) (s : Int) : Nat → Int
  | 0 => 0
  | k + 1 => tkcGF b s k + (if 48 ≤ tkb b (s + k) ∧ tkb b (s + k) ≤ 57 then 1 else 0)
def tkcdF (b : Nat → Int32) (s : Int) : Nat → Int64
  | 0 => 0
  | k + 1 => if 97 ≤ tkb b (s + k) ∧ tkb b (s + k) ≤ 122 then tkcdF b s k * 32 + Int32.toInt64 (b (s + k).toNat - 97 + 1) else tkcdF b s k
def tknmF (b : Nat → Int32) (s : Int) : Nat → Int32
  | 0 => 0
  | k + 1 => if 48 ≤ tkb b (s + k) ∧ tkb b (s + k) ≤ 57 then tknmF b s k * 10 + (b (s + k).toNat - 48) else tknmF b s k
def tkwdF (b : Nat → Int32) (s : Int) : Nat → Int64
  | 0 => 0
  | k + 1 => if k < 7 then 27 * tkwdF b s k + Int32.toInt64 (b (s + k).toNat) - 96 else tkwdF b s k
def tkn3F (b : Nat → Int32) (s : Int) : Nat → Int32
  | 0 => 0
  | k + 1 => if k < 3 then 10 * tkn3F b s k + b (s + k).toNat - 48 else tkn3F b s k
def tkcL (b : Nat → Int32) (s a : Int) : Int := tkcLF b s (a - s).toNat
def tkcG (b : Nat → Int32) (s a : Int) : Int := tkcGF b s (a - s).toNat
def tkcd (b : Nat → Int32) (s a : Int) : Int64 := tkcdF b s (a - s).toNat
def tknm (b : Nat → Int32) (s a : Int) : Int32 := tknmF b s (a - s).toNat
def tkwd (b : Nat → Int32) (s a : Int) : Int64 := tkwdF b s (a - s).toNat
def tkn3 (b : Nat → Int32) (s a : Int) : Int32 := tkn3F b s (a - s).toNat
theorem tkc0 {b : Nat → Int32} {s : Int} : tkcL b s s = 0 ∧ tkcG b s s = 0 ∧ tkcd b s s = 0 ∧ tknm b s s = 0 ∧ tkwd b s s = 0 ∧ tkn3 b s s = 0 := by
  unfold tkcL tkcG tkcd tknm tkwd tkn3
  rw [Int.sub_self]; exact ⟨rfl, rfl, rfl, rfl, rfl, rfl⟩
theorem tkix {s a : Int} (h : s ≤ a) : (a + 1 - s).toNat = (a - s).toNat + 1 ∧ s + ((a - s).toNat : Int) = a := ⟨by omega, by omega⟩
theorem tkcL_s {b : Nat → Int32} {s a : Int} (h : s ≤ a) : tkcL b s (a + 1) = tkcL b s a + (if 97 ≤ tkb b a ∧ tkb b a ≤ 122 then 1 else 0) := by
  unfold tkcL; rw [(tkix h).1]
  show tkcLF b s (a - s).toNat + (if 97 ≤ tkb b (s + ((a - s).toNat : Int)) ∧ tkb b (s + ((a - s).toNat : Int)) ≤ 122 then 1 else 0) = _
  rw [(tkix h).2]
theorem tkcG_s {b : Nat → Int32} {s a : Int} (h : s ≤ a) : tkcG b s (a + 1) = tkcG b s a + (if 48 ≤ tkb b a ∧ tkb b a ≤ 57 then 1 else 0) := by
  unfold tkcG; rw [(tkix h).1]
  show tkcGF b s (a - s).toNat + (if 48 ≤ tkb b (s + ((a - s).toNat : Int)) ∧ tkb b (s + ((a - s).toNat : Int)) ≤ 57 then 1 else 0) = _
  rw [(tkix h).2]
theorem tkcd_s {b : Nat → Int32} {s a : Int} (h : s ≤ a) : tkcd b s (a + 1) = if 97 ≤ tkb b a ∧ tkb b a ≤ 122 then tkcd b s a * 32 + Int32.toInt64 (b a.toNat - 97 + 1) else tkcd b s a := by
  unfold tkcd; rw [(tkix h).1]
  show (if 97 ≤ tkb b (s + ((a - s).toNat : Int)) ∧ tkb b (s + ((a - s).toNat : Int)) ≤ 122 then tkcdF b s (a - s).toNat * 32 + Int32.toInt64 (b (s + ((a - s).toNat : Int)).toNat - 97 + 1) else tkcdF b s (a - s).toNat) = _
  rw [(tkix h).2]
theorem tknm_s {b : Nat → Int32} {s a : Int} (h : s ≤ a) : tknm b s (a + 1) = if 48 ≤ tkb b a ∧ tkb b a ≤ 57 then tknm b s a * 10 + (b a.toNat - 48) else tknm b s a := by
  unfold tknm; rw [(tkix h).1]
  show (if 48 ≤ tkb b (s + ((a - s).toNat : Int)) ∧ tkb b (s + ((a - s).toNat : Int)) ≤ 57 then tknmF b s (a - s).toNat * 10 + (b (s + ((a - s).toNat : Int)).toNat - 48) else tknmF b s (a - s).toNat) = _
  rw [(tkix h).2]
theorem tkwd_s {b : Nat → Int32} {s a : Int} (h : s ≤ a) : tkwd b s (a + 1) = if a - s < 7 then 27 * tkwd b s a + Int32.toInt64 (b a.toNat) - 96 else tkwd b s a := by
  unfold tkwd; rw [(tkix h).1]
  show (if (a - s).toNat < 7 then 27 * tkwdF b s (a - s).toNat + Int32.toInt64 (b (s + ((a - s).toNat : Int)).toNat) - 96 else tkwdF b s (a - s).toNat) = _
  rw [(tkix h).2]
  by_cases c : a - s < 7
  · rw [if_pos c, if_pos (by omega)]
  · rw [if_neg c, if_neg (by omega)]
theorem tkn3_s {b : Nat → Int32} {s a : Int} (h : s ≤ a) : tkn3 b s (a + 1) = if a - s < 3 then 10 * tkn3 b s a + b a.toNat - 48 else tkn3 b s a := by
  unfold tkn3; rw [(tkix h).1]
  show (if (a - s).toNat < 3 then 10 * tkn3F b s (a - s).toNat + b (s + ((a - s).toNat : Int)).toNat - 48 else tkn3F b s (a - s).toNat) = _
  rw [(tkix h).2]
  by_cases c : a - s < 3
  · rw [if_pos c, if_pos (by omega)]
  · rw [if_neg c, if_neg (by omega)]
/-- one byte more of a run: a letter -/
theorem tk_let {b : Nat → Int32} {s a : Int} (h : s ≤ a) (hl : 97 ≤ tkb b a ∧ tkb b a ≤ 122) : tkcL b s (a + 1) = tkcL b s a + 1 ∧ tkcG b s (a + 1) = tkcG b s a ∧ tkcd b s (a + 1) = tkcd b s a * 32 + Int32.toInt64 (b a.toNat - 97 + 1) ∧ tknm b s (a + 1) = tknm b s a := by
  rw [tkcL_s h, tkcG_s h, tkcd_s h, tknm_s h, if_pos hl, if_pos hl, if_neg (by omega), if_neg (by omega)]
  exact ⟨rfl, Int.add_zero _, rfl, rfl⟩
/-- .. a digit -/
theorem tk_dig {b : Nat → Int32} {s a : Int} (h : s ≤ a) (hl : 48 ≤ tkb b a ∧ tkb b a ≤ 57) : tkcL b s (a + 1) = tkcL b s a ∧ tkcG b s (a + 1) = tkcG b s a + 1 ∧ tkcd b s (a + 1) = tkcd b s a ∧ tknm b s (a + 1) = tknm b s a * 10 + (b a.toNat - 48) := by
  rw [tkcL_s h, tkcG_s h, tkcd_s h, tknm_s h, if_pos hl, if_pos hl, if_neg (by omega), if_neg (by omega)]
  exact ⟨Int.add_zero _, rfl, rfl, rfl⟩
theorem tkcd_up {b : Nat → Int32} {s : Int} {x z zb z1 z2 : Int32} {c y1 y2 y3 : Int64} (hc : c = tkcd b s x.toInt) (hx : s ≤ x.toInt) (hz : z.toInt = x.toInt + 1) (eb : zb = b x.toNatClampNeg) (hl : 97 ≤ zb.toInt ∧ zb.toInt ≤ 122) (e1 : z1 = zb - 97) (e2 : z2 = z1 + 1) (f1 : y1 = c * 32) (f2 : y2 = Int32.toInt64 z2) (f3 : y3 = y1 + y2) : y3 = tkcd b s z.toInt := by
  have t := tkb_of eb
  rw [hz, (tk_let hx (by omega)).2.2.1, f3, f1, f2, e2, e1, eb, hc]; rfl
theorem tknm_up {b : Nat → Int32} {s : Int} {x z zb c z1 z2 z3 : Int32} (hc : c = tknm b s x.toInt) (hx : s ≤ x.toInt) (hz : z.toInt = x.toInt + 1) (eb : zb = b x.toNatClampNeg) (hl : 48 ≤ zb.toInt ∧ zb.toInt ≤ 57) (e1 : z1 = c * 10) (e2 : z2 = zb - 48) (e3 : z3 = z1 + z2) : z3 = tknm b s z.toInt := by
  have t := tkb_of eb
  rw [hz, (tk_dig hx (by omega)).2.2.2, e3, e1, e2, eb, hc]; rfl
theorem tkwd_up {b : Nat → Int32} {s : Int} {x zb : Int32} {c y1 y2 y3 y4 : Int64} (hc : c = tkwd b s x.toInt) (hx : s ≤ x.toInt) (eb : zb = b x.toNatClampNeg) (h7 : x.toInt - s < 7) (f1 : y1 = 27 * c) (f2 : y2 = Int32.toInt64 zb) (f3 : y3 = y1 + y2) (f4 : y4 = y3 - 96) : y4 = tkwd b s (x.toInt + 1) := by
  rw [tkwd_s hx, if_pos h7, f4, f3, f1, f2, eb, hc]; rfl
theorem tkwd_no {b : Nat → Int32} {s : Int} {x : Int32} {c : Int64} (hc : c = tkwd b s x.toInt) (hx : s ≤ x.toInt) (h7 : ¬ (x.toInt - s < 7)) : c = tkwd b s (x.toInt + 1) := by
  rw [tkwd_s hx, if_neg h7, hc]
theorem tkn3_up {b : Nat → Int32} {s : Int} {x zb c z1 z2 z3 : Int32} (hc : c = tkn3 b s x.toInt) (hx : s ≤ x.toInt) (eb : zb = b x.toNatClampNeg) (h3 : x.toInt - s < 3) (e1 : z1 = 10 * c) (e2 : z2 = z1 + zb) (e3 : z3 = z2 - 48) : z3 = tkn3 b s (x.toInt + 1) := by
  rw [tkn3_s hx, if_pos h3, e3, e2, e1, eb, hc]; rfl
theorem tkn3_no {b : Nat → Int32} {s : Int} {x c : Int32} (hc : c = tkn3 b s x.toInt) (hx : s ≤ x.toInt) (h3 : ¬ (x.toInt - s < 3)) : c = tkn3 b s (x.toInt + 1) := by
  rw [tkn3_s hx, if_neg h3, hc]
def tksrF (f : Nat → Int64) (o : Int) (c : Int64) (n : Int) : Nat → Int → Int
  | 0, _ => -1
  | q + 1, k => if k < n then (if f (o + k).toNat = c then k else tksrF f o c n q (k + 1)) else -1
def tksr (f : Nat → Int64) (o : Int) (c : Int64) (n k : Int) : Int := tksrF f o c n (n - k).toNat k
theorem tksr_end {f : Nat → Int64} {o : Int} {c : Int64} {n k : Int} (h : n ≤ k) : tksr f o c n k = -1 := by
  unfold tksr; rw [show (n - k).toNat = 0 by omega]; rfl
theorem tksr_hit {f : Nat → Int64} {o : Int} {c : Int64} {n k : Int} (h : k < n) (e : f (o + k).toNat = c) : tksr f o c n k = k := by
  unfold tksr; rw [show (n - k).toNat = (n - (k + 1)).toNat + 1 by omega]
  show (if k < n then (if f (o + k).toNat = c then k else _) else _) = _
  rw [if_pos h, if_pos e]
theorem tksr_go {f : Nat → Int64} {o : Int} {c : Int64} {n k : Int} (h : k < n) (e : ¬ (f (o + k).toNat = c)) : tksr f o c n (k + 1) = tksr f o c n k := by
  unfold tksr; rw [show (n - k).toNat = (n - (k + 1)).toNat + 1 by omega]
  show _ = (if k < n then (if f (o + k).toNat = c then k else tksrF f o c n (n - (k + 1)).toNat (k + 1)) else _)
  rw [if_pos h, if_neg e]
/-- what a search finds: the first place, or that there is none -/
theorem tksr_all {f : Nat → Int64} {o : Int} {c : Int64} {n : Int} : ∀ (q : Nat) (k : Int), (n - k).toNat ≤ q → (tksr f o c n k = -1 ∧ ∀ j : Int, k ≤ j → j < n → ¬ (f (o + j).toNat = c)) ∨ (k ≤ tksr f o c n k ∧ tksr f o c n k < n ∧ f (o + tksr f o c n k).toNat = c ∧ ∀ j : Int, k ≤ j → j < tksr f o c n k → ¬ (f (o + j).toNat = c)) := by
  intro q
  induction q with
  | zero => intro k h; exact Or.inl ⟨tksr_end (by omega), fun j a b => absurd b (by omega)⟩
  | succ q ih =>
    intro k h
    by_cases c1 : k < n
    · by_cases c2 : f (o + k).toNat = c
      · refine Or.inr ?_
        rw [tksr_hit c1 c2]
        exact ⟨Int.le_refl _, c1, c2, fun j a b => absurd b (by omega)⟩
      · rw [← tksr_go c1 c2]
        rcases ih (k + 1) (by omega) with ⟨h1, h2⟩ | ⟨h1, h2, h3, h4⟩
        · refine Or.inl ⟨h1, fun j a b => ?_⟩
          by_cases e : j = k
          · rw [e]; exact c2
          · exact h2 j (by omega) b
        · refine Or.inr ⟨by omega, h2, h3, fun j a b => ?_⟩
          by_cases e : j = k
          · rw [e]; exact c2
          · exact h4 j (by omega) b
    · exact Or.inl ⟨tksr_end (by omega), fun j a b => absurd b (by omega)⟩
theorem tksr_rg {f : Nat → Int64} {o : Int} {c : Int64} {n : Int} : (tksr f o c n 0 = -1) ∨ (0 ≤ tksr f o c n 0 ∧ tksr f o c n 0 < n) := by
  rcases tksr_all (f := f) (o := o) (c := c) (n := n) _ 0 (Nat.le_refl _) with h | h
  · exact Or.inl h.1
  · exact Or.inr ⟨h.1, h.2.1⟩
/-- two searches that hit in the same places find the same -/
theorem tksr_like {f f' : Nat → Int64} {o o' : Int} {c c' : Int64} {n : Int} (h : ∀ j : Int, 0 ≤ j → j < n → (f (o + j).toNat = c ↔ f' (o' + j).toNat = c')) : tksr f o c n 0 = tksr f' o' c' n 0 := by
  rcases tksr_all (f := f) (o := o) (c := c) (n := n) _ 0 (Nat.le_refl _) with ⟨h1, h2⟩ | ⟨h1, h2, h3, h4⟩ <;> rcases tksr_all (f := f') (o := o') (c := c') (n := n) _ 0 (Nat.le_refl _) with ⟨g1, g2⟩ | ⟨g1, g2, g3, g4⟩
  · rw [h1, g1]
  · exact absurd ((h _ g1 g2).mpr g3) (h2 _ g1 g2)
  · exact absurd ((h _ h1 h2).mp h3) (g2 _ h1 h2)
  · rcases Int.lt_trichotomy (tksr f o c n 0) (tksr f' o' c' n 0) with z | z | z
    · exact absurd ((h _ h1 h2).mp h3) (g4 _ h1 z)
    · exact z
    · exact absurd ((h _ g1 g2).mpr g3) (h4 _ g1 z)
theorem l_cmp0 {x y : Int64} {z : Int32} (e : z = lg_cmp x y) : z.toInt = (0 : Int32).toInt ↔ x = y := by
  rw [← lg_cmp_eq, ← e, i_eq]
theorem tkrow {f : Nat → Int64} {x : Int32} {y : Int64} (e : y = f x.toNatClampNeg) : f (0 + x.toInt).toNat = y := by
  rw [Int.zero_add, e]; rfl
theorem ld_at {f : Nat → Int32} {x z : Int32} {k : Int} (e : z = f x.toNatClampNeg) (h : x.toInt = k) : z.toInt = (f k.toNat).toInt := by rw [e, ← h]; rfl
theorem ld_eq {f : Nat → Int32} {x z : Int32} {k : Int} (e : z = f x.toNatClampNeg) (h : x.toInt = k) : z = f k.toNat := by rw [e, ← h]; rfl
theorem upd_at {f g : Nat → Int32} {v w x : Int32} {k : Int} (e : g = upd f x.toNatClampNeg v) (h : x.toInt = k) (hv : v = w) : g = upd f k.toNat w := by rw [e, hv, ← h]; rfl
theorem updL_at {f g : Nat → Int64} {v w : Int64} {x : Int32} {k : Int} (e : g = vp_updL f x.toNatClampNeg v) (h : x.toInt = k) (hv : v = w) : g = vp_updL f k.toNat w := by rw [e, hv, ← h]; rfl
theorem i_ofInt {x : Int32} {k : Int} (h : x.toInt = k) : x = Int32.ofInt k := by rw [← h, Int32.ofInt_toInt]
/-- are two of one kind: the bit of a row of bits -/
def tkHas (v : Int32) (k : Int) : Int := ((v >>> (Int32.ofInt k &&& 31)) &&& 1).toInt
theorem tkHas_of {f : Nat → Int32} {x k z y q : Int32} {m n : Int} (e : z = f x.toNatClampNeg) (hx : x.toInt = m) (hk : k.toInt = n) (ey : y = z >>> (k &&& 31)) (eq : q = y &&& 1) : q.toInt = tkHas (f m.toNat) n := by
  rw [eq, ey, ld_eq e hx, i_ofInt hk]; rfl
def tkBit (k : Int) : Int32 := (1 : Int32) <<< (Int32.ofInt k &&& 31)
def tkKinU (f : Nat → Int32) (o m1 m2 : Int) : Nat → Int32 := upd (upd f (o + m1).toNat (f (o + m1).toNat ||| tkBit m2)) (o + m2).toNat ((upd f (o + m1).toNat (f (o + m1).toNat ||| tkBit m2)) (o + m2).toNat ||| tkBit m1)
theorem tkKinU_of {f f1 f2 : Nat → Int32} {x y z1 w1 v1 z2 w2 v2 : Int32} {m1 m2 : Int} (hx : x.toInt = m1) (hy : y.toInt = m2) (ez1 : z1 = f x.toNatClampNeg) (ew1 : w1 = (1 : Int32) <<< (y &&& 31)) (ev1 : v1 = z1 ||| w1) (e1 : f1 = upd f x.toNatClampNeg v1) (ez2 : z2 = f1 y.toNatClampNeg) (ew2 : w2 = (1 : Int32) <<< (x &&& 31)) (ev2 : v2 = z2 ||| w2) (e2 : f2 = upd f1 y.toNatClampNeg v2) : f2 = tkKinU f 0 m1 m2 := by
  subst hx hy
  unfold tkKinU tkBit
  rw [Int.zero_add, Int.zero_add, Int32.ofInt_toInt, Int32.ofInt_toInt, e2, ev2, ez2, ew2, e1, ev1, ez1, ew1]; rfl
def tkBy (w s : Int32) : Int32 := (Int32.toUInt32 w >>> (Int32.toUInt32 s &&& Int32.toUInt32 31)).toInt32 &&& 255
def tkPut (b : Nat → Int32) (n : Int) (w : Int32) : Nat → Int32 := upd (upd (upd (upd b n.toNat (tkBy w 24)) (n + 1).toNat (tkBy w 16)) (n + 2).toNat (tkBy w 8)) (n + 3).toNat (tkBy w 0)
theorem tkPut_of {b f1 f2 f3 f4 : Nat → Int32} {w l0 l1 l2 l3 u0 u1 u2 u3 y0 y1 y2 y3 : Int32} {n : Int} (h0 : l0.toInt = n) (h1 : l1.toInt = n + 1) (h2 : l2.toInt = n + 2) (h3 : l3.toInt = n + 3)
    (a0 : (Int32.toUInt32 w >>> (Int32.toUInt32 24 &&& Int32.toUInt32 31)).toInt32 = u0) (a1 : (Int32.toUInt32 w >>> (Int32.toUInt32 16 &&& Int32.toUInt32 31)).toInt32 = u1) (a2 : (Int32.toUInt32 w >>> (Int32.toUInt32 8 &&& Int32.toUInt32 31)).toInt32 = u2) (a3 : (Int32.toUInt32 w >>> (Int32.toUInt32 0 &&& Int32.toUInt32 31)).toInt32 = u3)
    (c0 : y0 = u0 &&& 255) (c1 : y1 = u1 &&& 255) (c2 : y2 = u2 &&& 255) (c3 : y3 = u3 &&& 255) (e0 : f1 = upd b l0.toNatClampNeg y0) (e1 : f2 = upd f1 l1.toNatClampNeg y1) (e2 : f3 = upd f2 l2.toNatClampNeg y2) (e3 : f4 = upd f3 l3.toNatClampNeg y3) : f4 = tkPut b n w := by
  rw [upd_at e3 h3 rfl, upd_at e2 h2 rfl, upd_at e1 h1 rfl, upd_at e0 h0 rfl, c0, c1, c2, c3, ← a0, ← a1, ← a2, ← a3]; rfl
def tkFeed (b : Nat → Int32) (n : Int) (a0 a1 a2 a3 a4 : Int32) : Nat → Int32 := tkPut (tkPut (tkPut (tkPut (tkPut b n a0) (n + 4) a1) (n + 8) a2) (n + 12) a3) (n + 16) a4
theorem tkFeed_of {b f1 f2 f3 f4 f5 : Nat → Int32} {a0 a1 a2 a3 a4 : Int32} {n n1 n2 n3 n4 : Int} (h1 : n1 = n + 4) (h2 : n2 = n + 8) (h3 : n3 = n + 12) (h4 : n4 = n + 16) (e1 : f1 = tkPut b n a0) (e2 : f2 = tkPut f1 n1 a1) (e3 : f3 = tkPut f2 n2 a2) (e4 : f4 = tkPut f3 n3 a3) (e5 : f5 = tkPut f4 n4 a4) : f5 = tkFeed b n a0 a1 a2 a3 a4 := by
  subst h1 h2 h3 h4
  rw [e5, e4, e3, e2, e1]; rfl
