def tkMK (kd sg : Int) : Int := if kd = 0 then 3 else if kd = 1 then 0 else if kd = 2 then 1 else if kd = 3 then 2 else if kd = 4 ∧ 40 ≤ sg then sg else 99
theorem tkMK_def (kd sg : Int) : (kd = 0 ∧ tkMK kd sg = 3) ∨ (kd = 1 ∧ tkMK kd sg = 0) ∨ (kd = 2 ∧ tkMK kd sg = 1) ∨ (kd = 3 ∧ tkMK kd sg = 2) ∨ (kd = 4 ∧ 40 ≤ sg ∧ tkMK kd sg = sg) ∨ ((kd < 0 ∨ 3 < kd) ∧ ¬ (kd = 4 ∧ 40 ≤ sg) ∧ tkMK kd sg = 99) := by
  unfold tkMK
  by_cases c0 : kd = 0
  · rw [if_pos c0]; omega
  by_cases c1 : kd = 1
  · rw [if_neg c0, if_pos c1]; omega
  by_cases c2 : kd = 2
  · rw [if_neg c0, if_neg c1, if_pos c2]; omega
  by_cases c3 : kd = 3
  · rw [if_neg c0, if_neg c1, if_neg c2, if_pos c3]; omega
  by_cases c4 : kd = 4 ∧ 40 ≤ sg
  · rw [if_neg c0, if_neg c1, if_neg c2, if_neg c3, if_pos c4]; omega
  · rw [if_neg c0, if_neg c1, if_neg c2, if_neg c3, if_neg c4]; omega
def tkMW (kd : Int) (w : Int64) : Int := if kd = 2 then tksr tkMT 0 w 29 0 else -1
def tkcv : Nat → Int → Int
  | 0, _ => 0
  | k + 1, c => if c ≤ 0 then 0 else 27 * tkcv k (c / 32) + c % 32
def tkvc : Nat → Int → Prop
  | 0, c => c = 0
  | k + 1, c => c = 0 ∨ (0 < c ∧ 1 ≤ c % 32 ∧ c % 32 ≤ 26 ∧ tkvc k (c / 32))
theorem tkcv_0 : ∀ k : Nat, tkcv k 0 = 0 := by
  intro k
  cases k with
  | zero => rfl
  | succ k => show (if (0 : Int) ≤ 0 then (0 : Int) else _) = 0; rw [if_pos (by decide)]
theorem tkvc_0 : ∀ k : Nat, tkvc k 0 := by
  intro k
  cases k with
  | zero => rfl
  | succ k => exact Or.inl rfl
theorem tkcv_s {k : Nat} {c : Int} (h : 0 < c) : tkcv (k + 1) c = 27 * tkcv k (c / 32) + c % 32 := by
  show (if c ≤ 0 then (0 : Int) else _) = _; rw [if_neg (by omega)]
theorem tkcv_nn : ∀ (k : Nat) (c : Int), 0 ≤ tkcv k c := by
  intro k
  induction k with
  | zero => intro c; exact Int.le_refl _
  | succ k ih =>
    intro c
    by_cases h : c ≤ 0
    · show 0 ≤ (if c ≤ 0 then (0 : Int) else _); rw [if_pos h]; exact Int.le_refl _
    · rw [tkcv_s (by omega)]; have := ih (c / 32); omega
theorem tkcv_inj : ∀ (k : Nat) (c d : Int), tkvc k c → tkvc k d → tkcv k c = tkcv k d → c = d := by
  intro k
  induction k with
  | zero => intro c d h1 h2 _; exact h1.trans h2.symm
  | succ k ih =>
    intro c d h1 h2 e
    rcases h1 with h1 | ⟨a1, a2, a3, a4⟩ <;> rcases h2 with h2 | ⟨b1, b2, b3, b4⟩
    · rw [h1, h2]
    · rw [h1, tkcv_0, tkcv_s b1] at e; have := tkcv_nn k (d / 32); omega
    · rw [h2, tkcv_0, tkcv_s a1] at e; have := tkcv_nn k (c / 32); omega
    · rw [tkcv_s a1, tkcv_s b1] at e
      have := ih (c / 32) (d / 32) a4 b4 (by omega)
      omega
theorem tkvc_up : ∀ (k : Nat) (c : Int), tkvc k c → tkvc (k + 1) c ∧ tkcv (k + 1) c = tkcv k c := by
  intro k
  induction k with
  | zero => intro c h; have h : c = 0 := h; rw [h]; exact ⟨tkvc_0 _, by rw [tkcv_0, tkcv_0]⟩
  | succ k ih =>
    intro c h
    rcases h with h | ⟨a1, a2, a3, a4⟩
    · rw [h]; exact ⟨tkvc_0 _, by rw [tkcv_0, tkcv_0]⟩
    · have := ih (c / 32) a4
      exact ⟨Or.inr ⟨a1, a2, a3, this.1⟩, by rw [tkcv_s a1, tkcv_s a1, this.2]⟩
theorem tkvc_to {c : Int} : ∀ (j k : Nat), tkvc k c → tkvc (k + j) c ∧ tkcv (k + j) c = tkcv k c := by
  intro j
  induction j with
  | zero => intro k h; exact ⟨h, rfl⟩
  | succ j ih =>
    intro k h
    have h1 := ih k h
    have h2 := tkvc_up (k + j) c h1.1
    exact ⟨h2.1, h2.2.trans h1.2⟩
def tkB : Nat → Int
  | 0 => 1
  | k + 1 => 32 * tkB k
theorem tkB_le : ∀ k : Nat, k ≤ 7 → 1 ≤ tkB k ∧ tkB k ≤ 34359738368 := by decide
theorem lm_eq {n : Int} (h1 : -9223372036854775808 ≤ n) (h2 : n ≤ 9223372036854775807) : n.bmod (2 ^ 64) = n := by
  simp only [Int.bmod]
  split <;> omega
theorem l_add {x y z : Int64} (e : z = x + y) (h1 : -9223372036854775808 ≤ x.toInt + y.toInt) (h2 : x.toInt + y.toInt ≤ 9223372036854775807) : z.toInt = x.toInt + y.toInt := by
  rw [e, Int64.toInt_add]; exact lm_eq h1 h2
theorem l_sub {x y z : Int64} (e : z = x - y) (h1 : -9223372036854775808 ≤ x.toInt - y.toInt) (h2 : x.toInt - y.toInt ≤ 9223372036854775807) : z.toInt = x.toInt - y.toInt := by
  rw [e, Int64.toInt_sub]; exact lm_eq h1 h2
theorem l_mulc {x y z : Int64} {n : Int} (hc : y.toInt = n) (e : z = x * y) (h1 : -9223372036854775808 ≤ x.toInt * n) (h2 : x.toInt * n ≤ 9223372036854775807) : z.toInt = x.toInt * n := by
  subst hc; rw [e, Int64.toInt_mul]; exact lm_eq h1 h2
theorem l_cmul {x y z : Int64} {n : Int} (hc : y.toInt = n) (e : z = y * x) (h1 : -9223372036854775808 ≤ n * x.toInt) (h2 : n * x.toInt ≤ 9223372036854775807) : z.toInt = n * x.toInt := by
  subst hc; rw [e, Int64.toInt_mul]; exact lm_eq h1 h2
theorem l_eq {x y : Int64} : x = y ↔ x.toInt = y.toInt := Int64.toInt_inj.symm
theorem tkcLF_le {b : Nat → Int32} {s : Int} : ∀ k : Nat, 0 ≤ tkcLF b s k ∧ tkcLF b s k ≤ k := by
  intro k
  induction k with
  | zero => exact ⟨Int.le_refl _, Int.le_refl _⟩
  | succ k ih =>
    show 0 ≤ tkcLF b s k + (if 97 ≤ tkb b (s + k) ∧ tkb b (s + k) ≤ 122 then 1 else 0) ∧ tkcLF b s k + (if 97 ≤ tkb b (s + k) ∧ tkb b (s + k) ≤ 122 then 1 else 0) ≤ ((k + 1 : Nat) : Int)
    split <;> omega
theorem tkcGF_le {b : Nat → Int32} {s : Int} : ∀ k : Nat, 0 ≤ tkcGF b s k ∧ tkcGF b s k ≤ k := by
  intro k
  induction k with
  | zero => exact ⟨Int.le_refl _, Int.le_refl _⟩
  | succ k ih =>
    show 0 ≤ tkcGF b s k + (if 48 ≤ tkb b (s + k) ∧ tkb b (s + k) ≤ 57 then 1 else 0) ∧ tkcGF b s k + (if 48 ≤ tkb b (s + k) ∧ tkb b (s + k) ≤ 57 then 1 else 0) ≤ ((k + 1 : Nat) : Int)
    split <;> omega
/-- letters alone: the two codes -/
theorem tkenc {b : Nat → Int32} {s : Int} : ∀ k : Nat, k ≤ 7 → tkcLF b s k = k → 0 ≤ (tkcdF b s k).toInt ∧ (tkcdF b s k).toInt < tkB k ∧ 0 ≤ (tkwdF b s k).toInt ∧ (tkwdF b s k).toInt < tkB k ∧ tkvc k (tkcdF b s k).toInt ∧ (tkwdF b s k).toInt = tkcv k (tkcdF b s k).toInt := by
  intro k
  induction k with
  | zero =>
    intro _ _
    have e : (0 : Int64).toInt = 0 := by decide
    show 0 ≤ (0 : Int64).toInt ∧ (0 : Int64).toInt < 1 ∧ 0 ≤ (0 : Int64).toInt ∧ (0 : Int64).toInt < 1 ∧ (0 : Int64).toInt = 0 ∧ (0 : Int64).toInt = 0
    rw [e]; decide
  | succ k ih =>
    intro hk hc
    have hle := tkcLF_le (b := b) (s := s) k
    have hc2 : tkcLF b s k + (if 97 ≤ tkb b (s + k) ∧ tkb b (s + k) ≤ 122 then 1 else 0) = ((k + 1 : Nat) : Int) := hc
    have hl : 97 ≤ tkb b (s + k) ∧ tkb b (s + k) ≤ 122 := by
      by_cases c : 97 ≤ tkb b (s + k) ∧ tkb b (s + k) ≤ 122
      · exact c
      · rw [if_neg c] at hc2; omega
    rw [if_pos hl] at hc2
    obtain ⟨i1, i2, i3, i4, i5, i6⟩ := ih (by omega) (by omega)
    have hB := tkB_le k (by omega)
    have ht : (b (s + k).toNat).toInt = tkb b (s + k) := rfl
    have k97 : (97 : Int32).toInt = 97 := by decide
    have k1 : (1 : Int32).toInt = 1 := by decide
    have k32 : (32 : Int64).toInt = 32 := by decide
    have k27 : (27 : Int64).toInt = 27 := by decide
    have k96 : (96 : Int64).toInt = 96 := by decide
    have m1 : (b (s + k).toNat - 97).toInt = tkb b (s + k) - 97 := by rw [i_sub (x := b (s + k).toNat) (y := 97) rfl (by omega) (by omega)]; omega
    have m2 : (b (s + k).toNat - 97 + 1).toInt = tkb b (s + k) - 96 := by rw [i_add (x := b (s + k).toNat - 97) (y := 1) rfl (by omega) (by omega)]; omega
    have m3 : (Int32.toInt64 (b (s + k).toNat - 97 + 1)).toInt = tkb b (s + k) - 96 := by rw [Int32.toInt_toInt64]; exact m2
    have m4 : (tkcdF b s k * 32).toInt = (tkcdF b s k).toInt * 32 := l_mulc k32 rfl (by omega) (by omega)
    have m5 : (tkcdF b s k * 32 + Int32.toInt64 (b (s + k).toNat - 97 + 1)).toInt = (tkcdF b s k).toInt * 32 + (tkb b (s + k) - 96) := by rw [l_add (x := tkcdF b s k * 32) (y := Int32.toInt64 (b (s + k).toNat - 97 + 1)) rfl (by omega) (by omega), m4, m3]
    have w1 : (27 * tkwdF b s k).toInt = 27 * (tkwdF b s k).toInt := l_cmul k27 rfl (by omega) (by omega)
    have w2 : (Int32.toInt64 (b (s + k).toNat)).toInt = tkb b (s + k) := by rw [Int32.toInt_toInt64]; rfl
    have w3 : (27 * tkwdF b s k + Int32.toInt64 (b (s + k).toNat)).toInt = 27 * (tkwdF b s k).toInt + tkb b (s + k) := by rw [l_add (x := 27 * tkwdF b s k) (y := Int32.toInt64 (b (s + k).toNat)) rfl (by omega) (by omega), w1, w2]
    have w4 : (27 * tkwdF b s k + Int32.toInt64 (b (s + k).toNat) - 96).toInt = 27 * (tkwdF b s k).toInt + tkb b (s + k) - 96 := by rw [l_sub (x := 27 * tkwdF b s k + Int32.toInt64 (b (s + k).toNat)) (y := 96) rfl (by omega) (by omega), w3, k96]
    have e1 : tkcdF b s (k + 1) = tkcdF b s k * 32 + Int32.toInt64 (b (s + k).toNat - 97 + 1) := by
      show (if 97 ≤ tkb b (s + k) ∧ tkb b (s + k) ≤ 122 then _ else _) = _; rw [if_pos hl]
    have e2 : tkwdF b s (k + 1) = 27 * tkwdF b s k + Int32.toInt64 (b (s + k).toNat) - 96 := by
      show (if k < 7 then _ else _) = _; rw [if_pos (by omega)]
    have eB : tkB (k + 1) = 32 * tkB k := rfl
    rw [e1, e2, m5, w4, eB]
    have d1 : ((tkcdF b s k).toInt * 32 + (tkb b (s + k) - 96)) / 32 = (tkcdF b s k).toInt := by omega
    have d2 : ((tkcdF b s k).toInt * 32 + (tkb b (s + k) - 96)) % 32 = tkb b (s + k) - 96 := by omega
    refine ⟨by omega, by omega, by omega, by omega, Or.inr ⟨by omega, by omega, by omega, ?_⟩, ?_⟩
    · rw [d1]; exact i5
    · rw [tkcv_s (by omega), d1, d2, ← i6]; omega
/-- digits alone, three at most: the two numbers -/
theorem tkenn {b : Nat → Int32} {s : Int} : ∀ k : Nat, k ≤ 3 → tkcGF b s k = k → tkn3F b s k = tknmF b s k := by
  intro k
  induction k with
  | zero => intro _ _; rfl
  | succ k ih =>
    intro hk hc
    have hle := tkcGF_le (b := b) (s := s) k
    have hc2 : tkcGF b s k + (if 48 ≤ tkb b (s + k) ∧ tkb b (s + k) ≤ 57 then 1 else 0) = ((k + 1 : Nat) : Int) := hc
    have hl : 48 ≤ tkb b (s + k) ∧ tkb b (s + k) ≤ 57 := by
      by_cases c : 48 ≤ tkb b (s + k) ∧ tkb b (s + k) ≤ 57
      · exact c
      · rw [if_neg c] at hc2; omega
    rw [if_pos hl] at hc2
    have i := ih (by omega) (by omega)
    show (if k < 3 then 10 * tkn3F b s k + b (s + k).toNat - 48 else tkn3F b s k) = (if 48 ≤ tkb b (s + k) ∧ tkb b (s + k) ≤ 57 then tknmF b s k * 10 + (b (s + k).toNat - 48) else tknmF b s k)
    rw [if_pos (by omega), if_pos hl, i, Int32.mul_comm, Int32.sub_eq_add_neg, Int32.sub_eq_add_neg, Int32.add_assoc]
/-- a run is letters and digits -/
theorem tkrnF_all {b : Nat → Int32} {n : Int} : ∀ (q : Nat) (s j : Int), s ≤ j → j < tkrnF b n q s → (97 ≤ tkb b j ∧ tkb b j ≤ 122) ∨ (48 ≤ tkb b j ∧ tkb b j ≤ 57) := by
  intro q
  induction q with
  | zero => intro s j h1 h2; have h2 : j < s := h2; omega
  | succ q ih =>
    intro s j h1 h2
    have h2 : j < (if s < n ∧ ((97 ≤ tkb b s ∧ tkb b s ≤ 122) ∨ (48 ≤ tkb b s ∧ tkb b s ≤ 57)) then tkrnF b n q (s + 1) else s) := h2
    by_cases c : s < n ∧ ((97 ≤ tkb b s ∧ tkb b s ≤ 122) ∨ (48 ≤ tkb b s ∧ tkb b s ≤ 57))
    · rw [if_pos c] at h2
      by_cases e : j = s
      · rw [e]; exact c.2
      · exact ih (s + 1) j (by omega) h2
    · rw [if_neg c] at h2; omega
theorem tkrn_all {b : Nat → Int32} {n s j : Int} (h1 : s ≤ j) (h2 : j < tkrn b n s) : (97 ≤ tkb b j ∧ tkb b j ≤ 122) ∨ (48 ≤ tkb b j ∧ tkb b j ≤ 57) := tkrnF_all _ s j h1 h2
theorem tkcLG {b : Nat → Int32} {s : Int} : ∀ k : Nat, (∀ j : Nat, j < k → (97 ≤ tkb b (s + j) ∧ tkb b (s + j) ≤ 122) ∨ (48 ≤ tkb b (s + j) ∧ tkb b (s + j) ≤ 57)) → tkcLF b s k + tkcGF b s k = k := by
  intro k
  induction k with
  | zero => intro _; rfl
  | succ k ih =>
    intro h
    have i := ih (fun j hj => h j (by omega))
    have c := h k (by omega)
    show tkcLF b s k + (if 97 ≤ tkb b (s + k) ∧ tkb b (s + k) ≤ 122 then 1 else 0) + (tkcGF b s k + (if 48 ≤ tkb b (s + k) ∧ tkb b (s + k) ≤ 57 then 1 else 0)) = ((k + 1 : Nat) : Int)
    by_cases c1 : 97 ≤ tkb b (s + k) ∧ tkb b (s + k) ≤ 122
    · rw [if_pos c1, if_neg (by omega)]; omega
    · rw [if_neg c1, if_pos (by omega)]; omega
theorem tkcLGr {b : Nat → Int32} {n s : Int} : tkcL b s (tkrn b n s) + tkcG b s (tkrn b n s) = tkrn b n s - s := by
  have h := tkrn_ge (b := b) (n := n) (a := s)
  have := tkcLG (b := b) (s := s) (tkrn b n s - s).toNat (fun j hj => tkrn_all (n := n) (s := s) (by omega) (by omega))
  unfold tkcL tkcG; omega
theorem tkK_run {b : Nat → Int32} {n lim a : Int} (h : tkK b n lim a = 1 ∨ tkK b n lim a = 2) : ((tkK b n lim a = 1 ∧ tkcG b (tksk b n a) (tkrn b n (tksk b n a)) = 0 ∧ tkcL b (tksk b n a) (tkrn b n (tksk b n a)) ≤ 7) ∨ (tkK b n lim a = 2 ∧ tkcL b (tksk b n a) (tkrn b n (tksk b n a)) = 0 ∧ tkcG b (tksk b n a) (tkrn b n (tksk b n a)) ≤ 3)) := by
  by_cases c1 : lim < n ∧ lim ≤ tksk b n a
  · have := (tok_over rfl c1).1; omega
  by_cases c2 : n ≤ tksk b n a
  · have := (tok_fin rfl c1 c2).1; omega
  by_cases c3 : (97 ≤ tkb b (tksk b n a) ∧ tkb b (tksk b n a) ≤ 122) ∨ (48 ≤ tkb b (tksk b n a) ∧ tkb b (tksk b n a) ≤ 57)
  · have := (tok_run (lim := lim) rfl c1 (by omega) c3 rfl).1; omega
  by_cases c4 : tkb b (tksk b n a) = 59 ∨ tkb b (tksk b n a) = 60 ∨ tkb b (tksk b n a) = 61 ∨ tkb b (tksk b n a) = 62 ∨ tkb b (tksk b n a) = 40 ∨ tkb b (tksk b n a) = 41
  · have := (tok_sign (lim := lim) rfl c1 (by omega) c4).1; omega
  · have := (tok_bad (lim := lim) rfl c1 (by omega) c3 c4).1; omega
/-- a word: its code, and the other one -/
theorem tkword {b : Nat → Int32} {n lim a : Int} (h : tkK b n lim a = 1) : tkvc 7 (tkC b n a).toInt ∧ (tkD b n a).toInt = tkcv 7 (tkC b n a).toInt := by
  have h1 := tkK_run (Or.inl h)
  have h2 := tkcLGr (b := b) (n := n) (s := tksk b n a)
  have h3 := tkrn_ge (b := b) (n := n) (a := tksk b n a)
  obtain ⟨k, hk⟩ : ∃ k : Nat, (tkrn b n (tksk b n a) - tksk b n a).toNat = k := ⟨_, rfl⟩
  have h4 : tkcLF b (tksk b n a) k = k := by rw [← hk]; unfold tkcL tkcG at h1 h2; omega
  have h5 : k ≤ 7 := by rw [← hk]; omega
  obtain ⟨_, _, _, _, e5, e6⟩ := tkenc k h5 h4
  unfold tkC tkD tkcd tkwd
  rw [hk]
  obtain ⟨j, hj⟩ : ∃ j : Nat, k + j = 7 := ⟨7 - k, by omega⟩
  have q := tkvc_to j k e5
  rw [hj] at q
  exact ⟨q.1, e6.trans q.2.symm⟩
theorem tknumb {b : Nat → Int32} {n lim a : Int} (h : tkK b n lim a = 2) : tkn3 b (tksk b n a) (tkrn b n (tksk b n a)) = tkVi b n a := by
  have h1 := tkK_run (Or.inr h)
  have h2 := tkcLGr (b := b) (n := n) (s := tksk b n a)
  have h3 := tkrn_ge (b := b) (n := n) (a := tksk b n a)
  obtain ⟨k, hk⟩ : ∃ k : Nat, (tkrn b n (tksk b n a) - tksk b n a).toNat = k := ⟨_, rfl⟩
  have h4 : tkcGF b (tksk b n a) k = k := by rw [← hk]; unfold tkcL tkcG at h1 h2; omega
  have h5 : k ≤ 3 := by rw [← hk]; omega
  unfold tkn3 tkVi tknm
  rw [hk]; exact tkenn k h5 h4
theorem tkWTv : ∀ j : Nat, j < 29 → (tkMT j).toInt = tkcv 7 (tkWT j).toInt := by decide
def tkvcb : Nat → Int → Bool
  | 0, c => decide (c = 0)
  | k + 1, c => decide (c = 0) || (decide (0 < c) && decide (1 ≤ c % 32) && decide (c % 32 ≤ 26) && tkvcb k (c / 32))
theorem tkvcb_of : ∀ (k : Nat) (c : Int), tkvcb k c = true → tkvc k c := by
  intro k
  induction k with
  | zero => intro c h; show c = 0; exact of_decide_eq_true (p := c = 0) h
  | succ k ih =>
    intro c h
    have h : (decide (c = 0) || (decide (0 < c) && decide (1 ≤ c % 32) && decide (c % 32 ≤ 26) && tkvcb k (c / 32))) = true := h
    rw [Bool.or_eq_true, Bool.and_eq_true, Bool.and_eq_true, Bool.and_eq_true] at h
    rcases h with h | ⟨⟨⟨h1, h2⟩, h3⟩, h4⟩
    · exact Or.inl (of_decide_eq_true h)
    · exact Or.inr ⟨of_decide_eq_true h1, of_decide_eq_true h2, of_decide_eq_true h3, ih _ h4⟩
theorem tkWTb : ∀ j : Nat, j < 29 → tkvcb 7 (tkWT j).toInt = true := by decide
/-- two codes of words are alike where the others are -/
theorem tkcode_iff {c d v w : Int64} (h1 : tkvc 7 c.toInt) (e1 : v.toInt = tkcv 7 c.toInt) (h2 : tkvc 7 d.toInt) (e2 : w.toInt = tkcv 7 d.toInt) : c = d ↔ v = w := by
  constructor
  · intro e; exact l_eq.mpr (by rw [e1, e2, e])
  · intro e; exact l_eq.mpr (tkcv_inj 7 _ _ h1 h2 (by rw [← e1, ← e2, e]))
theorem tkMW_word {b : Nat → Int32} {n lim a : Int} (h : tkK b n lim a = 1) : tksr tkMT 0 (tkD b n a) 29 0 = tkW b n lim a := by
  rw [tkW_word h]
  have hw := tkword h
  refine tksr_like (fun j h1 h2 => ?_)
  exact (tkcode_iff (tkvcb_of 7 _ (tkWTb _ (by omega))) (tkWTv _ (by omega)) hw.1 hw.2).symm
theorem tkMT_ix : ∀ j : Nat, j < 29 → tksr tkMT 0 (tkMT j) 29 0 = j := by decide
theorem tkMW_is {kd : Int} {w : Int64} (j : Nat) (hj : j < 29) (hk : kd = 2) : tkMW kd w = j ↔ w = tkMT j := by
  unfold tkMW
  rw [if_pos hk]
  constructor
  · intro e
    rcases tksr_all (f := tkMT) (o := 0) (c := w) (n := 29) _ 0 (Nat.le_refl _) with h | h
    · omega
    · rw [e] at h; have := h.2.2.1; rw [Int.zero_add] at this; exact this.symm
  · intro e; rw [e]; exact tkMT_ix j hj
theorem tkMW_not {kd : Int} {w : Int64} (hk : ¬ (kd = 2)) : tkMW kd w = -1 := by unfold tkMW; rw [if_neg hk]
def tkNW (w : Int64) (k : Int) : Prop := ∀ j : Int, 0 ≤ j → j < k → ¬ (w.toInt = tkMM j)
theorem tkNW_0 {w : Int64} : tkNW w 0 := fun j h1 h2 => absurd h2 (by omega)
theorem tkNW_s {w : Int64} {k : Int} (h : tkNW w k) (hk : ¬ (w.toInt = tkMM k)) : tkNW w (k + 1) := by
  intro j h1 h2
  by_cases e : j = k
  · rw [e]; exact hk
  · exact h j h1 (by omega)
theorem tkPMr : ∀ j : Nat, j < 29 → (0 ≤ tkPM j ∧ tkPM j < 29 ∧ (tkMT (tkPM j).toNat).toInt = tkMM j) := by decide
theorem tkPMs : ∀ j : Nat, j < 29 → ∃ i : Nat, i < 29 ∧ tkMM i = (tkMT j).toInt := by
  have h : ∀ j : Nat, j < 29 → tkMM (([0, 1, 2, 3, 4, 5, 6, 7, 19, 8, 9, 10, 11, 12, 13, 14, 15, 16, 17, 18, 20, 21, 22, 23, 24, 25, 26, 27, 28] : List Nat).getD j 0) = (tkMT j).toInt ∧ ([0, 1, 2, 3, 4, 5, 6, 7, 19, 8, 9, 10, 11, 12, 13, 14, 15, 16, 17, 18, 20, 21, 22, 23, 24, 25, 26, 27, 28] : List Nat).getD j 0 < 29 := by decide
  intro j hj
  exact ⟨_, (h j hj).2, (h j hj).1⟩
theorem tkNW_no {w : Int64} (h : tkNW w 29) {kd : Int} : tkMW kd w = -1 := by
  unfold tkMW
  split
  · rcases tksr_all (f := tkMT) (o := 0) (c := w) (n := 29) _ 0 (Nat.le_refl _) with q | q
    · exact q.1
    · exfalso
      obtain ⟨q1, q2, q3, _⟩ := q
      obtain ⟨i, hi, e⟩ := tkPMs (0 + tksr tkMT 0 w 29 0).toNat (by omega)
      exact h i (by omega) (by omega) (by rw [e, q3])
  · rfl
theorem tkNW_yes {w : Int64} {k kd : Int} (h0 : 0 ≤ k) (h1 : k < 29) (hk : kd = 2) (e : w.toInt = tkMM k) : ¬ (tkMW kd w = -1) := by
  have q := tkPMr k.toNat (by omega)
  rw [show ((k.toNat : Nat) : Int) = k by omega] at q
  have := (tkMW_is (kd := kd) (w := w) (tkPM k).toNat (by omega) hk).mpr (l_eq.mpr (e.trans q.2.2.symm))
  omega
def tkDd (b : Nat → Int32) (n lim a : Int) (w : Int64) : Prop := tkK b n lim a = 1 → w = tkD b n a
theorem tkDd.at {b : Nat → Int32} {n lim a : Int} {c : Int64} (h : tkDd b n lim a c) (hk : tkK b n lim a = 1) : c = tkD b n a := h hk
theorem tkMW_at {b : Nat → Int32} {n lim a kd : Int} {w : Int64} (hk : kd = 2) (hw : w = tkD b n a) (h : tkK b n lim a = 1) : tkMW kd w = tkW b n lim a := by
  unfold tkMW; rw [if_pos hk, hw]; exact tkMW_word h
theorem tkMW_isI {kd j : Int} {w : Int64} (h0 : 0 ≤ j) (hj : j < 29) (hk : kd = 2) : tkMW kd w = j ↔ w = tkMT j.toNat := by
  have := tkMW_is (kd := kd) (w := w) j.toNat (by omega) hk
  rw [show ((j.toNat : Nat) : Int) = j by omega] at this; exact this
theorem tkrowo {f : Nat → Int64} {x : Int32} {y : Int64} {b k : Int} (e : y = f x.toNatClampNeg) (h : x.toInt = b + k) : f (b + k).toNat = y := by
  rw [e, ← h]; rfl
theorem tkinc {f f1 f2 : Nat → Int32} {z z1 v x : Int32} {K : Nat} (i : Nat) (e1 : f1 = upd f K v) (hK : i ≠ K) (hx : x.toNatClampNeg = i) (ez : z = f1 x.toNatClampNeg) (ez1 : z1 = z + 1) (e2 : f2 = upd f1 x.toNatClampNeg z1) : f2 = upd (upd f K v) i (f i + 1) := by
  rw [hx] at ez e2
  rw [e2, ez1, ez, e1, pk_un hK]
theorem tkinc2 {f f1 f2 : Nat → Int32} {z z1 v v1 x : Int32} {K K1 : Nat} (i : Nat) (e1 : f1 = upd (upd f K1 v1) K v) (hK : i ≠ K) (hK1 : i ≠ K1) (hx : x.toNatClampNeg = i) (ez : z = f1 x.toNatClampNeg) (ez1 : z1 = z + 1) (e2 : f2 = upd f1 x.toNatClampNeg z1) : f2 = upd (upd (upd f K1 v1) K v) i (f i + 1) := by
  rw [tkinc i e1 hK hx ez ez1 e2, pk_un hK1]
theorem tkMW_mk {kd sg j : Int} {w : Int64} (h : tkMW kd w = j) (h0 : 0 ≤ j) : tkMK kd sg = 1 := by
  by_cases c : kd = 2
  · have := tkMK_def kd sg; omega
  · have := tkMW_not (w := w) c; omega
theorem tkKinU_ofo {f f1 f2 : Nat → Int32} {x y p q z1 w1 v1 z2 w2 v2 : Int32} {o m1 m2 : Int} (hx : x.toInt = o + m1) (hy : y.toInt = o + m2) (hp : p.toInt = m1) (hq : q.toInt = m2) (ez1 : z1 = f x.toNatClampNeg) (ew1 : w1 = (1 : Int32) <<< (q &&& 31)) (ev1 : v1 = z1 ||| w1) (e1 : f1 = upd f x.toNatClampNeg v1) (ez2 : z2 = f1 y.toNatClampNeg) (ew2 : w2 = (1 : Int32) <<< (p &&& 31)) (ev2 : v2 = z2 ||| w2) (e2 : f2 = upd f1 y.toNatClampNeg v2) : f2 = tkKinU f o m1 m2 := by
  subst hp hq
  have hx2 : x.toNatClampNeg = (o + p.toInt).toNat := by rw [← hx]; rfl
  have hy2 : y.toNatClampNeg = (o + q.toInt).toNat := by rw [← hy]; rfl
  unfold tkKinU tkBit
  rw [hx2] at ez1 e1
  rw [hy2] at ez2 e2
  rw [Int32.ofInt_toInt, Int32.ofInt_toInt, e2, ev2, ez2, ew2, e1, ev1, ez1, ew1]
def tkF5 (x2 x3 L G : Int) : Prop := (x2 = 1 ∧ ((x3 = 1 ∧ G = 0) ∨ (x3 = 0 ∧ 1 ≤ G))) ∨ (x2 = 0 ∧ ((x3 = 1 ∧ L = 0) ∨ (x3 = 0 ∧ 1 ≤ L)))
def tkF6 (x2 to fr L G : Int) : Prop := (x2 = 1 ∧ (to = fr ∨ 1 ≤ L)) ∨ (x2 = 0 ∧ (to = fr ∨ 1 ≤ G))
def tkF7 (x x3 x2 d : Int) : Prop := (x = 1 ∧ x3 = 1 ∧ ((x2 = 1 ∧ 97 ≤ d ∧ d ≤ 122) ∨ (x2 = 0 ∧ ¬ (97 ≤ d ∧ d ≤ 122)))) ∨ (x = 0 ∧ (x3 = 0 ∨ (x2 = 1 ∧ ¬ (97 ≤ d ∧ d ≤ 122)) ∨ (x2 = 0 ∧ 97 ≤ d ∧ d ≤ 122)))
