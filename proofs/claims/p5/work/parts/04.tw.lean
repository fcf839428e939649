def tkWT : Nat → Int64 := fun i => ([13358, 136356, 245220, 3745189, 4388, 11566, 515251, 17172101, 6333908, 146611, 12761235, 19516803539, 2670280435, 526131, 632467, 824370, 498, 1476, 14836, 627886, 218508, 21015726, 13067494855, 8243, 44334, 24389253, 132683, 1253, 492210354] : List Int64).getD i 0
def tkMT : Nat → Int64 := fun i => ([9518, 82516, 149125, 1955534, 3163, 8276, 312166, 8740526, 3215288, 89821, 6486040, 7056369019, 1000006390, 316351, 381097, 495765, 423, 1111, 10631, 377771, 133743, 10656671, 4728316255, 5878, 27959, 12387713, 79958, 923, 212302449] : List Int64).getD i 0
/-- the reference's words by its own numbers -/
def tkMM : Int → Int := fun k => ([9518, 82516, 149125, 1955534, 3163, 8276, 312166, 8740526, 89821, 6486040, 7056369019, 1000006390, 316351, 381097, 495765, 423, 1111, 10631, 377771, 3215288, 133743, 10656671, 4728316255, 5878, 27959, 12387713, 79958, 923, 212302449] : List Int).getD k.toNat 0
def tkPM : Int → Int := fun k => ([0, 1, 2, 3, 4, 5, 6, 7, 9, 10, 11, 12, 13, 14, 15, 16, 17, 18, 19, 8, 20, 21, 22, 23, 24, 25, 26, 27, 28] : List Int).getD k.toNat 0
def tkWC (f : Nat → Int64) : Prop := ∀ j : Nat, j < 29 → f j = tkWT j
def tkK (b : Nat → Int32) (n lim a : Int) : Int :=
  if lim < n ∧ lim ≤ tksk b n a then 0
  else if n ≤ tksk b n a then 3
  else if (97 ≤ tkb b (tksk b n a) ∧ tkb b (tksk b n a) ≤ 122) ∨ (48 ≤ tkb b (tksk b n a) ∧ tkb b (tksk b n a) ≤ 57) then
    (if tkcG b (tksk b n a) (tkrn b n (tksk b n a)) = 0 ∧ tkcL b (tksk b n a) (tkrn b n (tksk b n a)) ≤ 7 then 1
     else if tkcL b (tksk b n a) (tkrn b n (tksk b n a)) = 0 ∧ tkcG b (tksk b n a) (tkrn b n (tksk b n a)) ≤ 3 then 2 else 0)
  else if tkb b (tksk b n a) = 59 ∨ tkb b (tksk b n a) = 60 ∨ tkb b (tksk b n a) = 61 ∨ tkb b (tksk b n a) = 62 ∨ tkb b (tksk b n a) = 40 ∨ tkb b (tksk b n a) = 41 then tkb b (tksk b n a) else 0
def tkS (b : Nat → Int32) (n lim a : Int) : Int := if lim < n ∧ lim ≤ tksk b n a then lim else tksk b n a
def tkN (b : Nat → Int32) (n lim a : Int) : Int :=
  if lim < n ∧ lim ≤ tksk b n a then tksk b n a
  else if n ≤ tksk b n a then tksk b n a
  else if (97 ≤ tkb b (tksk b n a) ∧ tkb b (tksk b n a) ≤ 122) ∨ (48 ≤ tkb b (tksk b n a) ∧ tkb b (tksk b n a) ≤ 57) then tkrn b n (tksk b n a)
  else tksk b n a + 1
def tkC (b : Nat → Int32) (n a : Int) : Int64 := tkcd b (tksk b n a) (tkrn b n (tksk b n a))
def tkVi (b : Nat → Int32) (n a : Int) : Int32 := tknm b (tksk b n a) (tkrn b n (tksk b n a))
def tkD (b : Nat → Int32) (n a : Int) : Int64 := tkwd b (tksk b n a) (tkrn b n (tksk b n a))
def tkWm (c : Int64) : Int := tksr tkWT 0 c 29 0
def tkW (b : Nat → Int32) (n lim a : Int) : Int := if tkK b n lim a = 1 then tkWm (tkC b n a) else -1
def tkCd (b : Nat → Int32) (n lim a : Int) (c : Int64) : Prop := tkK b n lim a = 1 → c = tkC b n a
theorem tkCd.at {b : Nat → Int32} {n lim a : Int} {c : Int64} (h : tkCd b n lim a c) (hk : tkK b n lim a = 1) : c = tkC b n a := h hk
theorem tok_over {b : Nat → Int32} {n lim a s : Int} (hs : tksk b n a = s) (h : lim < n ∧ lim ≤ s) : tkK b n lim a = 0 ∧ tkS b n lim a = lim ∧ tkN b n lim a = s ∧ tkW b n lim a = -1 := by
  have hK : tkK b n lim a = 0 := by unfold tkK; rw [hs, if_pos h]
  refine ⟨hK, ?_, ?_, ?_⟩
  · unfold tkS; rw [hs, if_pos h]
  · unfold tkN; rw [hs, if_pos h]
  · unfold tkW; rw [hK, if_neg (by decide)]
theorem tok_fin {b : Nat → Int32} {n lim a s : Int} (hs : tksk b n a = s) (h : ¬ (lim < n ∧ lim ≤ s)) (h2 : n ≤ s) : tkK b n lim a = 3 ∧ tkS b n lim a = s ∧ tkN b n lim a = s ∧ tkW b n lim a = -1 := by
  have hK : tkK b n lim a = 3 := by unfold tkK; rw [hs, if_neg h, if_pos h2]
  refine ⟨hK, ?_, ?_, ?_⟩
  · unfold tkS; rw [hs, if_neg h]
  · unfold tkN; rw [hs, if_neg h, if_pos h2]
  · unfold tkW; rw [hK, if_neg (by decide)]
theorem tok_sign {b : Nat → Int32} {n lim a s : Int} (hs : tksk b n a = s) (h : ¬ (lim < n ∧ lim ≤ s)) (h2 : s < n) (hg : tkb b s = 59 ∨ tkb b s = 60 ∨ tkb b s = 61 ∨ tkb b s = 62 ∨ tkb b s = 40 ∨ tkb b s = 41) : tkK b n lim a = tkb b s ∧ tkS b n lim a = s ∧ tkN b n lim a = s + 1 ∧ tkW b n lim a = -1 := by
  have hr : ¬ ((97 ≤ tkb b s ∧ tkb b s ≤ 122) ∨ (48 ≤ tkb b s ∧ tkb b s ≤ 57)) := by omega
  have hK : tkK b n lim a = tkb b s := by unfold tkK; rw [hs, if_neg h, if_neg (by omega), if_neg hr, if_pos hg]
  refine ⟨hK, ?_, ?_, ?_⟩
  · unfold tkS; rw [hs, if_neg h]
  · unfold tkN; rw [hs, if_neg h, if_neg (by omega), if_neg hr]
  · unfold tkW; rw [hK, if_neg (by omega)]
theorem tok_bad {b : Nat → Int32} {n lim a s : Int} (hs : tksk b n a = s) (h : ¬ (lim < n ∧ lim ≤ s)) (h2 : s < n) (hr : ¬ ((97 ≤ tkb b s ∧ tkb b s ≤ 122) ∨ (48 ≤ tkb b s ∧ tkb b s ≤ 57))) (hg : ¬ (tkb b s = 59 ∨ tkb b s = 60 ∨ tkb b s = 61 ∨ tkb b s = 62 ∨ tkb b s = 40 ∨ tkb b s = 41)) : tkK b n lim a = 0 ∧ tkS b n lim a = s ∧ tkN b n lim a = s + 1 ∧ tkW b n lim a = -1 := by
  have hK : tkK b n lim a = 0 := by unfold tkK; rw [hs, if_neg h, if_neg (by omega), if_neg hr, if_neg hg]
  refine ⟨hK, ?_, ?_, ?_⟩
  · unfold tkS; rw [hs, if_neg h]
  · unfold tkN; rw [hs, if_neg h, if_neg (by omega), if_neg hr]
  · unfold tkW; rw [hK, if_neg (by decide)]
theorem tok_run {b : Nat → Int32} {n lim a s e : Int} (hs : tksk b n a = s) (h : ¬ (lim < n ∧ lim ≤ s)) (h2 : s < n) (hr : (97 ≤ tkb b s ∧ tkb b s ≤ 122) ∨ (48 ≤ tkb b s ∧ tkb b s ≤ 57)) (he : tkrn b n s = e) :
    ((tkcG b s e = 0 ∧ tkcL b s e ≤ 7 ∧ tkK b n lim a = 1) ∨ (¬ (tkcG b s e = 0 ∧ tkcL b s e ≤ 7) ∧ tkcL b s e = 0 ∧ tkcG b s e ≤ 3 ∧ tkK b n lim a = 2) ∨ (¬ (tkcG b s e = 0 ∧ tkcL b s e ≤ 7) ∧ ¬ (tkcL b s e = 0 ∧ tkcG b s e ≤ 3) ∧ tkK b n lim a = 0)) ∧ tkS b n lim a = s ∧ tkN b n lim a = e ∧ tkC b n a = tkcd b s e ∧ tkVi b n a = tknm b s e ∧ tkD b n a = tkwd b s e := by
  refine ⟨?_, ?_, ?_, ?_, ?_, ?_⟩
  · unfold tkK; rw [hs, he, if_neg h, if_neg (by omega), if_pos hr]
    by_cases c1 : tkcG b s e = 0 ∧ tkcL b s e ≤ 7
    · rw [if_pos c1]; exact Or.inl ⟨c1.1, c1.2, rfl⟩
    · rw [if_neg c1]
      by_cases c2 : tkcL b s e = 0 ∧ tkcG b s e ≤ 3
      · rw [if_pos c2]; exact Or.inr (Or.inl ⟨c1, c2.1, c2.2, rfl⟩)
      · rw [if_neg c2]; exact Or.inr (Or.inr ⟨c1, c2, rfl⟩)
  · unfold tkS; rw [hs, if_neg h]
  · unfold tkN; rw [hs, he, if_neg h, if_neg (by omega), if_pos hr]
  · unfold tkC; rw [hs, he]
  · unfold tkVi; rw [hs, he]
  · unfold tkD; rw [hs, he]
theorem tkW_word {b : Nat → Int32} {n lim a : Int} (h : tkK b n lim a = 1) : tkW b n lim a = tkWm (tkC b n a) := by unfold tkW; rw [if_pos h]
theorem tkW_no {b : Nat → Int32} {n lim a : Int} (h : ¬ (tkK b n lim a = 1)) : tkW b n lim a = -1 := by unfold tkW; rw [if_neg h]
theorem tkW_rg {b : Nat → Int32} {n lim a : Int} : tkW b n lim a = -1 ∨ (0 ≤ tkW b n lim a ∧ tkW b n lim a < 29 ∧ tkK b n lim a = 1) := by
  by_cases c : tkK b n lim a = 1
  · rw [tkW_word c]
    rcases tksr_rg (f := tkWT) (o := 0) (c := tkC b n a) (n := 29) with h | h
    · exact Or.inl h
    · exact Or.inr ⟨h.1, h.2, c⟩
  · exact Or.inl (tkW_no c)
theorem tkN_ge {b : Nat → Int32} {n lim a : Int} : a ≤ tkN b n lim a ∧ (a ≤ n → tkN b n lim a ≤ n) ∧ (tkK b n lim a ≠ 0 → tkK b n lim a ≠ 3 → a + 1 ≤ tkN b n lim a) := by
  have h1 := tksk_ge (b := b) (n := n) (a := a)
  have h2 := tkrn_ge (b := b) (n := n) (a := tksk b n a)
  by_cases c1 : lim < n ∧ lim ≤ tksk b n a
  · have := tok_over rfl c1
    exact ⟨by omega, fun _ => by omega, fun z => absurd this.1 z⟩
  by_cases c2 : n ≤ tksk b n a
  · have := tok_fin rfl c1 c2
    exact ⟨by omega, fun _ => by omega, fun _ z => absurd this.1 z⟩
  by_cases c3 : (97 ≤ tkb b (tksk b n a) ∧ tkb b (tksk b n a) ≤ 122) ∨ (48 ≤ tkb b (tksk b n a) ∧ tkb b (tksk b n a) ≤ 57)
  · have := (tok_run (lim := lim) rfl c1 (by omega) c3 rfl).2.2.1
    have h3 := tkrn_gt (n := n) (by omega) c3
    exact ⟨by omega, fun _ => by omega, fun _ _ => by omega⟩
  · have h4 : tkN b n lim a = tksk b n a + 1 := by unfold tkN; rw [if_neg c1, if_neg c2, if_neg c3]
    exact ⟨by omega, fun _ => by omega, fun _ _ => by omega⟩
theorem tkWC.like {f : Nat → Int64} (h : tkWC f) (c : Int64) : tksr f 0 c 29 0 = tkWm c := by
  refine tksr_like (fun j h1 h2 => ?_)
  rw [h (0 + j).toNat (by omega)]
