def bkNm (b : Nat → Int32) (n lim : Int) (f : Int → Int) (p k pl q2 : Int) : Prop := (¬ (tkK b n lim p = 1 ∧ tkW b n lim p = -1) ∧ k = 1 ∧ pl = tkS b n lim p) ∨ ((tkK b n lim p = 1 ∧ tkW b n lim p = -1) ∧ f p = -1 ∧ k = 3 ∧ pl = tkS b n lim p) ∨ ((tkK b n lim p = 1 ∧ tkW b n lim p = -1) ∧ f p ≠ -1 ∧ k = 0 ∧ q2 = (tkN b n lim p))
def bkNu (b : Nat → Int32) (n lim : Int) (lo hi p k pl q2 : Int) : Prop := (tkK b n lim p ≠ 2 ∧ k = 1 ∧ pl = tkS b n lim p) ∨ (tkK b n lim p = 2 ∧ ((tkVi b n p).toInt < lo ∨ hi < (tkVi b n p).toInt) ∧ k = 2 ∧ pl = tkS b n lim p) ∨ (tkK b n lim p = 2 ∧ lo ≤ (tkVi b n p).toInt ∧ (tkVi b n p).toInt ≤ hi ∧ k = 0 ∧ q2 = (tkN b n lim p))
def bkVb (b : Nat → Int32) (n lim : Int) (mf df : Int → Int) (p k pl q2 : Int) : Prop := (tkW b n lim p = 9 ∧ bkNm b n lim df (tkN b n lim p) k pl q2) ∨ (tkW b n lim p = 10 ∧ ∃ k1 pl1 r1 : Int, bkNm b n lim mf (tkN b n lim p) k1 pl1 r1 ∧ ((k1 ≠ 0 ∧ k = k1 ∧ pl = pl1) ∨ (k1 = 0 ∧ bkNm b n lim df r1 k pl q2))) ∨ ((tkW b n lim p = 12 ∨ tkW b n lim p = 13) ∧ ∃ k1 pl1 r1 : Int, bkNm b n lim mf (tkN b n lim p) k1 pl1 r1 ∧ ((k1 ≠ 0 ∧ k = k1 ∧ pl = pl1) ∨ (k1 = 0 ∧ bkNu b n lim 1 40 r1 k pl q2))) ∨ ((tkW b n lim p = 11 ∨ tkW b n lim p = 14) ∧ k = 0 ∧ q2 = (tkN b n lim p)) ∨ (¬ (9 ≤ tkW b n lim p ∧ tkW b n lim p ≤ 14) ∧ k = 1 ∧ pl = tkS b n lim p)
def bkLn (b : Nat → Int32) (n lim : Int) (mf df : Int → Int) (ls p k pl q2 : Int) : Prop := (tkW b n lim p ≠ 15 ∧ ¬ (tkK b n lim p = 1 ∧ tkW b n lim p = -1) ∧ k = 1 ∧ pl = tkS b n lim p) ∨ (tkW b n lim p ≠ 15 ∧ (tkK b n lim p = 1 ∧ tkW b n lim p = -1) ∧ mf p = -1 ∧ k = 3 ∧ pl = tkS b n lim p) ∨ ((tkW b n lim p = 15 ∨ ((tkK b n lim p = 1 ∧ tkW b n lim p = -1) ∧ mf p ≠ -1)) ∧ 40 ≤ ls ∧ k = 4 ∧ pl = tkS b n lim p) ∨ (tkW b n lim p = 15 ∧ ls < 40 ∧ bkNu b n lim 1 30 (tkN b n lim p) k pl q2) ∨ (tkW b n lim p ≠ 15 ∧ (tkK b n lim p = 1 ∧ tkW b n lim p = -1) ∧ mf p ≠ -1 ∧ ls < 40 ∧ bkVb b n lim mf df (tkN b n lim p) k pl q2)
def bkR (b : Nat → Int32) (n lim : Int) (mf df : Int → Int) : Nat → Int → Int → Int → Int → Prop
  | 0 => fun _ _ _ _ => False
  | q + 1 => fun ls p k pl => (tkK b n lim p = 3 ∧ k = 0) ∨ (tkK b n lim p ≠ 3 ∧ ∃ k1 pl1 r1 : Int, bkLn b n lim mf df ls p k1 pl1 r1 ∧ ((k1 ≠ 0 ∧ k = k1 ∧ pl = pl1) ∨ (k1 = 0 ∧ tkK b n lim r1 ≠ 59 ∧ k = 1 ∧ pl = tkS b n lim r1) ∨ (k1 = 0 ∧ tkK b n lim r1 = 59 ∧ bkR b n lim mf df q (ls + 1) (tkN b n lim r1) k pl)))
theorem bkNm_det {b : Nat → Int32} {n lim : Int} {f : Int → Int} {p k pl q2 k' pl' q2' : Int} (h : bkNm b n lim f p k pl q2) (h' : bkNm b n lim f p k' pl' q2') : k = k' ∧ (k ≠ 0 → pl = pl') ∧ (k = 0 → q2 = q2') := by
  unfold bkNm at h h'
  rcases h with h | h | h <;> rcases h' with h' | h' | h' <;> first | (exfalso; omega) | exact ⟨by omega, fun _ => by omega, fun _ => by omega⟩
theorem bkNu_det {b : Nat → Int32} {n lim : Int} {lo hi : Int} {p k pl q2 k' pl' q2' : Int} (h : bkNu b n lim lo hi p k pl q2) (h' : bkNu b n lim lo hi p k' pl' q2') : k = k' ∧ (k ≠ 0 → pl = pl') ∧ (k = 0 → q2 = q2') := by
  unfold bkNu at h h'
  rcases h with h | h | h <;> rcases h' with h' | h' | h' <;> first | (exfalso; omega) | exact ⟨by omega, fun _ => by omega, fun _ => by omega⟩
theorem bkSq_det {P : Int → Int → Int → Prop} {Q : Int → Int → Int → Int → Prop} (hP : ∀ k pl q2 k' pl' q2' : Int, P k pl q2 → P k' pl' q2' → k = k' ∧ (k ≠ 0 → pl = pl') ∧ (k = 0 → q2 = q2')) (hQ : ∀ r k pl q2 k' pl' q2' : Int, Q r k pl q2 → Q r k' pl' q2' → k = k' ∧ (k ≠ 0 → pl = pl') ∧ (k = 0 → q2 = q2')) {k pl q2 k' pl' q2' : Int} (h : ∃ k1 pl1 r1 : Int, P k1 pl1 r1 ∧ ((k1 ≠ 0 ∧ k = k1 ∧ pl = pl1) ∨ (k1 = 0 ∧ Q r1 k pl q2))) (h' : ∃ k1 pl1 r1 : Int, P k1 pl1 r1 ∧ ((k1 ≠ 0 ∧ k' = k1 ∧ pl' = pl1) ∨ (k1 = 0 ∧ Q r1 k' pl' q2'))) : k = k' ∧ (k ≠ 0 → pl = pl') ∧ (k = 0 → q2 = q2') := by
  obtain ⟨k1, pl1, r1, h1, h2⟩ := h
  obtain ⟨k1', pl1', r1', h1', h2'⟩ := h'
  obtain ⟨e1, e2, e3⟩ := hP _ _ _ _ _ _ h1 h1'
  rcases h2 with ⟨a, a2, a3⟩ | ⟨a, a2⟩ <;> rcases h2' with ⟨c, c2, c3⟩ | ⟨c, c2⟩
  · exact ⟨by omega, fun _ => by rw [a3, c3]; exact e2 a, fun z => absurd z (by omega)⟩
  · exact absurd (e1.trans c) a
  · exact absurd (e1.symm.trans a) c
  · have z1 := e3 a
    subst z1
    exact hQ _ _ _ _ _ _ _ a2 c2
theorem bkVb_det {b : Nat → Int32} {n lim : Int} {mf df : Int → Int} {p k pl q2 k' pl' q2' : Int} (h : bkVb b n lim mf df p k pl q2) (h' : bkVb b n lim mf df p k' pl' q2') : k = k' ∧ (k ≠ 0 → pl = pl') ∧ (k = 0 → q2 = q2') := by
  unfold bkVb at h h'
  rcases h with ⟨e, h⟩ | ⟨e, h⟩ | ⟨e, h⟩ | ⟨e, h⟩ | ⟨e, h⟩ <;> rcases h' with ⟨e', h'⟩ | ⟨e', h'⟩ | ⟨e', h'⟩ | ⟨e', h'⟩ | ⟨e', h'⟩ <;> first | (exfalso; omega) | exact bkNm_det h h' | exact bkSq_det (P := fun k pl q2 => bkNm b n lim mf (tkN b n lim p) k pl q2) (Q := fun r k pl q2 => bkNm b n lim df r k pl q2) (fun _ _ _ _ _ _ a c => bkNm_det a c) (fun _ _ _ _ _ _ _ a c => bkNm_det a c) h h' | exact bkSq_det (P := fun k pl q2 => bkNm b n lim mf (tkN b n lim p) k pl q2) (Q := fun r k pl q2 => bkNu b n lim 1 40 r k pl q2) (fun _ _ _ _ _ _ a c => bkNm_det a c) (fun _ _ _ _ _ _ _ a c => bkNu_det a c) h h' | exact ⟨by omega, fun _ => by omega, fun _ => by omega⟩
theorem bkLn_det {b : Nat → Int32} {n lim : Int} {mf df : Int → Int} {ls : Int} {p k pl q2 k' pl' q2' : Int} (h : bkLn b n lim mf df ls p k pl q2) (h' : bkLn b n lim mf df ls p k' pl' q2') : k = k' ∧ (k ≠ 0 → pl = pl') ∧ (k = 0 → q2 = q2') := by
  unfold bkLn at h h'
  rcases h with h | h | h | ⟨e1, e2, h⟩ | ⟨e1, e2, e3, e4, h⟩ <;> rcases h' with h' | h' | h' | ⟨c1, c2, h'⟩ | ⟨c1, c2, c3, c4, h'⟩ <;> first | (exfalso; omega) | exact bkNu_det h h' | exact bkVb_det h h' | exact ⟨by omega, fun _ => by omega, fun z => absurd z (by omega)⟩
theorem bkR_det {b : Nat → Int32} {n lim : Int} {mf df : Int → Int} : ∀ (q q' : Nat) (ls p k pl k' pl' : Int), bkR b n lim mf df q ls p k pl → bkR b n lim mf df q' ls p k' pl' → k = k' ∧ (k ≠ 0 → pl = pl') := by
  intro q
  induction q with
  | zero => intro q' ls p k pl k' pl' h; exact h.elim
  | succ q ih =>
    intro q' ls p k pl k' pl' h h'
    cases q' with
    | zero => exact h'.elim
    | succ q' =>
      rcases h with ⟨c, hk⟩ | ⟨c, k1, pl1, r1, hL, hr⟩ <;> rcases h' with ⟨c', hk'⟩ | ⟨c', k1', pl1', r1', hL', hr'⟩
      · exact ⟨by omega, fun z => absurd hk z⟩
      · exact absurd c c'
      · exact absurd c' c
      · obtain ⟨z1, z2, z3⟩ := bkLn_det hL hL'
        rcases hr with ⟨a, a2, a3⟩ | ⟨a, a2, a3, a4⟩ | ⟨a, a2, a3⟩ <;> rcases hr' with ⟨d, d2, d3⟩ | ⟨d, d2, d3, d4⟩ | ⟨d, d2, d3⟩
        · exact ⟨by omega, fun _ => by rw [a3, d3]; exact z2 a⟩
        · exact absurd (z1.trans d) a
        · exact absurd (z1.trans d) a
        · exact absurd (z1.symm.trans a) d
        · have z4 := z3 a
          subst z4
          exact ⟨by omega, fun _ => by omega⟩
        · have z4 := z3 a
          subst z4
          exact absurd d2 a2
        · exact absurd (z1.symm.trans a) d
        · have z4 := z3 a
          subst z4
          exact absurd a2 d2
        · have z4 := z3 a
          subst z4
          exact ih _ _ _ _ _ _ _ a3 d3
theorem bkNm_cg {b : Nat → Int32} {n lim : Int} {f g : Int → Int} (hf : ∀ p : Int, tkK b n lim p = 1 → f p = g p) {p k pl q2 : Int} (h : bkNm b n lim f p k pl q2) : bkNm b n lim g p k pl q2 := by
  rcases h with h | ⟨a, a2, a3⟩ | ⟨a, a2, a3⟩
  · exact Or.inl h
  · exact Or.inr (Or.inl ⟨a, by rw [← hf p a.1]; exact a2, a3⟩)
  · exact Or.inr (Or.inr ⟨a, by rw [← hf p a.1]; exact a2, a3⟩)
theorem bkVb_cg {b : Nat → Int32} {n lim : Int} {mf df : Int → Int} {mg dg : Int → Int} (hf : ∀ p : Int, tkK b n lim p = 1 → mf p = mg p ∧ df p = dg p) {p k pl q2 : Int} (h : bkVb b n lim mf df p k pl q2) : bkVb b n lim mg dg p k pl q2 := by
  have hm : ∀ p : Int, tkK b n lim p = 1 → mf p = mg p := fun p hp => (hf p hp).1
  have hd : ∀ p : Int, tkK b n lim p = 1 → df p = dg p := fun p hp => (hf p hp).2
  rcases h with ⟨e, h⟩ | ⟨e, k1, pl1, r1, h1, h2⟩ | ⟨e, k1, pl1, r1, h1, h2⟩ | h | h
  · exact Or.inl ⟨e, bkNm_cg hd h⟩
  · refine Or.inr (Or.inl ⟨e, k1, pl1, r1, bkNm_cg hm h1, ?_⟩)
    rcases h2 with h2 | ⟨h2, h3⟩
    · exact Or.inl h2
    · exact Or.inr ⟨h2, bkNm_cg hd h3⟩
  · exact Or.inr (Or.inr (Or.inl ⟨e, k1, pl1, r1, bkNm_cg hm h1, h2⟩))
  · exact Or.inr (Or.inr (Or.inr (Or.inl h)))
  · exact Or.inr (Or.inr (Or.inr (Or.inr h)))
theorem bkLn_cg {b : Nat → Int32} {n lim : Int} {mf df : Int → Int} {mg dg : Int → Int} (hf : ∀ p : Int, tkK b n lim p = 1 → mf p = mg p ∧ df p = dg p) {ls p k pl q2 : Int} (h : bkLn b n lim mf df ls p k pl q2) : bkLn b n lim mg dg ls p k pl q2 := by
  have hm : ∀ p : Int, tkK b n lim p = 1 → mf p = mg p := fun p hp => (hf p hp).1
  rcases h with h | ⟨a, a2, a3, a4⟩ | ⟨a, a2⟩ | h | ⟨a, a2, a3, a4, a5⟩
  · exact Or.inl h
  · exact Or.inr (Or.inl ⟨a, a2, by rw [← hm p a2.1]; exact a3, a4⟩)
  · refine Or.inr (Or.inr (Or.inl ⟨?_, a2⟩))
    rcases a with a | ⟨a, a3⟩
    · exact Or.inl a
    · exact Or.inr ⟨a, by rw [← hm p a.1]; exact a3⟩
  · exact Or.inr (Or.inr (Or.inr (Or.inl h)))
  · exact Or.inr (Or.inr (Or.inr (Or.inr ⟨a, a2, by rw [← hm p a2.1]; exact a3, a4, bkVb_cg hf a5⟩)))
theorem bkR_cg {b : Nat → Int32} {n lim : Int} {mf df : Int → Int} {mg dg : Int → Int} (hf : ∀ p : Int, tkK b n lim p = 1 → mf p = mg p ∧ df p = dg p) : ∀ (q : Nat) (ls p k pl : Int), bkR b n lim mf df q ls p k pl → bkR b n lim mg dg q ls p k pl := by
  intro q
  induction q with
  | zero => intro ls p k pl h; exact h.elim
  | succ q ih =>
    intro ls p k pl h
    rcases h with h | ⟨c, k1, pl1, r1, hL, hr⟩
    · exact Or.inl h
    · refine Or.inr ⟨c, k1, pl1, r1, bkLn_cg hf hL, ?_⟩
      rcases hr with h | h | ⟨a, a2, a3⟩
      · exact Or.inl h
      · exact Or.inr (Or.inl h)
      · exact Or.inr (Or.inr ⟨a, a2, ih _ _ _ _ a3⟩)
def bkF (b : Nat → Int32) (n lim : Int) (mf df : Int → Int) (k : Int) : Prop := ∃ (q : Nat) (pl : Int), bkR b n lim mf df q 0 0 k pl
theorem bkF_det {b : Nat → Int32} {n lim : Int} {mf df : Int → Int} {mg dg : Int → Int} (hf : ∀ p : Int, tkK b n lim p = 1 → mf p = mg p ∧ df p = dg p) {k k' : Int} (h : bkF b n lim mf df k) (h' : bkF b n lim mg dg k') : k = k' := by
  obtain ⟨q, pl, h⟩ := h
  obtain ⟨q', pl', h'⟩ := h'
  exact (bkR_det _ _ _ _ _ _ _ _ (bkR_cg hf _ _ _ _ _ h) h').1
/-- what is read from here on is what is read from the beginning on -/
def bkGO (b : Nat → Int32) (n lim : Int) (mf df : Int → Int) (ls p : Int) : Prop := ∀ (k pl : Int) (q : Nat), bkR b n lim mf df q ls p k pl → bkF b n lim mf df k
theorem bkGO_0 {b : Nat → Int32} {n lim : Int} {mf df : Int → Int} : bkGO b n lim mf df 0 0 := fun _ pl q h => ⟨q, pl, h⟩
theorem bkGO_end {b : Nat → Int32} {n lim : Int} {mf df : Int → Int} {ls p : Int} (h : bkGO b n lim mf df ls p) (hk : tkK b n lim p = 3) : bkF b n lim mf df 0 := h 0 0 1 (Or.inl ⟨hk, rfl⟩)
theorem bkGO_bad {b : Nat → Int32} {n lim : Int} {mf df : Int → Int} {ls p k pl q2 : Int} (h : bkGO b n lim mf df ls p) (hk : tkK b n lim p ≠ 3) (hL : bkLn b n lim mf df ls p k pl q2) (h0 : k ≠ 0) : bkF b n lim mf df k := h k pl 1 (Or.inr ⟨hk, _, _, _, hL, Or.inl ⟨h0, rfl, rfl⟩⟩)
theorem bkGO_semi {b : Nat → Int32} {n lim : Int} {mf df : Int → Int} {ls p r1 : Int} (h : bkGO b n lim mf df ls p) (hk : tkK b n lim p ≠ 3) (hL : bkLn b n lim mf df ls p 0 0 r1) (h0 : tkK b n lim r1 ≠ 59) : bkF b n lim mf df 1 := h 1 _ 1 (Or.inr ⟨hk, _, _, _, hL, Or.inr (Or.inl ⟨rfl, h0, rfl, rfl⟩)⟩)
theorem bkGO_step {b : Nat → Int32} {n lim : Int} {mf df : Int → Int} {ls p r1 : Int} (h : bkGO b n lim mf df ls p) (hk : tkK b n lim p ≠ 3) (hL : bkLn b n lim mf df ls p 0 0 r1) (h0 : tkK b n lim r1 = 59) : bkGO b n lim mf df (ls + 1) (tkN b n lim r1) := fun k pl q hq => h k pl (q + 1) (Or.inr ⟨hk, _, _, _, hL, Or.inr (Or.inr ⟨rfl, h0, hq⟩)⟩)
def bkVT (b : Nat → Int32) (n lim : Int) (mf df : Int → Int) (p : Int) (ta tk tst tw : Int32) (tc : Int64) (tn : Int32) : Prop := ∃ q2 : Int, bkVb b n lim mf df p 0 0 q2 ∧ tkXT b n lim q2 ta tk tst tw tc tn
def bkLT (b : Nat → Int32) (n lim : Int) (mf df : Int → Int) (ls p : Int) (ta tk tst tw : Int32) (tc : Int64) (tn : Int32) : Prop := ∃ q2 : Int, bkLn b n lim mf df ls p 0 0 q2 ∧ tkXT b n lim q2 ta tk tst tw tc tn
def bkIV (b : Nat → Int32) (n lim : Int) (mf df : Int → Int) (ls : Int) (ta tk tst tw : Int32) (tc : Int64) (tn : Int32) : Prop := ∃ p9 : Int, tkXT b n lim p9 ta tk tst tw tc tn ∧ bkGO b n lim mf df ls p9
theorem bkNm.eq {b : Nat → Int32} {n lim : Int} {f : Int → Int} {p k pl q2 k' pl' q3 : Int} (h : bkNm b n lim f p k pl q2) (h1 : k' = k) (h2 : pl' = pl) (h3 : ¬ (k = 0)) : bkNm b n lim f p k' pl' q3 := by
  subst h1 h2
  rcases h with h | h | ⟨_, _, h, _⟩
  · exact Or.inl h
  · exact Or.inr (Or.inl h)
  · exact absurd h h3
