/-! the fewest times that make a sum, and the first of the shortest rows; X stands for never -/
def fw_M (X w : Nat) (f : Nat → Nat) (s : Nat) : Nat → Nat
  | 0 => X
  | k + 1 => if k * w ≤ s then min (fw_M X w f s k) (f (s - k * w) + k) else fw_M X w f s k
theorem fw_M_y {X w s k : Nat} {f : Nat → Nat} (h : k * w ≤ s) : fw_M X w f s (k + 1) = min (fw_M X w f s k) (f (s - k * w) + k) := if_pos h
theorem fw_M_n {X w s k : Nat} {f : Nat → Nat} (h : ¬ (k * w ≤ s)) : fw_M X w f s (k + 1) = fw_M X w f s k := if_neg h
theorem fw_M_cg {X w s : Nat} {f g : Nat → Nat} (h : ∀ j : Nat, j ≤ s → f j = g j) : ∀ k : Nat, fw_M X w f s k = fw_M X w g s k := by
  intro k
  induction k with
  | zero => rfl
  | succ k ih =>
    by_cases c : k * w ≤ s
    · rw [fw_M_y c, fw_M_y c, ih, h _ (Nat.sub_le _ _)]
    · rw [fw_M_n c, fw_M_n c, ih]
theorem fw_M_stop {X w s k : Nat} {f : Nat → Nat} : ∀ t : Nat, k ≤ t → s < k * w → fw_M X w f s t = fw_M X w f s k := by
  intro t
  induction t with
  | zero => intro h _; rw [show k = 0 by omega]
  | succ t ih =>
    intro h hs
    by_cases c : k = t + 1
    · rw [c]
    · have hk : k ≤ t := by omega
      have := Nat.mul_le_mul_right w hk
      rw [fw_M_n (by omega), ih hk hs]
theorem fw_M_le {X w s : Nat} {f : Nat → Nat} : ∀ k : Nat, fw_M X w f s k ≤ X := by
  intro k
  induction k with
  | zero => exact Nat.le_refl _
  | succ k ih =>
    by_cases c : k * w ≤ s
    · rw [fw_M_y c]; omega
    · rw [fw_M_n c]; exact ih
def fw_0 (X : Nat) : Nat → Nat := fun s => if s = 0 then 0 else X
def fw_L (X : Nat) (t w : Nat → Nat) (D : Nat) : Nat → Nat → Nat
  | 0 => fw_0 X
  | j + 1 => fun s => fw_M X (w (D - 1 - j)) (fw_L X t w D j) s (t (D - 1 - j))
theorem fw_L_e {X : Nat} {t w : Nat → Nat} {D j s : Nat} : fw_L X t w D (j + 1) s = fw_M X (w (D - 1 - j)) (fw_L X t w D j) s (t (D - 1 - j)) := rfl
theorem fw_L_le {X : Nat} {t w : Nat → Nat} {D : Nat} : ∀ j s : Nat, fw_L X t w D j s ≤ X := by
  intro j s
  cases j with
  | zero =>
    show (if s = 0 then 0 else X) ≤ X
    by_cases c : s = 0
    · rw [if_pos c]; exact Nat.zero_le _
    · rw [if_neg c]; exact Nat.le_refl _
  | succ j => exact fw_M_le _
theorem fw_L_cg {X : Nat} {t w t' w' : Nat → Nat} {D : Nat} (h : ∀ j : Nat, j < D → t j = t' j ∧ w j = w' j) : ∀ j : Nat, j ≤ D → fw_L X t w D j = fw_L X t' w' D j := by
  intro j
  induction j with
  | zero => intro _; rfl
  | succ j ih =>
    intro hj
    funext s
    rw [fw_L_e, fw_L_e, ih (by omega), (h _ (by omega)).1, (h _ (by omega)).2]
/-- the first place where p holds, 0 if there is none -/
def fw_F (p : Nat → Bool) : Nat → Nat → Nat
  | 0, _ => 0
  | k + 1, n => if p n = true then n else fw_F p k (n + 1)
theorem fw_F_at {p : Nat → Bool} : ∀ (k a n : Nat), a ≤ n → n < a + k → p n = true → (∀ m : Nat, a ≤ m → m < n → p m = false) → fw_F p k a = n := by
  intro k
  induction k with
  | zero => intro a n h1 h2; omega
  | succ k ih =>
    intro a n h1 h2 hp hm
    by_cases c : a = n
    · show (if p a = true then a else _) = n
      rw [c, if_pos hp]
    · show (if p a = true then a else fw_F p k (a + 1)) = n
      rw [if_neg (by rw [hm a (Nat.le_refl _) (by omega)]; exact Bool.false_ne_true)]
      exact ih (a + 1) n (by omega) (by omega) hp (fun m q1 q2 => hm m (by omega) q2)
theorem fw_F_no {p : Nat → Bool} : ∀ (k a : Nat), (∀ m : Nat, a ≤ m → m < a + k → p m = false) → fw_F p k a = 0 := by
  intro k
  induction k with
  | zero => intro a _; rfl
  | succ k ih =>
    intro a hm
    show (if p a = true then a else fw_F p k (a + 1)) = 0
    rw [if_neg (by rw [hm a (Nat.le_refl _) (by omega)]; exact Bool.false_ne_true)]
    exact ih (a + 1) (fun m q1 q2 => hm m (by omega) (by omega))
theorem fw_F_ex {p : Nat → Bool} : ∀ (k a : Nat), (∃ n : Nat, a ≤ n ∧ n < a + k ∧ p n = true) → p (fw_F p k a) = true ∧ fw_F p k a < a + k ∧ a ≤ fw_F p k a := by
  intro k
  induction k with
  | zero => rintro a ⟨n, h1, h2, _⟩; omega
  | succ k ih =>
    rintro a ⟨n, h1, h2, h3⟩
    by_cases c : p a = true
    · have e : fw_F p (k + 1) a = a := if_pos c
      rw [e]; exact ⟨c, by omega, Nat.le_refl _⟩
    · have e : fw_F p (k + 1) a = fw_F p k (a + 1) := if_neg c
      have hn : a ≠ n := fun z => c (z ▸ h3)
      have := ih (a + 1) ⟨n, by omega, by omega, h3⟩
      rw [e]; exact ⟨this.1, by omega, by omega⟩
theorem fw_F_cg {p q : Nat → Bool} : ∀ (k a : Nat), (∀ n : Nat, a ≤ n → n < a + k → p n = q n) → fw_F p k a = fw_F q k a := by
  intro k
  induction k with
  | zero => intro a _; rfl
  | succ k ih =>
    intro a h
    show (if p a = true then a else fw_F p k (a + 1)) = (if q a = true then a else fw_F q k (a + 1))
    rw [h a (Nat.le_refl _) (by omega), ih (a + 1) (fun n q1 q2 => h n (by omega) (by omega))]
/-- so many times of one deed: the smallest number that lies on a shortest row -/
def fw_p (w : Nat) (f : Nat → Nat) (s v : Nat) : Nat → Bool := fun n => decide (n * w ≤ s ∧ f (s - n * w) + n = v)
theorem fw_p_t {w s v n : Nat} {f : Nat → Nat} (h : n * w ≤ s ∧ f (s - n * w) + n = v) : fw_p w f s v n = true := decide_eq_true h
theorem fw_p_f {w s v n : Nat} {f : Nat → Nat} (h : ¬ (n * w ≤ s ∧ f (s - n * w) + n = v)) : fw_p w f s v n = false := decide_eq_false h
theorem fw_p_o {w s v n : Nat} {f : Nat → Nat} (h : fw_p w f s v n = true) : n * w ≤ s ∧ f (s - n * w) + n = v := of_decide_eq_true h
def fw_n (w : Nat) (f : Nat → Nat) (s v t : Nat) : Nat := fw_F (fw_p w f s v) t 0
theorem fw_n_cg {w s v t : Nat} {f g : Nat → Nat} (h : ∀ j : Nat, j ≤ s → f j = g j) : fw_n w f s v t = fw_n w g s v t := by
  refine fw_F_cg t 0 (fun n _ _ => ?_)
  unfold fw_p
  rw [h _ (Nat.sub_le _ _)]
theorem fw_n_1 {w s v : Nat} {f : Nat → Nat} : fw_n w f s v 1 = 0 := by
  show (if fw_p w f s v 0 = true then 0 else 0) = 0
  by_cases c : fw_p w f s v 0 = true
  · rw [if_pos c]
  · rw [if_neg c]
/-- what is left of a sum ahead of a deed -/
def fw_l (X : Nat) (t w : Nat → Nat) (D s : Nat) : Nat → Nat
  | 0 => s
  | d + 1 => fw_l X t w D s d - fw_n (w d) (fw_L X t w D (D - (d + 1))) (fw_l X t w D s d) (fw_L X t w D (D - d) (fw_l X t w D s d)) (t d) * w d
def fw_Q (X : Nat) (t w : Nat → Nat) (D s d : Nat) : Nat := fw_n (w d) (fw_L X t w D (D - (d + 1))) (fw_l X t w D s d) (fw_L X t w D (D - d) (fw_l X t w D s d)) (t d)
theorem fw_l_e {X : Nat} {t w : Nat → Nat} {D s d : Nat} : fw_l X t w D s (d + 1) = fw_l X t w D s d - fw_Q X t w D s d * w d := rfl
theorem fw_l_cg {X : Nat} {t w t' w' : Nat → Nat} {D s : Nat} (h : ∀ j : Nat, j < D → t j = t' j ∧ w j = w' j) : ∀ d : Nat, d ≤ D → fw_l X t w D s d = fw_l X t' w' D s d := by
  intro d
  induction d with
  | zero => intro _; rfl
  | succ d ih =>
    intro hd
    rw [fw_l_e, fw_l_e]
    unfold fw_Q
    rw [ih (by omega), fw_L_cg h _ (by omega), fw_L_cg h _ (by omega), (h d (by omega)).1, (h d (by omega)).2]
theorem fw_Q_cg {X : Nat} {t w t' w' : Nat → Nat} {D s d : Nat} (h : ∀ j : Nat, j < D → t j = t' j ∧ w j = w' j) (hd : d < D) : fw_Q X t w D s d = fw_Q X t' w' D s d := by
  unfold fw_Q
  rw [fw_l_cg h d (by omega), fw_L_cg h _ (by omega), fw_L_cg h _ (by omega), (h d hd).1, (h d hd).2]
/-! ways as numbers -/
def cn_S (f : Nat → Nat) : Nat → Nat
  | 0 => 0
  | k + 1 => cn_S f k + f k
def cn_L (t w : Nat → Nat) (D : Nat) : Nat → Nat → Nat
  | 0 => fun s => if s = 0 then 1 else 0
  | j + 1 => fun s => cn_S (fun n => if n * w (D - 1 - j) ≤ s then cn_L t w D j (s - n * w (D - 1 - j)) else 0) (t (D - 1 - j))
theorem cn_L_e {t w : Nat → Nat} {D j s : Nat} : cn_L t w D (j + 1) s = cn_S (fun n => if n * w (D - 1 - j) ≤ s then cn_L t w D j (s - n * w (D - 1 - j)) else 0) (t (D - 1 - j)) := rfl
theorem cn_S_of {f : Nat → Nat} {g : Nat → Int64} (h : ∀ n : Nat, g n = Int64.ofNat (f n)) : ∀ k : Nat, su_S g k = Int64.ofNat (cn_S f k) := by
  intro k
  induction k with
  | zero => rfl
  | succ k ih => rw [su_S_e, ih, h k, ← Int64.ofNat_add]; rfl
theorem cn_L_of {t w : Nat → Nat} {D : Nat} : ∀ j s : Nat, su_L t w D j s = Int64.ofNat (cn_L t w D j s) := by
  intro j
  induction j with
  | zero =>
    intro s
    show (if s = 0 then (1 : Int64) else 0) = Int64.ofNat (if s = 0 then 1 else 0)
    by_cases c : s = 0
    · rw [if_pos c, if_pos c]; rfl
    · rw [if_neg c, if_neg c]; rfl
  | succ j ih =>
    intro s
    rw [cn_L_e]
    refine cn_S_of (fun n => ?_) _
    by_cases c : n * w (D - 1 - j) ≤ s
    · rw [if_pos c, if_pos c]; exact ih _
    · rw [if_neg c, if_neg c]; rfl
theorem cn_S_z {f : Nat → Nat} : ∀ k : Nat, (∀ n : Nat, n < k → f n = 0) → cn_S f k = 0 := by
  intro k
  induction k with
  | zero => intro _; rfl
  | succ k ih =>
    intro h
    show cn_S f k + f k = 0
    rw [ih (fun n hn => h n (by omega)), h k (by omega)]
theorem cn_S_p {f : Nat → Nat} {n : Nat} (hf : f n ≠ 0) : ∀ k : Nat, n < k → cn_S f k ≠ 0 := by
  intro k
  induction k with
  | zero => intro h; omega
  | succ k ih =>
    intro h
    show cn_S f k + f k ≠ 0
    by_cases c : n = k
    · rw [← c]; omega
    · have := ih (by omega); omega
theorem cn_S_b {f : Nat → Nat} {B : Nat} (hf : ∀ n : Nat, f n ≤ B) : ∀ k : Nat, cn_S f k ≤ k * B := by
  intro k
  induction k with
  | zero => exact Nat.zero_le _
  | succ k ih =>
    show cn_S f k + f k ≤ (k + 1) * B
    rw [Nat.succ_mul]; have := hf k; omega
theorem cn_L_b {t u w : Nat → Nat} {D : Nat} (h : ∀ d : Nat, t d * u d ≤ 10) : ∀ j : Nat, ∃ A B : Nat, (∀ s : Nat, cn_L t w D j s ≤ A) ∧ (∀ s : Nat, cn_L u w D j s ≤ B) ∧ A * B ≤ 10 ^ j := by
  intro j
  have one : ∀ s : Nat, (if s = 0 then 1 else 0) ≤ 1 := by
    intro s
    by_cases c : s = 0
    · rw [if_pos c]; exact Nat.le_refl _
    · rw [if_neg c]; exact Nat.zero_le _
  induction j with
  | zero => exact ⟨1, 1, one, one, by decide⟩
  | succ j ih =>
    obtain ⟨A, B, hA, hB, hAB⟩ := ih
    have stp : ∀ (v : Nat → Nat) (C : Nat), (∀ s : Nat, cn_L v w D j s ≤ C) → ∀ s : Nat, cn_L v w D (j + 1) s ≤ v (D - 1 - j) * C := by
      intro v C hC s
      rw [cn_L_e]
      refine cn_S_b (fun n => ?_) _
      by_cases c : n * w (D - 1 - j) ≤ s
      · rw [if_pos c]; exact hC _
      · rw [if_neg c]; exact Nat.zero_le _
    refine ⟨t (D - 1 - j) * A, u (D - 1 - j) * B, stp t A hA, stp u B hB, ?_⟩
    rw [Nat.mul_mul_mul_comm, Nat.pow_succ, Nat.mul_comm (10 ^ j)]
    exact Nat.mul_le_mul (h _) hAB
/-- the fewest of both sides: never in both, or a number that is alike -/
theorem fw_M_al {X Y B w s : Nat} {f g : Nat → Nat} (hX : 1000 ≤ X) (hY : 1000 ≤ Y) (hB : B ≤ 90) (h : ∀ x : Nat, (f x = X ∧ g x = Y) ∨ (f x = g x ∧ f x ≤ B)) : ∀ k : Nat, k ≤ 10 → (fw_M X w f s k = X ∧ fw_M Y w g s k = Y ∧ ∀ n : Nat, n < k → n * w ≤ s → f (s - n * w) = X) ∨ (fw_M X w f s k = fw_M Y w g s k ∧ fw_M X w f s k ≤ B + 9 ∧ ∃ n : Nat, n < k ∧ n * w ≤ s ∧ f (s - n * w) ≤ B ∧ f (s - n * w) + n = fw_M X w f s k) := by
  intro k
  induction k with
  | zero => intro _; exact Or.inl ⟨rfl, rfl, fun n hn => absurd hn (by omega)⟩
  | succ k ih =>
    intro hk
    by_cases c : k * w ≤ s
    · rw [fw_M_y c, fw_M_y c]
      rcases h (s - k * w) with ⟨h1, h2⟩ | ⟨h1, h2⟩
      · rcases ih (by omega) with ⟨i1, i2, i3⟩ | ⟨i1, i2, n, i3, i4, i5, i6⟩
        · refine Or.inl ⟨by omega, by omega, fun n hn hw => ?_⟩
          by_cases q : n = k
          · rw [q]; exact h1
          · exact i3 n (by omega) hw
        · refine Or.inr ⟨by omega, by omega, n, by omega, i4, i5, by omega⟩
      · refine Or.inr ?_
        rcases ih (by omega) with ⟨i1, i2, i3⟩ | ⟨i1, i2, n, i3, i4, i5, i6⟩
        · exact ⟨by omega, by omega, k, by omega, c, h2, by omega⟩
        · refine ⟨by omega, by omega, ?_⟩
          by_cases q : fw_M X w f s k ≤ f (s - k * w) + k
          · exact ⟨n, by omega, i4, i5, by omega⟩
          · exact ⟨k, by omega, c, h2, by omega⟩
    · rw [fw_M_n c, fw_M_n c]
      rcases ih (by omega) with ⟨i1, i2, i3⟩ | ⟨i1, i2, n, i3, i4, i5, i6⟩
      · refine Or.inl ⟨i1, i2, fun n hn hw => ?_⟩
        by_cases q : n = k
        · exact absurd (q ▸ hw) c
        · exact i3 n (by omega) hw
      · exact Or.inr ⟨i1, i2, n, by omega, i4, i5, i6⟩
theorem fw_L_al {X Y : Nat} {t w : Nat → Nat} {D : Nat} (hX : 1000 ≤ X) (hY : 1000 ≤ Y) (ht : ∀ d : Nat, t d ≤ 10) : ∀ j : Nat, j ≤ 10 → ∀ s : Nat, (fw_L X t w D j s = X ∧ fw_L Y t w D j s = Y ∧ cn_L t w D j s = 0) ∨ (fw_L X t w D j s = fw_L Y t w D j s ∧ fw_L X t w D j s ≤ 9 * j ∧ cn_L t w D j s ≠ 0) := by
  intro j
  induction j with
  | zero =>
    intro _ s
    show ((if s = 0 then 0 else X) = X ∧ (if s = 0 then 0 else Y) = Y ∧ (if s = 0 then 1 else 0) = 0) ∨ ((if s = 0 then 0 else X) = (if s = 0 then 0 else Y) ∧ (if s = 0 then 0 else X) ≤ 9 * 0 ∧ (if s = 0 then 1 else 0) ≠ 0)
    by_cases c : s = 0
    · refine Or.inr ?_
      rw [if_pos c, if_pos c, if_pos c]; exact ⟨rfl, Nat.le_refl _, by omega⟩
    · refine Or.inl ?_
      rw [if_neg c, if_neg c, if_neg c]; exact ⟨rfl, rfl, rfl⟩
  | succ j ih =>
    intro hj s
    have ih' := ih (by omega)
    rw [fw_L_e, fw_L_e, cn_L_e]
    rcases fw_M_al (X := X) (Y := Y) (B := 9 * j) (w := w (D - 1 - j)) (s := s) (f := fw_L X t w D j) (g := fw_L Y t w D j) hX hY (by omega) (fun x => (ih' x).imp (fun z => ⟨z.1, z.2.1⟩) (fun z => ⟨z.1, z.2.1⟩)) (t (D - 1 - j)) (ht _) with ⟨h1, h2, h3⟩ | ⟨h1, h2, n, h3, h4, h5, h6⟩
    · refine Or.inl ⟨h1, h2, cn_S_z _ (fun n hn => ?_)⟩
      by_cases c : n * w (D - 1 - j) ≤ s
      · rw [if_pos c]
        have h7 := h3 n hn c
        rcases ih' (s - n * w (D - 1 - j)) with z | z
        · exact z.2.2
        · exfalso; have := z.2.1; omega
      · exact if_neg c
    · refine Or.inr ⟨h1, by omega, cn_S_p (n := n) ?_ _ h3⟩
      rw [if_pos h4]
      rcases ih' (s - n * w (D - 1 - j)) with z | z
      · exfalso; have := z.1; omega
      · exact z.2.2
/-- on a shortest row all that is left can be made -/
theorem fw_Q_al {X Y : Nat} {t w : Nat → Nat} {D s : Nat} (hX : 1000 ≤ X) (hY : 1000 ≤ Y) (ht : ∀ d : Nat, t d ≤ 10) (hD : D ≤ 10) (hs : fw_L X t w D D s < 1000) : ∀ d : Nat, d ≤ D → fw_l X t w D s d = fw_l Y t w D s d ∧ fw_L X t w D (D - d) (fw_l X t w D s d) < 1000 ∧ (d < D → fw_Q X t w D s d = fw_Q Y t w D s d ∧ fw_p (w d) (fw_L X t w D (D - (d + 1))) (fw_l X t w D s d) (fw_L X t w D (D - d) (fw_l X t w D s d)) (fw_Q X t w D s d) = true ∧ fw_Q X t w D s d < t d) := by
  have key : ∀ d : Nat, d < D → fw_l X t w D s d = fw_l Y t w D s d → fw_L X t w D (D - d) (fw_l X t w D s d) < 1000 → (fw_Q X t w D s d = fw_Q Y t w D s d ∧ fw_p (w d) (fw_L X t w D (D - (d + 1))) (fw_l X t w D s d) (fw_L X t w D (D - d) (fw_l X t w D s d)) (fw_Q X t w D s d) = true ∧ fw_Q X t w D s d < t d) := by
    intro d hd h1 h2
    have e1 : D - d = (D - (d + 1)) + 1 := by omega
    have e2 : D - 1 - (D - (d + 1)) = d := by omega
    have al := fun x => fw_L_al (t := t) (w := w) (D := D) hX hY ht (D - (d + 1)) (by omega) x
    have al0 := fw_L_al (t := t) (w := w) (D := D) hX hY ht (D - d) (by omega) (fw_l X t w D s d)
    have hv : fw_L X t w D (D - d) (fw_l X t w D s d) = fw_L Y t w D (D - d) (fw_l X t w D s d) := by
      rcases al0 with z | z
      · exfalso; have := z.1; omega
      · exact z.1
    have m := fw_M_al (X := X) (Y := Y) (B := 9 * (D - (d + 1))) (w := w d) (s := fw_l X t w D s d) (f := fw_L X t w D (D - (d + 1))) (g := fw_L Y t w D (D - (d + 1))) hX hY (by omega) (fun x => (al x).imp (fun z => ⟨z.1, z.2.1⟩) (fun z => ⟨z.1, z.2.1⟩)) (t d) (ht d)
    have em : fw_L X t w D (D - d) (fw_l X t w D s d) = fw_M X (w d) (fw_L X t w D (D - (d + 1))) (fw_l X t w D s d) (t d) := by
      rw [e1, fw_L_e, e2]
    refine ⟨?_, ?_⟩
    · unfold fw_Q
      rw [← h1, ← hv]
      refine fw_F_cg _ _ (fun n _ hn => ?_)
      have hn9 := ht d
      by_cases c : n * w d ≤ fw_l X t w D s d
      · rcases al (fw_l X t w D s d - n * w d) with ⟨z1, z2, _⟩ | ⟨z1, _, _⟩
        · rw [fw_p_f (by rintro ⟨_, q⟩; omega), fw_p_f (by rintro ⟨_, q⟩; omega)]
        · unfold fw_p; rw [z1]
      · rw [fw_p_f (fun q => c q.1), fw_p_f (fun q => c q.1)]
    · rw [← em] at m
      rcases m with ⟨m1, _, _⟩ | ⟨_, _, n, m3, m4, m5, m6⟩
      · exfalso; omega
      · have := fw_F_ex (p := fw_p (w d) (fw_L X t w D (D - (d + 1))) (fw_l X t w D s d) (fw_L X t w D (D - d) (fw_l X t w D s d))) (t d) 0 ⟨n, Nat.zero_le _, by omega, fw_p_t ⟨m4, m6⟩⟩
        exact ⟨this.1, by have := this.2.1; show fw_F _ _ _ < t d; omega⟩
  intro d
  induction d with
  | zero =>
    intro hd
    refine ⟨rfl, by rw [Nat.sub_zero]; exact hs, fun h => key 0 h rfl (by rw [Nat.sub_zero]; exact hs)⟩
  | succ d ih =>
    intro hd
    obtain ⟨i1, i2, i3⟩ := ih (by omega)
    obtain ⟨j1, j2, j3⟩ := i3 (by omega)
    have o := fw_p_o j2
    have k1 : fw_l X t w D s (d + 1) = fw_l Y t w D s (d + 1) := by rw [fw_l_e, fw_l_e, i1, j1]
    have k2 : fw_L X t w D (D - (d + 1)) (fw_l X t w D s (d + 1)) < 1000 := by rw [fw_l_e]; have := o.2; omega
    exact ⟨k1, k2, fun h => key (d + 1) h k1 k2⟩
theorem suTm_le {f : Nat → Int32} {c : Int} (d : Nat) : suTm f c d ≤ 10 := by
  unfold suTm
  by_cases h : (f d).toInt = c
  · rw [if_pos h]; exact Nat.le_refl _
  · rw [if_neg h]; omega
theorem suTm_two {f : Nat → Int32} (d : Nat) : suTm f 0 d * suTm f 1 d ≤ 10 := by
  unfold suTm
  by_cases h : (f d).toInt = 0
  · rw [if_pos h, if_neg (by omega)]; omega
  · rw [if_neg h]
    by_cases h1 : (f d).toInt = 1
    · rw [if_pos h1]; omega
    · rw [if_neg h1]; omega
/-- so many rows: none, or both sums can be made -/
theorem may_pos {f : Nat → Int32} {w : Nat → Nat} {D s0 s1 : Nat} {r : Int64} (hD : D ≤ 10) (hr : r = su_C (suTm f 0) w D s0 * su_C (suTm f 1) w D s1) : (r.toInt = 0 ∧ r = 0) ∨ (0 < r.toInt ∧ (r = 0 → False) ∧ fw_L 1000 (suTm f 0) w D D s0 < 1000 ∧ fw_L 1000 (suTm f 1) w D D s1 < 1000) := by
  rw [← su_L_C, ← su_L_C, cn_L_of, cn_L_of, ← Int64.ofNat_mul] at hr
  obtain ⟨A, B, hA, hB, hAB⟩ := cn_L_b (t := suTm f 0) (u := suTm f 1) (w := w) (D := D) suTm_two D
  have hb : cn_L (suTm f 0) w D D s0 * cn_L (suTm f 1) w D D s1 ≤ 10 ^ 10 := Nat.le_trans (Nat.mul_le_mul (hA s0) (hB s1)) (Nat.le_trans hAB (Nat.pow_le_pow_right (by omega) hD))
  have hi : r.toInt = ((cn_L (suTm f 0) w D D s0 * cn_L (suTm f 1) w D D s1 : Nat) : Int) := by
    rw [hr]; exact Int64.toInt_ofNat_of_lt (Nat.lt_of_le_of_lt hb (by decide))
  have a0 := fw_L_al (X := 1000) (Y := 1000) (t := suTm f 0) (w := w) (D := D) (Nat.le_refl _) (Nat.le_refl _) suTm_le D hD s0
  have a1 := fw_L_al (X := 1000) (Y := 1000) (t := suTm f 1) (w := w) (D := D) (Nat.le_refl _) (Nat.le_refl _) suTm_le D hD s1
  have z0 : cn_L (suTm f 0) w D D s0 = 0 ∨ cn_L (suTm f 1) w D D s1 = 0 → (r.toInt = 0 ∧ r = 0) := by
    intro q
    have e : cn_L (suTm f 0) w D D s0 * cn_L (suTm f 1) w D D s1 = 0 := by
      rcases q with q | q
      · rw [q, Nat.zero_mul]
      · rw [q, Nat.mul_zero]
    rw [e] at hi hr
    exact ⟨hi, hr⟩
  rcases a0 with ⟨_, _, c0⟩ | ⟨_, b0, c0⟩
  · exact Or.inl (z0 (Or.inl c0))
  · rcases a1 with ⟨_, _, c1⟩ | ⟨_, b1, c1⟩
    · exact Or.inl (z0 (Or.inr c1))
    · have hp : 0 < cn_L (suTm f 0) w D D s0 * cn_L (suTm f 1) w D D s1 := Nat.mul_pos (Nat.pos_of_ne_zero c0) (Nat.pos_of_ne_zero c1)
      have hp2 : 0 < r.toInt := by rw [hi]; exact Int.natCast_pos.mpr hp
      refine Or.inr ⟨hp2, fun q => ?_, by omega, by omega⟩
      rw [q] at hp2; exact absurd hp2 (by decide)
/-- the row that a likeness leaves: the good and the crimes -/
def mayQ (X : Nat) (f3 f4 : Nat → Int32) (D s0 s1 d : Nat) : Nat := fw_Q X (suTm f4 0) (suWt f3) D s0 d + fw_Q X (suTm f4 1) (suWt f3) D s1 d
theorem fw_Q_off {X : Nat} {t w : Nat → Nat} {D s d : Nat} (h : t d = 1) : fw_Q X t w D s d = 0 := by
  unfold fw_Q
  rw [h]; exact fw_n_1
