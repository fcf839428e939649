/-! behind a call: the callee's cells in their places, all others as they were -/
def look : List Nat → va_W → Nat → Option (Nat × va_E)
  | i :: is, v :: vs, k => bif Nat.beq k i then some v else look is vs k
  | _, _, _ => none
def setm (is : List Nat) (vs : va_W) : Nat → va_W → va_W
  | _, [] => []
  | k, q :: t => (match look is vs k with | some v => v | none => q) :: setm is vs (k + 1) t
abbrev sets (ws : va_W) (is : List Nat) (vs : va_W) : va_W := setm is vs 0 ws
theorem setm_at (is : List Nat) (vs : va_W) : ∀ (X : va_W) (n k : Nat), (setm is vs n X)[k]? = (X[k]?).map (fun q => match look is vs (n + k) with | some v => v | none => q)
  | [], n, k => by simp [setm]
  | q :: t, n, 0 => by simp [setm]
  | q :: t, n, k + 1 => by
    have h := setm_at is vs t (n + 1) k
    rw [show n + 1 + k = n + (k + 1) by omega] at h
    simpa [setm] using h
theorem look_some : ∀ (is : List Nat) (vs : va_W) (k : Nat) (v : Nat × va_E), look is vs k = some v → v ∈ vs
  | [], _, k, v, h => by simp [look] at h
  | _ :: _, [], k, v, h => by simp [look] at h
  | i :: is, w :: vs, k, v, h => by
    unfold look at h
    cases e : Nat.beq k i with
    | true => rw [e] at h; cases h; exact List.mem_cons_self
    | false => rw [e] at h; exact List.mem_cons_of_mem _ (look_some is vs k v h)
theorem look_none : ∀ (is : List Nat) (vs : va_W) (k : Nat), is.length = vs.length → look is vs k = none → k ∉ is
  | [], _, k, _, _ => List.not_mem_nil
  | _ :: _, [], k, hl, _ => by simp at hl
  | i :: is, w :: vs, k, hl, h => by
    unfold look at h
    cases e : Nat.beq k i with
    | true => rw [e] at h; cases h
    | false =>
      rw [e] at h
      intro z
      rcases List.mem_cons.mp z with z | z
      · rw [z, Nat.beq_refl] at e; cases e
      · exact look_none is vs k (by simpa using hl) h z
theorem sets_at (is : List Nat) (vs X : va_W) (hl : is.length = vs.length) (k : Nat) (q : Nat × va_E) (h : (sets X is vs)[k]? = some q) : q ∈ vs ∨ (k ∉ is ∧ X[k]? = some q) := by
  rw [sets, setm_at, Nat.zero_add] at h
  cases hx : X[k]? with
  | none => rw [hx] at h; cases h
  | some q0 =>
    rw [hx] at h
    cases hk : look is vs k with
    | some v => simp only [hk, Option.map_some, Option.some.injEq] at h; subst h; exact Or.inl (look_some is vs k v hk)
    | none => simp only [hk, Option.map_some, Option.some.injEq] at h; subst h; exact Or.inr ⟨look_none is vs k hl hk, rfl⟩
theorem look_fst : ∀ (is : List Nat) (vs : va_W) (Y : List Nat), is.map (fun i => Y[i]?) = vs.map (fun v => some v.1) → ∀ (k : Nat) (v : Nat × va_E), look is vs k = some v → Y[k]? = some v.1
  | [], _, Y, _, k, v, h => by simp [look] at h
  | _ :: _, [], Y, _, k, v, h => by simp [look] at h
  | i :: is, w :: vs, Y, hl, k, v, h => by
    simp only [List.map_cons, List.cons.injEq] at hl
    unfold look at h
    cases e : Nat.beq k i with
    | true => rw [e] at h; cases h; rw [Nat.eq_of_beq_eq_true e]; exact hl.1
    | false => rw [e] at h; exact look_fst is vs Y hl.2 k v h
theorem sets_fst (is : List Nat) (vs X : va_W) (h : is.map (fun i => (X.map Prod.fst)[i]?) = vs.map (fun v => some v.1)) : (sets X is vs).map Prod.fst = X.map Prod.fst := by
  refine List.ext_getElem? (fun k => ?_)
  rw [List.getElem?_map, List.getElem?_map, sets, setm_at, Nat.zero_add]
  cases hx : X[k]? with
  | none => rfl
  | some q0 =>
    cases hk : look is vs k with
    | some v =>
      have := look_fst is vs _ h k v hk
      rw [List.getElem?_map, hx] at this
      simp only [Option.map_some, Option.some.injEq] at this
      simp only [Option.map_some, hk, this]
    | none => simp only [Option.map_some, hk]
theorem fst_D {A : Nat → Prop} {ws ws' : va_W} (hD : va_D A ws) (h : ws'.map Prod.fst = ws.map Prod.fst) : va_D A ws' := by
  have key : ∀ (k : Nat) (q : Nat × va_E), ws'[k]? = some q → ∃ q0, ws[k]? = some q0 ∧ q0.1 = q.1 := by
    intro k q hk
    have h1 : (ws'.map Prod.fst)[k]? = some q.1 := by rw [List.getElem?_map, hk]; rfl
    rw [h, List.getElem?_map] at h1
    cases hq : ws[k]? with
    | none => rw [hq] at h1; cases h1
    | some q0 => rw [hq] at h1; exact ⟨q0, rfl, by simpa using h1⟩
  refine ⟨fun i j p q hp hq e => ?_, fun k q hk => ?_⟩
  · obtain ⟨p0, h1, e1⟩ := key i p hp
    obtain ⟨q0, h2, e2⟩ := key j q hq
    exact hD.1 i j p0 q0 h1 h2 (by rw [e1, e2]; exact e)
  · obtain ⟨q0, h1, e1⟩ := key k q hk
    rw [← e1]; exact hD.2 k q0 h1
theorem at_of {Y wc : va_W} {isC : List Nat} (hC : isC.map (fun i => Y[i]?) = wc.map some) {j : Nat} {q : Nat × va_E} (hj : wc[j]? = some q) : ∃ i, i ∈ isC ∧ Y[i]? = some q := by
  have h1 : (isC.map (fun i => Y[i]?))[j]? = some (some q) := by rw [hC, List.getElem?_map, hj]; rfl
  rw [List.getElem?_map] at h1
  cases hi : isC[j]? with
  | none => rw [hi] at h1; cases h1
  | some i => rw [hi] at h1; exact ⟨i, List.mem_of_getElem? hi, by simpa using h1⟩
theorem jm_core {D : va_G} {cl : List vw_C} {A : Nat → Prop} {X Y Z wc w1 : va_W} {H H1 : Heap} (hP : va_P D cl (X ++ (Y ++ Z)) H) (hD : va_D A (X ++ (Y ++ Z))) (isC : List Nat) (hC : isC.map (fun i => Y[i]?) = wc.map some) (hk : ∀ q : Nat, q < H.size → ¬ va_A wc H.size q → H1[q]? = H[q]?) (hP1 : va_P D cl w1 H1) (ha : w1.map Prod.fst = wc.map Prod.fst) : va_P D cl (X ++ (sets Y isC w1 ++ Z)) H1 ∧ va_D A (X ++ (sets Y isC w1 ++ Z)) := by
  have hlen : isC.length = w1.length := by
    have h1 := congrArg List.length hC
    have h2 := congrArg List.length ha
    simp only [List.length_map] at h1 h2
    omega
  have inr_ : ∀ (i : Nat) (q : Nat × va_E), Y[i]? = some q → (X ++ (Y ++ Z))[X.length + i]? = some q := by
    intro i q h
    rw [List.getElem?_append_right (by omega), Nat.add_sub_cancel_left, List.getElem?_append_left (List.getElem?_eq_some_iff.mp h).1]; exact h
  have other : ∀ (k : Nat) (q : Nat × va_E), (X ++ (Y ++ Z))[k]? = some q → (∀ i ∈ isC, (∃ p, Y[i]? = some p) → k ≠ X.length + i) → va_at D cl q H1 := by
    intro k q hq hne
    have hlt := (hP k q hq).lt
    refine (hP k q hq).kept (hk q.1 hlt ?_)
    rintro (⟨j, e, hj⟩ | hz)
    · obtain ⟨i, hi, hY⟩ := at_of hC hj
      exact hne i hi ⟨_, hY⟩ (hD.1 k (X.length + i) q (q.1, e) hq (inr_ i _ hY) rfl)
    · omega
  constructor
  · intro k q hq
    rcases List.mem_append.mp (List.mem_of_getElem? hq) with h | h
    · obtain ⟨i, hi⟩ := List.getElem?_of_mem h
      have hl := (List.getElem?_eq_some_iff.mp hi).1
      exact other i q (by rw [List.getElem?_append_left hl]; exact hi) (fun j _ _ => by omega)
    · rcases List.mem_append.mp h with h | h
      · obtain ⟨i, hi⟩ := List.getElem?_of_mem h
        rcases sets_at isC w1 Y hlen i q hi with h1 | ⟨h1, h2⟩
        · obtain ⟨j, hj⟩ := List.getElem?_of_mem h1
          exact hP1 j q hj
        · refine other (X.length + i) q (inr_ i q h2) (fun j hj _ e => h1 ?_)
          have e2 : i = j := by omega
          rw [e2]; exact hj
      · obtain ⟨i, hi⟩ := List.getElem?_of_mem h
        refine other (X.length + (Y.length + i)) q ?_ (fun j _ hp e => ?_)
        · rw [List.getElem?_append_right (by omega), Nat.add_sub_cancel_left, List.getElem?_append_right (by omega), Nat.add_sub_cancel_left]; exact hi
        · obtain ⟨p, hp⟩ := hp
          have := (List.getElem?_eq_some_iff.mp hp).1
          omega
  · refine fst_D hD ?_
    have h1 : (sets Y isC w1).map Prod.fst = Y.map Prod.fst := by
      refine sets_fst isC w1 Y ?_
      have h2 : isC.map (fun i => (Y.map Prod.fst)[i]?) = (isC.map (fun i => Y[i]?)).map (Option.map Prod.fst) := by
        rw [List.map_map]; refine List.map_congr_left (fun i _ => ?_); rw [List.getElem?_map]; rfl
      rw [h2, hC, List.map_map]
      have h3 : wc.map (Option.map Prod.fst ∘ some) = (wc.map Prod.fst).map some := by rw [List.map_map]; rfl
      rw [h3, ← ha, List.map_map]; rfl
    rw [List.map_append, List.map_append, List.map_append, List.map_append, h1]
theorem PM {D : va_G} {cl : List vw_C} {X Y Z : va_W} {H : Heap} (hP : va_P D cl (X ++ (Y ++ Z)) H) : va_P D cl Y H := by
  intro k q hq
  refine hP (X.length + k) q ?_
  rw [List.getElem?_append_right (by omega), Nat.add_sub_cancel_left, List.getElem?_append_left (List.getElem?_eq_some_iff.mp hq).1]; exact hq
theorem DM {A : Nat → Prop} {X Y Z : va_W} (hD : va_D A (X ++ (Y ++ Z))) : va_D A Y := by
  have h : ∀ (k : Nat) (q : Nat × va_E), Y[k]? = some q → (X ++ (Y ++ Z))[X.length + k]? = some q := by
    intro k q hq
    rw [List.getElem?_append_right (by omega), Nat.add_sub_cancel_left, List.getElem?_append_left (List.getElem?_eq_some_iff.mp hq).1]; exact hq
  refine ⟨fun i j p q hp hq e => ?_, fun k q hq => hD.2 _ q (h k q hq)⟩
  have := hD.1 _ _ p q (h i p hp) (h j q hq) e
  omega
theorem PMp {D : va_G} {cl : List vw_C} {A : Nat → Prop} {Y Y' Z : va_W} {H : Heap} (hP : va_P D cl (Y ++ Z) H) (hD : va_D A (Y ++ Z)) (is : List Nat) (hs : is.map (fun i => Y[i]?) = Y'.map some) (hn : va_nd is = true) : va_P D cl (Y' ++ Z) H ∧ va_D A (Y' ++ Z) := by
  have hP' : va_P D cl ([] ++ (Y ++ Z)) H := hP
  have hD' : va_D A ([] ++ (Y ++ Z)) := hD
  have hPz : va_P D cl Z H := fun k q hq => hP (Y.length + k) q (by rw [List.getElem?_append_right (by omega), Nat.add_sub_cancel_left]; exact hq)
  have hDz : va_D A Z := by
    have h : ∀ (k : Nat) (q : Nat × va_E), Z[k]? = some q → (Y ++ Z)[Y.length + k]? = some q := fun k q hq => by rw [List.getElem?_append_right (by omega), Nat.add_sub_cancel_left]; exact hq
    refine ⟨fun i j p q hp hq e => ?_, fun k q hq => hD.2 _ q (h k q hq)⟩
    have := hD.1 _ _ p q (h i p hp) (h j q hq) e
    omega
  have hPy : va_P D cl Y' H := by
    intro k q hq
    obtain ⟨i, _, hY⟩ := at_of hs hq
    exact PM hP' i q hY
  refine ⟨hPy.app hPz, va_D.app ((DM hD').sub is hn hs) hDz (fun i j p q hp hq e => ?_)⟩
  obtain ⟨k, _, hY⟩ := at_of hs hp
  have hl := (List.getElem?_eq_some_iff.mp hY).1
  have h1 : (Y ++ Z)[k]? = some p := by rw [List.getElem?_append_left hl]; exact hY
  have h2 : (Y ++ Z)[Y.length + j]? = some q := by rw [List.getElem?_append_right (by omega), Nat.add_sub_cancel_left]; exact hq
  have := hD.1 _ _ p q h1 h2 e
  omega
theorem PML {D : va_G} {cl : List vw_C} {Y Z : va_W} {H : Heap} (hP : va_P D cl (Y ++ Z) H) : va_P D cl Y H := PM (X := []) hP
theorem DML {A : Nat → Prop} {Y Z : va_W} (hD : va_D A (Y ++ Z)) : va_D A Y := DM (X := []) hD
theorem va_freeM {A0 : Nat → Prop} {X Y Z wc : va_W} {H0 H : Heap} {locs : List Loc} (hD : va_D A0 (X ++ (Y ++ Z))) (hS : va_S A0 H0 H locs) (hA : ∀ q, H0.size ≤ q → A0 q) (isC : List Nat) (hC : isC.map (fun i => Y[i]?) = wc.map some) : ∀ q, va_A wc H.size q → A0 q := va_free (DM hD) hS hA isC hC
section CM
variable {p : Program} {l : Launch} {e : Env} {R : Room} {s : State} {m : MethodId} {args : Array Value} {below : List Frame} {meth : Method} {c : Code} {H : Heap} {locs : List Loc} {cells slots : Nat} {Q : State → Prop}
variable {pc mc ms : Nat} {ls : Array Slot} {rest st0 : List Value} {A : Nat → Prop} {H0 : Heap} {D : va_G} {cl : List vw_C} {X Y Z wc : va_W}
theorem jm_i {S : Type} {post : Int32 → S → Prop} {wo : S → va_W} {a : Array Value} (hr : va_Run p l e R s m args below meth c H locs cells slots mc ms (F0 m pc ls st0) rest (Qi D cl post wo (va_A wc H.size) a) (va_A wc H.size)) (hP : va_P D cl (X ++ (Y ++ Z)) H) (hD : va_D A (X ++ (Y ++ Z))) (hS : va_S A H0 H locs) (hA : ∀ q : Nat, H0.size ≤ q → A q) (isC : List Nat) (hC : isC.map (fun i => Y[i]?) = wc.map some) (ha : ∀ u : S, (wo u).map Prod.fst = wc.map Prod.fst)
    (kk : ∀ (r : Int32) (u : S) (H1 : Heap) (locs1 : List Loc), post r u → va_P D cl (X ++ (sets Y isC (wo u) ++ Z)) H1 → va_D A (X ++ (sets Y isC (wo u) ++ Z)) → va_S A H0 H1 locs1 → W p l e R s m args below meth c H1 locs1 (cells + mc) (slots + ms) Q (F0 m (pc + 3) ls (.int r :: rest))) : W p l e R s m args below meth c H locs cells slots Q (F0 m pc ls st0) := by
  have hFc := va_freeM hD hS hA isC hC
  refine va_calli hr hS (fun q _ h => hFc q h) hFc (fun r u t H1 locs1 ht hvm hw hB hz1 hk1 hS1 => ?_)
  obtain ⟨hP1, hD1⟩ := hB
  rw [ht] at hP1
  obtain ⟨hP2, hD2⟩ := jm_core hP hD isC hC hk1 hP1 (ha u)
  exact kk r u H1 locs1 hw hP2 hD2 hS1
theorem jm_l {S : Type} {post : Int64 → S → Prop} {wo : S → va_W} {a : Array Value} (hr : va_Run p l e R s m args below meth c H locs cells slots mc ms (F0 m pc ls st0) rest (Ql D cl post wo (va_A wc H.size) a) (va_A wc H.size)) (hP : va_P D cl (X ++ (Y ++ Z)) H) (hD : va_D A (X ++ (Y ++ Z))) (hS : va_S A H0 H locs) (hA : ∀ q : Nat, H0.size ≤ q → A q) (isC : List Nat) (hC : isC.map (fun i => Y[i]?) = wc.map some) (ha : ∀ u : S, (wo u).map Prod.fst = wc.map Prod.fst)
    (kk : ∀ (r : Int64) (u : S) (H1 : Heap) (locs1 : List Loc), post r u → va_P D cl (X ++ (sets Y isC (wo u) ++ Z)) H1 → va_D A (X ++ (sets Y isC (wo u) ++ Z)) → va_S A H0 H1 locs1 → W p l e R s m args below meth c H1 locs1 (cells + mc) (slots + ms) Q (F0 m (pc + 3) ls (.long r :: rest))) : W p l e R s m args below meth c H locs cells slots Q (F0 m pc ls st0) := by
  have hFc := va_freeM hD hS hA isC hC
  refine va_calll hr hS (fun q _ h => hFc q h) hFc (fun r u t H1 locs1 ht hvm hw hB hz1 hk1 hS1 => ?_)
  obtain ⟨hP1, hD1⟩ := hB
  rw [ht] at hP1
  obtain ⟨hP2, hD2⟩ := jm_core hP hD isC hC hk1 hP1 (ha u)
  exact kk r u H1 locs1 hw hP2 hD2 hS1
theorem jq_i {post : Int32 → Prop} {a : Array Value} {ws : va_W} (hr : va_Run p l e R s m args below meth c H locs cells slots 0 0 (F0 m pc ls st0) rest (Ri post a) (fun _ => False)) (hP : va_P D cl ws H) (hS : va_S A H0 H locs)
    (kk : ∀ (r : Int32) (H1 : Heap) (locs1 : List Loc), post r → va_P D cl ws H1 → va_S A H0 H1 locs1 → W p l e R s m args below meth c H1 locs1 cells slots Q (F0 m (pc + 3) ls (.int r :: rest))) : W p l e R s m args below meth c H locs cells slots Q (F0 m pc ls st0) :=
  jr_i hr hP hS kk
theorem jmL_i {S : Type} {post : Int32 → S → Prop} {wo : S → va_W} {a : Array Value} (hr : va_Run p l e R s m args below meth c H locs cells slots mc ms (F0 m pc ls st0) rest (Qi D cl post wo (va_A wc H.size) a) (va_A wc H.size)) (hP : va_P D cl (Y ++ Z) H) (hD : va_D A (Y ++ Z)) (hS : va_S A H0 H locs) (hA : ∀ q : Nat, H0.size ≤ q → A q) (isC : List Nat) (hC : isC.map (fun i => Y[i]?) = wc.map some) (ha : ∀ u : S, (wo u).map Prod.fst = wc.map Prod.fst)
    (kk : ∀ (r : Int32) (u : S) (H1 : Heap) (locs1 : List Loc), post r u → va_P D cl (sets Y isC (wo u) ++ Z) H1 → va_D A (sets Y isC (wo u) ++ Z) → va_S A H0 H1 locs1 → W p l e R s m args below meth c H1 locs1 (cells + mc) (slots + ms) Q (F0 m (pc + 3) ls (.int r :: rest))) : W p l e R s m args below meth c H locs cells slots Q (F0 m pc ls st0) :=
  jm_i (X := []) hr hP hD hS hA isC hC ha kk
theorem jmL_l {S : Type} {post : Int64 → S → Prop} {wo : S → va_W} {a : Array Value} (hr : va_Run p l e R s m args below meth c H locs cells slots mc ms (F0 m pc ls st0) rest (Ql D cl post wo (va_A wc H.size) a) (va_A wc H.size)) (hP : va_P D cl (Y ++ Z) H) (hD : va_D A (Y ++ Z)) (hS : va_S A H0 H locs) (hA : ∀ q : Nat, H0.size ≤ q → A q) (isC : List Nat) (hC : isC.map (fun i => Y[i]?) = wc.map some) (ha : ∀ u : S, (wo u).map Prod.fst = wc.map Prod.fst)
    (kk : ∀ (r : Int64) (u : S) (H1 : Heap) (locs1 : List Loc), post r u → va_P D cl (sets Y isC (wo u) ++ Z) H1 → va_D A (sets Y isC (wo u) ++ Z) → va_S A H0 H1 locs1 → W p l e R s m args below meth c H1 locs1 (cells + mc) (slots + ms) Q (F0 m (pc + 3) ls (.long r :: rest))) : W p l e R s m args below meth c H locs cells slots Q (F0 m pc ls st0) :=
  jm_l (X := []) hr hP hD hS hA isC hC ha kk
end CM

