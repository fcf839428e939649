/-! the class's table of fewest times -/
theorem fw_ld {f : Nat → Int32} {z i : Int32} {d x p : Int} {k : Nat} (e : z = f i.toNatClampNeg) (hi : i.toInt = 256 * (d + 1) + x - p) (hd : 0 ≤ d) (hp : 0 ≤ p ∧ p ≤ x) (hk : (k : Int) = x - p) (hv : ∀ j : Nat, (j : Int) ≤ x → 0 ≤ (f (256 * (d.toNat + 1) + j)).toInt ∧ (f (256 * (d.toNat + 1) + j)).toInt ≤ 1000) : z.toInt = (((f (256 * (d.toNat + 1) + k)).toInt.toNat : Nat) : Int) ∧ 0 ≤ z.toInt ∧ z.toInt ≤ 1000 := by
  have h1 := cl_nn (x := i) (by omega)
  have h2 : i.toNatClampNeg = 256 * (d.toNat + 1) + k := by omega
  have h3 := hv k (by omega)
  rw [e, h2]
  exact ⟨by omega, h3.1, h3.2⟩
theorem fw_M_s {X W S n : Nat} {f : Nat → Nat} {b b2 z y n2 : Int} (h : b = ((fw_M X W f S n : Nat) : Int)) (hn : n * W ≤ S) (hz : z = ((f (S - n * W) : Nat) : Int)) (hy : y = z + (n : Int)) (h1 : b2 ≤ b) (h2 : b2 ≤ y) (h3 : b2 = b ∨ b2 = y) (hn2 : n2 = (n : Int) + 1) : b2 = ((fw_M X W f S n2.toNat : Nat) : Int) := by
  rw [show n2.toNat = n + 1 by omega, fw_M_y hn]
  rw [h] at h1 h3
  rw [hy, hz] at h2 h3
  omega
theorem fw_M_e {X W S n t : Nat} {f : Nat → Nat} {b : Int} (h : b = ((fw_M X W f S n : Nat) : Int)) (hk : n = t ∨ (S < n * W ∧ n ≤ t)) : b = ((fw_M X W f S t : Nat) : Int) := by
  rcases hk with hk | ⟨h1, h2⟩
  · rw [← hk]; exact h
  · rw [fw_M_stop t h2 h1]; exact h
/-- no number below n will do -/
def fwI (W : Nat) (f : Nat → Nat) (S v : Nat) (n : Int) : Prop := ∀ m : Nat, (m : Int) < n → fw_p W f S v m = false
theorem fwI_0 {W S v : Nat} {f : Nat → Nat} {n : Int} (h : n ≤ 0) : fwI W f S v n := fun m hm => absurd hm (by omega)
theorem fwI_s {W S v n : Nat} {f : Nat → Nat} {n1 n2 z : Int} (h : fwI W f S v n1) (h1 : n1 = (n : Int)) (hn2 : n2 = n1 + 1) (hn : n * W ≤ S) (hz : z = ((f (S - n * W) : Nat) : Int)) (hne : ¬ (z + n1 = (v : Int))) : fwI W f S v n2 := by
  intro m hm
  by_cases c : m = n
  · rw [c]; exact fw_p_f (fun q => hne (by rw [hz, h1, ← q.2]; omega))
  · exact h m (by omega)
theorem fwI_at {W S v n t : Nat} {f : Nat → Nat} {n1 z : Int} (h : fwI W f S v n1) (h1 : n1 = (n : Int)) (hn : n * W ≤ S) (hz : z = ((f (S - n * W) : Nat) : Int)) (he : z + n1 = (v : Int)) (ht : n < t) : n1 = ((fw_n W f S v t : Nat) : Int) := by
  have q := fw_F_at (p := fw_p W f S v) t 0 n (Nat.zero_le _) (by omega) (fw_p_t ⟨hn, by omega⟩) (fun m _ hm => h m (by omega))
  rw [h1]; unfold fw_n; rw [q]
theorem fwI_no {W S v n t : Nat} {f : Nat → Nat} {n1 : Int} (h : fwI W f S v n1) (h1 : n1 = (n : Int)) (hk : t ≤ n ∨ S < n * W) : (0 : Int) = ((fw_n W f S v t : Nat) : Int) := by
  have q := fw_F_no (p := fw_p W f S v) t 0 (fun m _ hm => by
    by_cases c : (m : Int) < n1
    · exact h m c
    · rcases hk with hk | hk
      · exfalso; omega
      · refine fw_p_f (fun z => ?_)
        have := Nat.mul_le_mul_right W (show n ≤ m by omega)
        have := z.1
        omega)
  unfold fw_n; rw [q]; rfl
/-- the last row of the table -/
def fwA (F : Nat → Int32) (D : Nat) (n : Int) : Prop := ∀ j : Nat, (j : Int) < n → (F (256 * D + j)).toInt = ((fw_0 1000 j : Nat) : Int)
theorem fwA_0 {F : Nat → Int32} {D : Nat} {n : Int} (h : n ≤ 0) : fwA F D n := fun j hj => absurd hj (by omega)
theorem fwA_s {F F2 : Nat → Int32} {D : Nat} {x i v : Int32} {n n2 : Int} (h : fwA F D n) (hx : x.toInt = n) (h0 : 0 ≤ n) (hi : i.toInt = 256 * (D : Int) + n) (hn2 : n2 = n + 1) (e : F2 = upd F i.toNatClampNeg v) (hv : (n = 0 ∧ v.toInt = 0) ∨ (n ≠ 0 ∧ v.toInt = 1000)) : fwA F2 D n2 := by
  have h1 := cl_nn (x := i) (by omega)
  intro j hj
  rw [e]
  by_cases c : 256 * D + j = i.toNatClampNeg
  · rw [c, pk_us]
    unfold fw_0
    rcases hv with ⟨a, b⟩ | ⟨a, b⟩
    · rw [if_pos (by omega), b]; rfl
    · rw [if_neg (by omega), b]; rfl
  · rw [pk_un c]; exact h j (by omega)
def fwOK (F : Nat → Int32) (t w : Nat → Nat) (D : Nat) (su d p : Int) : Prop := ∀ e s : Nat, (s : Int) ≤ su → e ≤ D → (d < (e : Int) ∨ (d = (e : Int) ∧ (s : Int) < p)) → (F (256 * e + s)).toInt = ((fw_L 1000 t w D (D - e) s : Nat) : Int)
def fwT (F : Nat → Int32) (t w : Nat → Nat) (D : Nat) (su : Int) : Prop := ∀ e s : Nat, (s : Int) ≤ su → e ≤ D → (F (256 * e + s)).toInt = ((fw_L 1000 t w D (D - e) s : Nat) : Int)
theorem fwOK_0 {F : Nat → Int32} {t w : Nat → Nat} {D : Nat} {su d n : Int} (h : fwA F D n) (hn : su < n) (hd : d = (D : Int) - 1) : fwOK F t w D su d 0 := by
  intro e s h1 h2 h3
  have h4 : e = D := by
    rcases h3 with h3 | ⟨h3, h4⟩
    · omega
    · exfalso; omega
  rw [h4, Nat.sub_self]; exact h s (by omega)
theorem fwOK_b {F : Nat → Int32} {t w : Nat → Nat} {D : Nat} {su d p : Int} (h : fwOK F t w D su d p) (hd : 0 ≤ d) (hD : d < (D : Int)) {x : Int} (hx : x ≤ su) : ∀ j : Nat, (j : Int) ≤ x → 0 ≤ (F (256 * (d.toNat + 1) + j)).toInt ∧ (F (256 * (d.toNat + 1) + j)).toInt ≤ 1000 := by
  intro j hj
  have h1 := h (d.toNat + 1) j (by omega) (by omega) (Or.inl (by omega))
  have h2 := fw_L_le (X := 1000) (t := t) (w := w) (D := D) (D - (d.toNat + 1)) j
  omega
theorem fwOK_s {F F2 : Nat → Int32} {m f3 : Nat → Int32} {D : Nat} {su p p2 : Int} {d x i wv r : Int32} (h : fwOK F (fun d9 => (m d9).toInt.toNat + 1) (suWt f3) D su d.toInt p) (hd : 0 ≤ d.toInt) (hD : d.toInt < (D : Int)) (hx : x.toInt = p) (h0 : 0 ≤ p) (hp : p ≤ su) (hi : i.toInt = 256 * d.toInt + p) (hsu : su ≤ 255) (ew : wv = f3 d.toNatClampNeg) (hr : r.toInt = ((fw_M 1000 wv.toInt.toNat (fun j => (F (256 * (d.toInt.toNat + 1) + j)).toInt.toNat) x.toInt.toNat ((m d.toInt.toNat).toInt.toNat + 1) : Nat) : Int)) (e : F2 = upd F i.toNatClampNeg r) (hp2 : p2 = p + 1) : fwOK F2 (fun d9 => (m d9).toInt.toNat + 1) (suWt f3) D su d.toInt p2 := by
  have h1 := cl_nn (x := i) (by omega)
  intro e' s a1 a2 a3
  rw [e]
  by_cases c : 256 * e' + s = i.toNatClampNeg
  · have ce : e' = d.toInt.toNat := by omega
    have cs : s = x.toInt.toNat := by omega
    rw [c, pk_us, hr, show D - e' = (D - (d.toInt.toNat + 1)) + 1 by omega, fw_L_e, show D - 1 - (D - (d.toInt.toNat + 1)) = d.toInt.toNat by omega, cs]
    refine congrArg (fun q : Nat => (q : Int)) ?_
    rw [show suWt f3 d.toInt.toNat = wv.toInt.toNat by rw [ew]; rfl]
    refine fw_M_cg (fun j hj => ?_) _
    have h2 := h (d.toInt.toNat + 1) j (by omega) (by omega) (Or.inl (by omega))
    show (F _).toInt.toNat = _
    rw [h2]; rfl
  · rw [pk_un c]
    refine h e' s a1 a2 ?_
    rcases a3 with a3 | ⟨a3, a4⟩
    · exact Or.inl a3
    · exact Or.inr ⟨a3, by omega⟩
theorem fwOK_d {F : Nat → Int32} {t w : Nat → Nat} {D : Nat} {su d d2 p : Int} (h : fwOK F t w D su d p) (hp : su < p) (hd : d2 = d - 1) : fwOK F t w D su d2 0 := by
  intro e s a1 a2 a3
  refine h e s a1 a2 ?_
  rcases a3 with a3 | ⟨a3, a4⟩
  · by_cases c : d = (e : Int)
    · exact Or.inr ⟨c, by omega⟩
    · exact Or.inl (by omega)
  · exfalso; omega
theorem fwOK_a {F : Nat → Int32} {t w : Nat → Nat} {D : Nat} {su d p : Int} (h : fwOK F t w D su d p) (hd : d < 0) : fwT F t w D su := fun e s a1 a2 => h e s a1 a2 (Or.inl (by omega))
theorem fwT_b {F : Nat → Int32} {t w : Nat → Nat} {D : Nat} {su d x : Int} (h : fwT F t w D su) (hd : 0 ≤ d) (hD : d < (D : Int)) (hx : x ≤ su) : ∀ j : Nat, (j : Int) ≤ x → 0 ≤ (F (256 * (d.toNat + 1) + j)).toInt ∧ (F (256 * (d.toNat + 1) + j)).toInt ≤ 1000 := by
  intro j hj
  have h1 := h (d.toNat + 1) j (by omega) (by omega)
  have h2 := fw_L_le (X := 1000) (t := t) (w := w) (D := D) (D - (d.toNat + 1)) j
  omega
theorem fwT_n {F : Nat → Int32} {t w : Nat → Nat} {D : Nat} {su d x : Int} (h : fwT F t w D su) (hd : 0 ≤ d) (hD : d < (D : Int)) (h0 : 0 ≤ x) (hx : x ≤ su) : 0 ≤ (F (256 * d.toNat + x.toNat)).toInt := by
  have h1 := h d.toNat x.toNat (by omega) (by omega)
  omega
theorem fwT_Q {F m f3 : Nat → Int32} {D : Nat} {su : Int} {d x wv r : Int32} (h : fwT F (fun d9 => (m d9).toInt.toNat + 1) (suWt f3) D su) (hd : 0 ≤ d.toInt) (hD : d.toInt < (D : Int)) (hl : x.toInt = ((fw_l 1000 (fun d9 => (m d9).toInt.toNat + 1) (suWt f3) D su.toNat d.toInt.toNat : Nat) : Int)) (hx : x.toInt ≤ su) (ew : wv = f3 d.toNatClampNeg) (hr : r.toInt = ((fw_n wv.toInt.toNat (fun j => (F (256 * (d.toInt.toNat + 1) + j)).toInt.toNat) x.toInt.toNat (F (256 * d.toInt.toNat + x.toInt.toNat)).toInt.toNat ((m d.toInt.toNat).toInt.toNat + 1) : Nat) : Int)) : r.toInt = ((fw_Q 1000 (fun d9 => (m d9).toInt.toNat + 1) (suWt f3) D su.toNat d.toInt.toNat : Nat) : Int) := by
  have hx2 : x.toInt.toNat = fw_l 1000 (fun d9 => (m d9).toInt.toNat + 1) (suWt f3) D su.toNat d.toInt.toNat := by omega
  have hv : (F (256 * d.toInt.toNat + x.toInt.toNat)).toInt.toNat = fw_L 1000 (fun d9 => (m d9).toInt.toNat + 1) (suWt f3) D (D - d.toInt.toNat) x.toInt.toNat := by
    rw [h d.toInt.toNat x.toInt.toNat (by omega) (by omega)]; rfl
  rw [hr, hv]
  refine congrArg (fun q : Nat => (q : Int)) ?_
  unfold fw_Q
  rw [← hx2, show suWt f3 d.toInt.toNat = wv.toInt.toNat by rw [ew]; rfl]
  refine fw_n_cg (fun j hj => ?_)
  have h2 := h (d.toInt.toNat + 1) j (by omega) (by omega)
  show (F _).toInt.toNat = _
  rw [h2]; rfl
theorem fw_l_s {X D S : Nat} {t : Nat → Nat} {f3 : Nat → Int32} {x x2 d wv r z : Int32} {d2 : Int} (hl : x.toInt = ((fw_l X t (suWt f3) D S d.toInt.toNat : Nat) : Int)) (hr : r.toInt = ((fw_Q X t (suWt f3) D S d.toInt.toNat : Nat) : Int)) (ew : wv = f3 d.toNatClampNeg) (hw : 0 ≤ wv.toInt) (hz : z.toInt = r.toInt * wv.toInt) (hzx : z.toInt ≤ x.toInt) (h2 : x2.toInt = x.toInt - z.toInt) (hd : 0 ≤ d.toInt) (hd2 : d2 = d.toInt + 1) : x2.toInt = ((fw_l X t (suWt f3) D S d2.toNat : Nat) : Int) := by
  have h3 := su_cast hz (by omega) hw
  rw [show d2.toNat = d.toInt.toNat + 1 by omega, fw_l_e, show suWt f3 d.toInt.toNat = wv.toInt.toNat by rw [ew]; rfl]
  have h4 : fw_Q X t (suWt f3) D S d.toInt.toNat = r.toInt.toNat := by omega
  rw [h4]; omega
/-- so many deeds of a row are added -/
def fwAd (q0 q : Nat → Int32) (a : Nat → Nat) (d : Int) : Prop := (∀ j : Nat, (j : Int) < d → (q j).toInt = (q0 j).toInt + (a j : Int)) ∧ (∀ j : Nat, d ≤ (j : Int) → q j = q0 j)
theorem fwAd_0 {q0 : Nat → Int32} {a : Nat → Nat} {d : Int} (h : d ≤ 0) : fwAd q0 q0 a d := ⟨fun j hj => absurd hj (by omega), fun _ _ => rfl⟩
theorem fwAd_v {q0 q : Nat → Int32} {a : Nat → Nat} {d z : Int32} (h : fwAd q0 q a d.toInt) (hd : 0 ≤ d.toInt) (e : z = q d.toNatClampNeg) : z.toInt = (q0 d.toNatClampNeg).toInt := by
  have h1 := cl_nn (x := d) hd
  rw [e, h.2 _ (by omega)]
theorem fwAd_s {q0 q q2 : Nat → Int32} {a : Nat → Nat} {d z v r : Int32} {d2 : Int} (h : fwAd q0 q a d.toInt) (hd : 0 ≤ d.toInt) (e : z = q d.toNatClampNeg) (hr : r.toInt = ((a d.toInt.toNat : Nat) : Int)) (hv : v.toInt = z.toInt + r.toInt) (e2 : q2 = upd q d.toNatClampNeg v) (hd2 : d2 = d.toInt + 1) : fwAd q0 q2 a d2 := by
  have h1 := cl_nn (x := d) hd
  have h2 := fwAd_v h hd e
  refine ⟨fun j hj => ?_, fun j hj => ?_⟩
  · rw [e2]
    by_cases c : j = d.toNatClampNeg
    · rw [c, pk_us, hv, h2, hr]; rfl
    · rw [pk_un c]; exact h.1 j (by omega)
  · rw [e2, pk_un (by omega)]; exact h.2 j (by omega)
set_option maxHeartbeats 4000000 in
set_option maxRecDepth 100000 in
theorem t_fewestFrom (l : Launch) (dC : Nat → ClassId) (dI : Nat → Nat → Nat) (cy : Nat → ClassId) (vs : Nat) (vs1 : Nat) (vs2 : Nat) (vs3 : Nat) (vsm : Nat → Int32) (vsf : Nat → Int32) (vd : Int32) (vx : Int32) (vwe : Int32) (r_vd : 0 ≤ (vd : Int32).toInt ∧ (vd : Int32).toInt ≤ 9) (r_vx : 0 ≤ (vx : Int32).toInt ∧ (vx : Int32).toInt ≤ 255) (r_vwe : 0 ≤ (vwe : Int32).toInt ∧ (vwe : Int32).toInt ≤ 40) (p_vsm : Rg vsm 10 0 9) (hv : ∀ j : Nat, (j : Int) ≤ (vx : Int32).toInt → 0 ≤ (vsf (256 * ((vd : Int32).toInt.toNat + 1) + j)).toInt ∧ (vsf (256 * ((vd : Int32).toInt.toNat + 1) + j)).toInt ≤ 1000) : Met l yX7_fewestFrom (wl yX7_fewestFrom cX7_fewestFrom 6 (some .int)) ({ frames := 1, cells := 0, slots := 0, locals := 64 }) (Pr (dC, dI) vwCl cy [(vs, .inr (8, [.ref vs1, .ref vs2, .ref vs3])), (vs1, .inl (cy 0, 10, .inl vsm)), (vs2, .inl (cy 0, 2816, .inl vsf))] [.ref vs, .int vd, .int vx, .int vwe]) (Ri (fun r => (0 ≤ (r : Int32).toInt ∧ (r : Int32).toInt ≤ 1000) ∧ ((r : Int32).toInt = ((fw_M 1000 (vwe : Int32).toInt.toNat (fun j => (vsf (256 * ((vd : Int32).toInt.toNat + 1) + j)).toInt.toNat) (vx : Int32).toInt.toNat ((vsm (vd : Int32).toInt.toNat).toInt.toNat + 1) : Nat) : Int)))) 0 0 (fun _ => False) := by
  refine mr RX7 rfl (by decide +kernel) (Nat.le_of_ble_eq_true rfl) ?_
  intro p e s m below meth c hx hb hr hlocks av9 hav hts hown hml hK hP hS Q9 hQ9 ls hl
  have hl : lv_has ls 6 [(0, .ref vs), (1, .int vd), (2, .int vx), (3, .int vwe)] := hl
  refine lv_sipush (v := 1000) hx hb dX7_fewestFrom_0 (by decide) ?_
  refine lv_istore (lv' := [(4, .int 1000), (0, .ref vs), (1, .int vd), (2, .int vx), (3, .int vwe)]) hx hb dX7_fewestFrom_3 hl (by decide) rfl (fun ls hl => ?_)
  refine lv_iconst (v := 0) hx hb dX7_fewestFrom_5 (by decide) ?_
  refine lv_istore (lv' := [(5, .int 0), (4, .int 1000), (0, .ref vs), (1, .int vd), (2, .int vx), (3, .int vwe)]) hx hb dX7_fewestFrom_6 hl (by decide) rfl (fun ls hl => ?_)
  have loop1 : ∀ (n1 : Nat) (x_3 : Int32) (x_2 : Int32), (0 ≤ x_3.toInt ∧ x_3.toInt ≤ 1000) → (0 ≤ x_2.toInt ∧ x_2.toInt ≤ 10) → (x_3.toInt = ((fw_M 1000 vwe.toInt.toNat (fun j => (vsf (256 * (vd.toInt.toNat + 1) + j)).toInt.toNat) vx.toInt.toNat (x_2.toInt).toNat : Nat) : Int)) → (x_2.toInt ≤ (vsm vd.toInt.toNat).toInt + 1) → 10 - x_2.toInt < (n1 : Int) → ∀ (H : Heap) (locs : List Loc), va_P (dC, dI) vwCl [(vs, .inr (8, [.ref vs1, .ref vs2, .ref vs3])), (vs1, .inl (cy 0, 10, .inl vsm)), (vs2, .inl (cy 0, 2816, .inl vsf))] H → va_S (fun _ => False) s.heap H locs → ∀ ls : Array Slot, lv_has ls 6 [(5, .int x_2), (4, .int x_3), (0, .ref vs), (1, .int vd), (2, .int vx), (3, .int vwe)] → W p l e ({ frames := 1, cells := 0, slots := 0, locals := 64 }) s m av9 below meth c H locs 0 0 Q9 (F0 m 8 ls []) := by
    intro n1
    induction n1 with
    | zero =>
      intro x_3 x_2 bx_3 bx_2 v1_0 v1_1 hn1 H locs hP hS ls hl
      exfalso; omega
    | succ n1 ih1 =>
      intro x_3 x_2 bx_3 bx_2 v1_0 v1_1 hn1 H locs hP hS ls hl
      refine lv_iload hx hb dX7_fewestFrom_8 (lv_at hl 0 rfl) ?_
      refine lv_aload_n hx hb dX7_fewestFrom_10 rfl (lv_at hl 2 rfl) ?_
      refine gf_X7_9 hx hb hts hown hK hP 0 rfl rfl dX7_fewestFrom_11 ?_
      refine lv_iload_n hx hb dX7_fewestFrom_14 rfl (lv_at hl 3 rfl) ?_
      have hin_4 : vp_in vd 10 := vp_in_iff.mpr ⟨by omega, by omega⟩
      refine va_iald hx hb hK hP 1 0 rfl rfl hin_4 dX7_fewestFrom_15 ?_
      refine lv_topi (fun z_5 ez_5 => ?_)
      have bz_5 := p_vsm.at hin_4 ez_5
      have hmz_5 : z_5.toInt = (vsm vd.toInt.toNat).toInt := by rw [ez_5]; rfl
      refine lv_icmp_gt (tgt := 62) hx hb dX7_fewestFrom_16 (by decide) (fun c_6 => ?_) (fun c_6 => ?_)
      · skip
        have c_6 : z_5.toInt < x_2.toInt := i_lt.mp c_6
        refine lv_iload hx hb dX7_fewestFrom_62 (lv_at hl 1 rfl) ?_
        rw [hQ9]
        exact rr_i hx hb hr hlocks ⟨(show 0 ≤ (x_3 : Int32).toInt ∧ (x_3 : Int32).toInt ≤ 1000 from ⟨by omega, by omega⟩), (show (x_3 : Int32).toInt = ((fw_M 1000 (vwe : Int32).toInt.toNat (fun j => (vsf (256 * ((vd : Int32).toInt.toNat + 1) + j)).toInt.toNat) (vx : Int32).toInt.toNat ((vsm (vd : Int32).toInt.toNat).toInt.toNat + 1) : Nat) : Int) from (fw_M_e v1_0 (Or.inl (by omega))))⟩ hS dX7_fewestFrom_64
      · skip
        have c_6 : ¬ (z_5.toInt < x_2.toInt) := fun h9 => c_6 (i_lt.mpr h9)
        refine lv_iload hx hb dX7_fewestFrom_19 (lv_at hl 0 rfl) ?_
        refine lv_iload_n hx hb dX7_fewestFrom_21 rfl (lv_at hl 5 rfl) ?_
        refine lv_imul hx hb dX7_fewestFrom_22 ?_
        refine lv_topi (fun z_7 ez_7 => ?_)
        have bz_7 : 0 ≤ z_7.toInt ∧ z_7.toInt ≤ 360 ∧ z_7.toInt = x_2.toInt * vwe.toInt := i_mulb (A := 9) (B := 40) ez_7 ⟨by omega, by omega⟩ ⟨by omega, by omega⟩ (by decide)
        refine lv_iload_n hx hb dX7_fewestFrom_23 rfl (lv_at hl 4 rfl) ?_
        refine lv_icmp_gt (tgt := 62) hx hb dX7_fewestFrom_24 (by decide) (fun c_8 => ?_) (fun c_8 => ?_)
        · skip
          have c_8 : vx.toInt < z_7.toInt := i_lt.mp c_8
          refine lv_iload hx hb dX7_fewestFrom_62 (lv_at hl 1 rfl) ?_
          rw [hQ9]
          exact rr_i hx hb hr hlocks ⟨(show 0 ≤ (x_3 : Int32).toInt ∧ (x_3 : Int32).toInt ≤ 1000 from ⟨by omega, by omega⟩), (show (x_3 : Int32).toInt = ((fw_M 1000 (vwe : Int32).toInt.toNat (fun j => (vsf (256 * ((vd : Int32).toInt.toNat + 1) + j)).toInt.toNat) (vx : Int32).toInt.toNat ((vsm (vd : Int32).toInt.toNat).toInt.toNat + 1) : Nat) : Int) from (fw_M_e v1_0 (Or.inr ⟨by have h9 := (su_cast bz_7.2.2 (by omega) (by omega)); omega, by omega⟩)))⟩ hS dX7_fewestFrom_64
        · skip
          have c_8 : ¬ (vx.toInt < z_7.toInt) := fun h9 => c_8 (i_lt.mpr h9)
          refine lv_iload hx hb dX7_fewestFrom_27 (lv_at hl 1 rfl) ?_
          refine lv_aload_n hx hb dX7_fewestFrom_29 rfl (lv_at hl 2 rfl) ?_
          refine gf_X7_15 hx hb hts hown hK hP 0 rfl rfl dX7_fewestFrom_30 ?_
          refine lv_iload_n hx hb dX7_fewestFrom_33 rfl (lv_at hl 3 rfl) ?_
          refine lv_iconst (v := 1) hx hb dX7_fewestFrom_34 (by decide) ?_
          refine lv_iadd hx hb dX7_fewestFrom_35 ?_
          refine lv_topi (fun z_9 ez_9 => ?_)
          have k_1 : (1 : Int32).toInt = 1 := by decide
          have bz_9 : z_9.toInt = vd.toInt + (1 : Int32).toInt := i_add ez_9 (by omega) (by omega)
          refine lv_sipush (v := 256) hx hb dX7_fewestFrom_36 (by decide) ?_
          refine lv_imul hx hb dX7_fewestFrom_39 ?_
          refine lv_topi (fun z_10 ez_10 => ?_)
          have k_256 : (256 : Int32).toInt = 256 := by decide
          have bz_10 : z_10.toInt = z_9.toInt * 256 := i_mulc k_256 ez_10 (by omega) (by omega)
          refine lv_iload_n hx hb dX7_fewestFrom_40 rfl (lv_at hl 4 rfl) ?_
          refine lv_iadd hx hb dX7_fewestFrom_41 ?_
          refine lv_topi (fun z_11 ez_11 => ?_)
          have bz_11 : z_11.toInt = z_10.toInt + vx.toInt := i_add ez_11 (by omega) (by omega)
          refine lv_iload hx hb dX7_fewestFrom_42 (lv_at hl 0 rfl) ?_
          refine lv_iload_n hx hb dX7_fewestFrom_44 rfl (lv_at hl 5 rfl) ?_
          refine lv_imul hx hb dX7_fewestFrom_45 ?_
          refine lv_topi (fun z_12 ez_12 => ?_)
          have bz_12 : 0 ≤ z_12.toInt ∧ z_12.toInt ≤ 360 ∧ z_12.toInt = x_2.toInt * vwe.toInt := i_mulb (A := 9) (B := 40) ez_12 ⟨by omega, by omega⟩ ⟨by omega, by omega⟩ (by decide)
          refine lv_isub hx hb dX7_fewestFrom_46 ?_
          refine lv_topi (fun z_13 ez_13 => ?_)
          have bz_13 : z_13.toInt = z_11.toInt - z_12.toInt := i_sub ez_13 (by omega) (by omega)
          have hin_14 : vp_in z_13 2816 := vp_in_iff.mpr ⟨by omega, by omega⟩
          refine va_iald hx hb hK hP 2 0 rfl rfl hin_14 dX7_fewestFrom_47 ?_
          refine lv_topi (fun z_15 ez_15 => ?_)
          have hkz_15 := (su_cast bz_12.2.2 (by omega) (by omega))
          have hfz_15 := fw_ld (d := vd.toInt) (x := vx.toInt) (p := z_12.toInt) (k := vx.toInt.toNat - x_2.toInt.toNat * vwe.toInt.toNat) ez_15 (by omega) (by omega) ⟨by omega, by omega⟩ (by omega) hv
          refine lv_iload hx hb dX7_fewestFrom_48 (lv_at hl 0 rfl) ?_
          refine lv_iadd hx hb dX7_fewestFrom_50 ?_
          refine lv_topi (fun z_16 ez_16 => ?_)
          have bz_16 : z_16.toInt = z_15.toInt + x_2.toInt := i_add ez_16 (by omega) (by omega)
          refine va_mmin hx hb (by rw [hml, hl.1]) hown (hts _ t920) (hts _ t783) (hts _ t24) (hts _ t784) (Nat.le_of_ble_eq_true rfl) (Nat.le_of_ble_eq_true rfl) (Nat.zero_le _) (Nat.zero_le _) dX7_fewestFrom_51 ?_
          refine lv_topi (fun z_17 ez_17 => ?_)
          have bz_17 : z_17.toInt ≤ x_3.toInt ∧ z_17.toInt ≤ z_16.toInt ∧ (z_17.toInt = x_3.toInt ∨ z_17.toInt = z_16.toInt) := i_min ez_17
          refine lv_istore (lv' := [(4, .int z_17), (5, .int x_2), (0, .ref vs), (1, .int vd), (2, .int vx), (3, .int vwe)]) hx hb dX7_fewestFrom_54 hl (by decide) rfl (fun ls hl => ?_)
          obtain ⟨z_18, ez_18⟩ : ∃ z : Int32, z = x_2 + 1 := ⟨_, rfl⟩
          have bz_18 : z_18.toInt = x_2.toInt + (1 : Int32).toInt := i_add ez_18 (by omega) (by omega)
          refine lv_iinc (v := z_18) (lv' := [(5, .int z_18), (4, .int z_17), (0, .ref vs), (1, .int vd), (2, .int vx), (3, .int vwe)]) hx hb dX7_fewestFrom_56 hl (k := 1) rfl ez_18.symm (by decide) rfl (fun ls hl => ?_)
          refine lv_goto (tgt := 8) hx hb dX7_fewestFrom_59 (by decide) ?_
          exact ih1 z_17 z_18 ⟨by omega, by omega⟩ ⟨by omega, by omega⟩ (fw_M_s (n := x_2.toInt.toNat) (z := z_15.toInt) (y := z_16.toInt) v1_0 (by omega) hfz_15.1 (by omega) (by omega) (by omega) (by omega) (by omega)) (by omega) (by omega) _ _ (hP.sub [0, 1, 2] rfl) hS ls (lv_sub hl [0, 1, 2, 3, 4, 5] rfl)
  have k_1000 : (1000 : Int32).toInt = 1000 := by decide
  have k_0 : (0 : Int32).toInt = 0 := by decide
  exact loop1 ((10 - (0 : Int32).toInt).toNat + 1) 1000 0 ⟨by omega, by omega⟩ ⟨by omega, by omega⟩ (by rw [show (0 : Int32).toInt.toNat = 0 from rfl]; rfl) (by have h9 := (p_vsm vd.toInt.toNat (by omega)).1; omega) (by omega) _ _ hP hS ls (lv_sub hl [0, 1, 2, 3, 4, 5] rfl)
set_option maxHeartbeats 4000000 in
set_option maxRecDepth 100000 in
theorem t_firstTimes (l : Launch) (dC : Nat → ClassId) (dI : Nat → Nat → Nat) (cy : Nat → ClassId) (vs : Nat) (vs1 : Nat) (vs2 : Nat) (vs3 : Nat) (vsm : Nat → Int32) (vsf : Nat → Int32) (vd : Int32) (vx : Int32) (vwe : Int32) (r_vd : 0 ≤ (vd : Int32).toInt ∧ (vd : Int32).toInt ≤ 9) (r_vx : 0 ≤ (vx : Int32).toInt ∧ (vx : Int32).toInt ≤ 255) (r_vwe : 0 ≤ (vwe : Int32).toInt ∧ (vwe : Int32).toInt ≤ 40) (p_vsm : Rg vsm 10 0 9) (hv : ∀ j : Nat, (j : Int) ≤ (vx : Int32).toInt → 0 ≤ (vsf (256 * ((vd : Int32).toInt.toNat + 1) + j)).toInt ∧ (vsf (256 * ((vd : Int32).toInt.toNat + 1) + j)).toInt ≤ 1000) (hv0 : 0 ≤ (vsf (256 * (vd : Int32).toInt.toNat + (vx : Int32).toInt.toNat)).toInt) : Met l yX7_firstTimes (wl yX7_firstTimes cX7_firstTimes 5 (some .int)) ({ frames := 0, cells := 0, slots := 0, locals := 0 }) (Pr (dC, dI) vwCl cy [(vs, .inr (8, [.ref vs1, .ref vs2, .ref vs3])), (vs1, .inl (cy 0, 10, .inl vsm)), (vs2, .inl (cy 0, 2816, .inl vsf))] [.ref vs, .int vd, .int vx, .int vwe]) (Ri (fun r => (0 ≤ (r : Int32).toInt ∧ (r : Int32).toInt ≤ 9) ∧ ((r : Int32).toInt * (vwe : Int32).toInt ≤ (vx : Int32).toInt) ∧ ((r : Int32).toInt = ((fw_n (vwe : Int32).toInt.toNat (fun j => (vsf (256 * ((vd : Int32).toInt.toNat + 1) + j)).toInt.toNat) (vx : Int32).toInt.toNat (vsf (256 * (vd : Int32).toInt.toNat + (vx : Int32).toInt.toNat)).toInt.toNat ((vsm (vd : Int32).toInt.toNat).toInt.toNat + 1) : Nat) : Int)))) 0 0 (fun _ => False) := by
  refine mr RX7 rfl (by decide +kernel) (Nat.le_of_ble_eq_true rfl) ?_
  intro p e s m below meth c hx hb hr hlocks av9 hav hts hown hml hK hP hS Q9 hQ9 ls hl
  have hl : lv_has ls 5 [(0, .ref vs), (1, .int vd), (2, .int vx), (3, .int vwe)] := hl
  refine lv_iconst (v := 0) hx hb dX7_firstTimes_0 (by decide) ?_
  refine lv_istore (lv' := [(4, .int 0), (0, .ref vs), (1, .int vd), (2, .int vx), (3, .int vwe)]) hx hb dX7_firstTimes_1 hl (by decide) rfl (fun ls hl => ?_)
  have loop1 : ∀ (n1 : Nat) (x_2 : Int32), (0 ≤ x_2.toInt ∧ x_2.toInt ≤ 10) → (fwI vwe.toInt.toNat (fun j => (vsf (256 * (vd.toInt.toNat + 1) + j)).toInt.toNat) vx.toInt.toNat (vsf (256 * vd.toInt.toNat + vx.toInt.toNat)).toInt.toNat x_2.toInt) → (x_2.toInt ≤ (vsm vd.toInt.toNat).toInt + 1) → 10 - x_2.toInt < (n1 : Int) → ∀ (H : Heap) (locs : List Loc), va_P (dC, dI) vwCl [(vs, .inr (8, [.ref vs1, .ref vs2, .ref vs3])), (vs1, .inl (cy 0, 10, .inl vsm)), (vs2, .inl (cy 0, 2816, .inl vsf))] H → va_S (fun _ => False) s.heap H locs → ∀ ls : Array Slot, lv_has ls 5 [(4, .int x_2), (0, .ref vs), (1, .int vd), (2, .int vx), (3, .int vwe)] → W p l e ({ frames := 0, cells := 0, slots := 0, locals := 0 }) s m av9 below meth c H locs 0 0 Q9 (F0 m 3 ls []) := by
    intro n1
    induction n1 with
    | zero =>
      intro x_2 bx_2 v1_0 v1_1 hn1 H locs hP hS ls hl
      exfalso; omega
    | succ n1 ih1 =>
      intro x_2 bx_2 v1_0 v1_1 hn1 H locs hP hS ls hl
      refine lv_iload hx hb dX7_firstTimes_3 (lv_at hl 0 rfl) ?_
      refine lv_aload_n hx hb dX7_firstTimes_5 rfl (lv_at hl 1 rfl) ?_
      refine gf_X7_9 hx hb hts hown hK hP 0 rfl rfl dX7_firstTimes_6 ?_
      refine lv_iload_n hx hb dX7_firstTimes_9 rfl (lv_at hl 2 rfl) ?_
      have hin_3 : vp_in vd 10 := vp_in_iff.mpr ⟨by omega, by omega⟩
      refine va_iald hx hb hK hP 1 0 rfl rfl hin_3 dX7_firstTimes_10 ?_
      refine lv_topi (fun z_4 ez_4 => ?_)
      have bz_4 := p_vsm.at hin_3 ez_4
      have hmz_4 : z_4.toInt = (vsm vd.toInt.toNat).toInt := by rw [ez_4]; rfl
      refine lv_icmp_gt (tgt := 68) hx hb dX7_firstTimes_11 (by decide) (fun c_5 => ?_) (fun c_5 => ?_)
      · skip
        have c_5 : z_4.toInt < x_2.toInt := i_lt.mp c_5
        refine lv_iconst (v := 0) hx hb dX7_firstTimes_68 (by decide) ?_
        have k_0 : (0 : Int32).toInt = 0 := by decide
        rw [hQ9]
        exact rr_i hx hb hr hlocks ⟨(show 0 ≤ ((0 : Int32) : Int32).toInt ∧ ((0 : Int32) : Int32).toInt ≤ 9 from ⟨by omega, by omega⟩), (show ((0 : Int32) : Int32).toInt * (vwe : Int32).toInt ≤ (vx : Int32).toInt from (by rw [k_0, Int.zero_mul]; omega)), (show ((0 : Int32) : Int32).toInt = ((fw_n (vwe : Int32).toInt.toNat (fun j => (vsf (256 * ((vd : Int32).toInt.toNat + 1) + j)).toInt.toNat) (vx : Int32).toInt.toNat (vsf (256 * (vd : Int32).toInt.toNat + (vx : Int32).toInt.toNat)).toInt.toNat ((vsm (vd : Int32).toInt.toNat).toInt.toNat + 1) : Nat) : Int) from (fwI_no (n := x_2.toInt.toNat) v1_0 (by omega) (Or.inl (by omega))))⟩ hS dX7_firstTimes_69
      · skip
        have c_5 : ¬ (z_4.toInt < x_2.toInt) := fun h9 => c_5 (i_lt.mpr h9)
        refine lv_iload hx hb dX7_firstTimes_14 (lv_at hl 0 rfl) ?_
        refine lv_iload_n hx hb dX7_firstTimes_16 rfl (lv_at hl 4 rfl) ?_
        refine lv_imul hx hb dX7_firstTimes_17 ?_
        refine lv_topi (fun z_6 ez_6 => ?_)
        have bz_6 : 0 ≤ z_6.toInt ∧ z_6.toInt ≤ 360 ∧ z_6.toInt = x_2.toInt * vwe.toInt := i_mulb (A := 9) (B := 40) ez_6 ⟨by omega, by omega⟩ ⟨by omega, by omega⟩ (by decide)
        refine lv_iload_n hx hb dX7_firstTimes_18 rfl (lv_at hl 3 rfl) ?_
        refine lv_icmp_gt (tgt := 68) hx hb dX7_firstTimes_19 (by decide) (fun c_7 => ?_) (fun c_7 => ?_)
        · skip
          have c_7 : vx.toInt < z_6.toInt := i_lt.mp c_7
          refine lv_iconst (v := 0) hx hb dX7_firstTimes_68 (by decide) ?_
          have k_0 : (0 : Int32).toInt = 0 := by decide
          rw [hQ9]
          exact rr_i hx hb hr hlocks ⟨(show 0 ≤ ((0 : Int32) : Int32).toInt ∧ ((0 : Int32) : Int32).toInt ≤ 9 from ⟨by omega, by omega⟩), (show ((0 : Int32) : Int32).toInt * (vwe : Int32).toInt ≤ (vx : Int32).toInt from (by rw [k_0, Int.zero_mul]; omega)), (show ((0 : Int32) : Int32).toInt = ((fw_n (vwe : Int32).toInt.toNat (fun j => (vsf (256 * ((vd : Int32).toInt.toNat + 1) + j)).toInt.toNat) (vx : Int32).toInt.toNat (vsf (256 * (vd : Int32).toInt.toNat + (vx : Int32).toInt.toNat)).toInt.toNat ((vsm (vd : Int32).toInt.toNat).toInt.toNat + 1) : Nat) : Int) from (fwI_no (n := x_2.toInt.toNat) v1_0 (by omega) (Or.inr (by have h9 := (su_cast bz_6.2.2 (by omega) (by omega)); omega))))⟩ hS dX7_firstTimes_69
        · skip
          have c_7 : ¬ (vx.toInt < z_6.toInt) := fun h9 => c_7 (i_lt.mpr h9)
          refine lv_aload_n hx hb dX7_firstTimes_22 rfl (lv_at hl 1 rfl) ?_
          refine gf_X7_15 hx hb hts hown hK hP 0 rfl rfl dX7_firstTimes_23 ?_
          refine lv_iload_n hx hb dX7_firstTimes_26 rfl (lv_at hl 2 rfl) ?_
          refine lv_iconst (v := 1) hx hb dX7_firstTimes_27 (by decide) ?_
          refine lv_iadd hx hb dX7_firstTimes_28 ?_
          refine lv_topi (fun z_8 ez_8 => ?_)
          have k_1 : (1 : Int32).toInt = 1 := by decide
          have bz_8 : z_8.toInt = vd.toInt + (1 : Int32).toInt := i_add ez_8 (by omega) (by omega)
          refine lv_sipush (v := 256) hx hb dX7_firstTimes_29 (by decide) ?_
          refine lv_imul hx hb dX7_firstTimes_32 ?_
          refine lv_topi (fun z_9 ez_9 => ?_)
          have k_256 : (256 : Int32).toInt = 256 := by decide
          have bz_9 : z_9.toInt = z_8.toInt * 256 := i_mulc k_256 ez_9 (by omega) (by omega)
          refine lv_iload_n hx hb dX7_firstTimes_33 rfl (lv_at hl 3 rfl) ?_
          refine lv_iadd hx hb dX7_firstTimes_34 ?_
          refine lv_topi (fun z_10 ez_10 => ?_)
          have bz_10 : z_10.toInt = z_9.toInt + vx.toInt := i_add ez_10 (by omega) (by omega)
          refine lv_iload hx hb dX7_firstTimes_35 (lv_at hl 0 rfl) ?_
          refine lv_iload_n hx hb dX7_firstTimes_37 rfl (lv_at hl 4 rfl) ?_
          refine lv_imul hx hb dX7_firstTimes_38 ?_
          refine lv_topi (fun z_11 ez_11 => ?_)
          have bz_11 : 0 ≤ z_11.toInt ∧ z_11.toInt ≤ 360 ∧ z_11.toInt = x_2.toInt * vwe.toInt := i_mulb (A := 9) (B := 40) ez_11 ⟨by omega, by omega⟩ ⟨by omega, by omega⟩ (by decide)
          refine lv_isub hx hb dX7_firstTimes_39 ?_
          refine lv_topi (fun z_12 ez_12 => ?_)
          have bz_12 : z_12.toInt = z_10.toInt - z_11.toInt := i_sub ez_12 (by omega) (by omega)
          have hin_13 : vp_in z_12 2816 := vp_in_iff.mpr ⟨by omega, by omega⟩
          refine va_iald hx hb hK hP 2 0 rfl rfl hin_13 dX7_firstTimes_40 ?_
          refine lv_topi (fun z_14 ez_14 => ?_)
          have hkz_14 := (su_cast bz_11.2.2 (by omega) (by omega))
          have hfz_14 := fw_ld (d := vd.toInt) (x := vx.toInt) (p := z_11.toInt) (k := vx.toInt.toNat - x_2.toInt.toNat * vwe.toInt.toNat) ez_14 (by omega) (by omega) ⟨by omega, by omega⟩ (by omega) hv
          refine lv_iload hx hb dX7_firstTimes_41 (lv_at hl 0 rfl) ?_
          refine lv_iadd hx hb dX7_firstTimes_43 ?_
          refine lv_topi (fun z_15 ez_15 => ?_)
          have bz_15 : z_15.toInt = z_14.toInt + x_2.toInt := i_add ez_15 (by omega) (by omega)
          refine lv_aload_n hx hb dX7_firstTimes_44 rfl (lv_at hl 1 rfl) ?_
          refine gf_X7_15 hx hb hts hown hK hP 0 rfl rfl dX7_firstTimes_45 ?_
          refine lv_iload_n hx hb dX7_firstTimes_48 rfl (lv_at hl 2 rfl) ?_
          refine lv_sipush (v := 256) hx hb dX7_firstTimes_49 (by decide) ?_
          refine lv_imul hx hb dX7_firstTimes_52 ?_
          refine lv_topi (fun z_16 ez_16 => ?_)
          have bz_16 : z_16.toInt = vd.toInt * 256 := i_mulc k_256 ez_16 (by omega) (by omega)
          refine lv_iload_n hx hb dX7_firstTimes_53 rfl (lv_at hl 3 rfl) ?_
          refine lv_iadd hx hb dX7_firstTimes_54 ?_
          refine lv_topi (fun z_17 ez_17 => ?_)
          have bz_17 : z_17.toInt = z_16.toInt + vx.toInt := i_add ez_17 (by omega) (by omega)
          have hin_18 : vp_in z_17 2816 := vp_in_iff.mpr ⟨by omega, by omega⟩
          refine va_iald hx hb hK hP 2 0 rfl rfl hin_18 dX7_firstTimes_55 ?_
          refine lv_topi (fun z_19 ez_19 => ?_)
          have hfz_19 : z_19.toInt = (vsf (256 * vd.toInt.toNat + vx.toInt.toNat)).toInt := by rw [ez_19, show Int32.toNatClampNeg z_17 = 256 * vd.toInt.toNat + vx.toInt.toNat by have := cl_nn (x := z_17) (by omega); omega]
          refine lv_icmp_ne (tgt := 62) hx hb dX7_firstTimes_56 (by decide) (fun c_20 => ?_) (fun c_20 => ?_)
          · skip
            have c_20 : ¬ (z_15.toInt = z_19.toInt) := fun h9 => c_20 (i_eq.mpr h9)
            obtain ⟨z_21, ez_21⟩ : ∃ z : Int32, z = x_2 + 1 := ⟨_, rfl⟩
            have bz_21 : z_21.toInt = x_2.toInt + (1 : Int32).toInt := i_add ez_21 (by omega) (by omega)
            refine lv_iinc (v := z_21) (lv' := [(4, .int z_21), (0, .ref vs), (1, .int vd), (2, .int vx), (3, .int vwe)]) hx hb dX7_firstTimes_62 hl (k := 0) rfl ez_21.symm (by decide) rfl (fun ls hl => ?_)
            refine lv_goto (tgt := 3) hx hb dX7_firstTimes_65 (by decide) ?_
            exact ih1 z_21 ⟨by omega, by omega⟩ (fwI_s (n := x_2.toInt.toNat) (z := z_14.toInt) v1_0 (by omega) (by omega) (by omega) hfz_14.1 (by omega)) (by omega) (by omega) _ _ (hP.sub [0, 1, 2] rfl) hS ls (lv_sub hl [0, 1, 2, 3, 4] rfl)
          · skip
            have c_20 : z_15.toInt = z_19.toInt := i_eq.mp c_20
            refine lv_iload hx hb dX7_firstTimes_59 (lv_at hl 0 rfl) ?_
            rw [hQ9]
            exact rr_i hx hb hr hlocks ⟨(show 0 ≤ (x_2 : Int32).toInt ∧ (x_2 : Int32).toInt ≤ 9 from ⟨by omega, by omega⟩), (show (x_2 : Int32).toInt * (vwe : Int32).toInt ≤ (vx : Int32).toInt from (by have h9 := bz_11.2.2; omega)), (show (x_2 : Int32).toInt = ((fw_n (vwe : Int32).toInt.toNat (fun j => (vsf (256 * ((vd : Int32).toInt.toNat + 1) + j)).toInt.toNat) (vx : Int32).toInt.toNat (vsf (256 * (vd : Int32).toInt.toNat + (vx : Int32).toInt.toNat)).toInt.toNat ((vsm (vd : Int32).toInt.toNat).toInt.toNat + 1) : Nat) : Int) from (fwI_at (n := x_2.toInt.toNat) (z := z_14.toInt) v1_0 (by omega) (by omega) hfz_14.1 (by omega) (by omega)))⟩ hS dX7_firstTimes_61
  have k_0 : (0 : Int32).toInt = 0 := by decide
  exact loop1 ((10 - (0 : Int32).toInt).toNat + 1) 0 ⟨by omega, by omega⟩ (fwI_0 (by omega)) (by have h9 := (p_vsm vd.toInt.toNat (by omega)).1; omega) (by omega) _ _ hP hS ls (lv_sub hl [0, 1, 2, 3, 4] rfl)
abbrev O_t_findFewest (cy : Nat → ClassId) (vs : Nat) (vs1 : Nat) (vs2 : Nat) (vs3 : Nat) (vsm : Nat → Int32) (vsf : Nat → Int32) (vc : Nat) (vc1 : Nat) (vc2 : Nat) (vc3 : Nat) (vc4 : Nat) (vc5 : Nat) (vcm : Int32) (vcd : Int32) (vcr : Int32) (vcw : Int32) (vcf3 : Nat → Int32) (vsu : Int32) (u : (Nat → Int32)) : va_W := [(vs, .inr (8, [.ref vs1, .ref vs2, .ref vs3])), (vs1, .inl (cy 0, 10, .inl vsm)), (vs2, .inl (cy 0, 2816, .inl u)), (vc, .inr (2, [.ref vc1, .ref vc2, .ref vc3, .ref vc4, .ref vc5, .int vcm, .int vcd, .int vcr, .int vcw])), (vc3, .inl (cy 0, 10, .inl vcf3))]
set_option maxHeartbeats 4000000 in
set_option maxRecDepth 100000 in
theorem t_findFewest (l : Launch) (dC : Nat → ClassId) (dI : Nat → Nat → Nat) (cy : Nat → ClassId) (sz : Nat) (vs : Nat) (vs1 : Nat) (vs2 : Nat) (vs3 : Nat) (vsm : Nat → Int32) (vsf : Nat → Int32) (vc : Nat) (vc1 : Nat) (vc2 : Nat) (vc3 : Nat) (vc4 : Nat) (vc5 : Nat) (vcm : Int32) (vcd : Int32) (vcr : Int32) (vcw : Int32) (vcf3 : Nat → Int32) (vsu : Int32) (r_vcm : 0 ≤ (vcm : Int32).toInt ∧ (vcm : Int32).toInt ≤ 7) (r_vcd : 0 ≤ (vcd : Int32).toInt ∧ (vcd : Int32).toInt ≤ 10) (r_vsu : 0 ≤ (vsu : Int32).toInt ∧ (vsu : Int32).toInt ≤ 255) (p_vsm : Rg vsm 10 0 9) (p_vcf3 : Rg vcf3 10 0 40) : Met l yX7_findFewest (wl yX7_findFewest cX7_findFewest 6 none) ({ frames := 2, cells := 0, slots := 0, locals := 128 }) (Pw (dC, dI) vwCl cy [(vs, .inr (8, [.ref vs1, .ref vs2, .ref vs3])), (vs1, .inl (cy 0, 10, .inl vsm)), (vs2, .inl (cy 0, 2816, .inl vsf)), (vc, .inr (2, [.ref vc1, .ref vc2, .ref vc3, .ref vc4, .ref vc5, .int vcm, .int vcd, .int vcr, .int vcw])), (vc3, .inl (cy 0, 10, .inl vcf3))] sz [.ref vs, .ref vc, .int vsu] nE) (Qv (dC, dI) vwCl (fun (u : (Nat → Int32)) => (fwT u (fun d9 => (vsm d9).toInt.toNat + 1) (suWt vcf3) (vcd : Int32).toInt.toNat (vsu : Int32).toInt)) (O_t_findFewest cy vs vs1 vs2 vs3 vsm vsf vc vc1 vc2 vc3 vc4 vc5 vcm vcd vcr vcw vcf3 vsu) (va_A [(vs, .inr (8, [.ref vs1, .ref vs2, .ref vs3])), (vs1, .inl (cy 0, 10, .inl vsm)), (vs2, .inl (cy 0, 2816, .inl vsf)), (vc, .inr (2, [.ref vc1, .ref vc2, .ref vc3, .ref vc4, .ref vc5, .int vcm, .int vcd, .int vcr, .int vcw])), (vc3, .inl (cy 0, 10, .inl vcf3))] sz)) 0 0 (va_A [(vs, .inr (8, [.ref vs1, .ref vs2, .ref vs3])), (vs1, .inl (cy 0, 10, .inl vsm)), (vs2, .inl (cy 0, 2816, .inl vsf)), (vc, .inr (2, [.ref vc1, .ref vc2, .ref vc3, .ref vc4, .ref vc5, .int vcm, .int vcd, .int vcr, .int vcw])), (vc3, .inl (cy 0, 10, .inl vcf3))] sz) := by
  refine mw (Qc := Qv (dC, dI) vwCl (fun (u : (Nat → Int32)) => (fwT u (fun d9 => (vsm d9).toInt.toNat + 1) (suWt vcf3) (vcd : Int32).toInt.toNat (vsu : Int32).toInt)) (O_t_findFewest cy vs vs1 vs2 vs3 vsm vsf vc vc1 vc2 vc3 vc4 vc5 vcm vcd vcr vcw vcf3 vsu)) RX7 rfl (by decide +kernel) (Nat.le_of_ble_eq_true rfl) ?_
  intro p e s m below meth c A hx hb hr hlocks av9 hav hts hown hnm hml hK hP hD hA hS hE hAe Q9 hQ9 ls hl
  have hl : lv_has ls 6 [(0, .ref vs), (1, .ref vc), (2, .int vsu)] := hl
  refine lv_iload_n hx hb dX7_findFewest_0 rfl (lv_at hl 2 rfl) ?_
  refine lv_sipush (v := 255) hx hb dX7_findFewest_1 (by decide) ?_
  refine va_mmin hx hb (by rw [hml, hl.1]) hown (hts _ t920) (hts _ t783) (hts _ t24) (hts _ t784) (Nat.le_of_ble_eq_true rfl) (Nat.le_of_ble_eq_true rfl) (Nat.zero_le _) (Nat.zero_le _) dX7_findFewest_4 ?_
  refine lv_topi (fun z_1 ez_1 => ?_)
  have k_255 : (255 : Int32).toInt = 255 := by decide
  have bz_1 : z_1.toInt ≤ vsu.toInt ∧ z_1.toInt ≤ (255 : Int32).toInt ∧ (z_1.toInt = vsu.toInt ∨ z_1.toInt = (255 : Int32).toInt) := i_min ez_1
  refine lv_istore_n (lv' := [(3, .int z_1), (0, .ref vs), (1, .ref vc), (2, .int vsu)]) hx hb dX7_findFewest_7 rfl hl (by decide) rfl (fun ls hl => ?_)
  refine lv_iconst (v := 0) hx hb dX7_findFewest_8 (by decide) ?_
  refine lv_istore (lv' := [(4, .int 0), (3, .int z_1), (0, .ref vs), (1, .ref vc), (2, .int vsu)]) hx hb dX7_findFewest_9 hl (by decide) rfl (fun ls hl => ?_)
  have loop2 : ∀ (n2 : Nat) (x_3 : Int32) (g_4 : Nat → Int32), (0 ≤ x_3.toInt ∧ x_3.toInt ≤ 256) → (fwA g_4 vcd.toInt.toNat x_3.toInt) → 256 - x_3.toInt < (n2 : Int) → ∀ (H : Heap) (locs : List Loc), va_P (dC, dI) vwCl [(vs, .inr (8, [.ref vs1, .ref vs2, .ref vs3])), (vs1, .inl (cy 0, 10, .inl vsm)), (vs2, .inl (cy 0, 2816, .inl g_4)), (vc, .inr (2, [.ref vc1, .ref vc2, .ref vc3, .ref vc4, .ref vc5, .int vcm, .int vcd, .int vcr, .int vcw])), (vc3, .inl (cy 0, 10, .inl vcf3))] H → va_D A [(vs, .inr (8, [.ref vs1, .ref vs2, .ref vs3])), (vs1, .inl (cy 0, 10, .inl vsm)), (vs2, .inl (cy 0, 2816, .inl g_4)), (vc, .inr (2, [.ref vc1, .ref vc2, .ref vc3, .ref vc4, .ref vc5, .int vcm, .int vcd, .int vcr, .int vcw])), (vc3, .inl (cy 0, 10, .inl vcf3))] → va_S A s.heap H locs → ∀ ls : Array Slot, lv_has ls 6 [(4, .int x_3), (3, .int z_1), (0, .ref vs), (1, .ref vc), (2, .int vsu)] → W p l e ({ frames := 2, cells := 0, slots := 0, locals := 128 }) s m av9 below meth c H locs 0 0 Q9 (F0 m 11 ls []) := by
    intro n2
    induction n2 with
    | zero =>
      intro x_3 g_4 bx_3 v2_0 hn2 H locs hP hD hS ls hl
      exfalso; omega
    | succ n2 ih2 =>
      intro x_3 g_4 bx_3 v2_0 hn2 H locs hP hD hS ls hl
      refine lv_iload hx hb dX7_findFewest_11 (lv_at hl 0 rfl) ?_
      refine lv_iload_n hx hb dX7_findFewest_13 rfl (lv_at hl 1 rfl) ?_
      refine lv_icmp_gt (tgt := 51) hx hb dX7_findFewest_14 (by decide) (fun c_5 => ?_) (fun c_5 => ?_)
      · skip
        have c_5 : z_1.toInt < x_3.toInt := i_lt.mp c_5
        refine lv_aload_n hx hb dX7_findFewest_51 rfl (lv_at hl 3 rfl) ?_
        refine gf_X7_22 hx hb hts hown hK hP 3 rfl rfl dX7_findFewest_52 ?_
        refine lv_iconst (v := 1) hx hb dX7_findFewest_55 (by decide) ?_
        refine lv_isub hx hb dX7_findFewest_56 ?_
        refine lv_topi (fun z_6 ez_6 => ?_)
        have k_1 : (1 : Int32).toInt = 1 := by decide
        have bz_6 : z_6.toInt = vcd.toInt - (1 : Int32).toInt := i_sub ez_6 (by omega) (by omega)
        refine lv_istore (lv' := [(4, .int z_6), (3, .int z_1), (0, .ref vs), (1, .ref vc), (2, .int vsu)]) hx hb dX7_findFewest_57 hl (by decide) rfl (fun ls hl => ?_)
        have loop7 : ∀ (n7 : Nat) (x_8 : Int32) (g_9 : Nat → Int32), (-1 ≤ x_8.toInt ∧ x_8.toInt ≤ 9) → (fwOK g_9 (fun d9 => (vsm d9).toInt.toNat + 1) (suWt vcf3) vcd.toInt.toNat vsu.toInt x_8.toInt 0) → (x_8.toInt < vcd.toInt) → x_8.toInt + 1 < (n7 : Int) → ∀ (H : Heap) (locs : List Loc), va_P (dC, dI) vwCl [(vs, .inr (8, [.ref vs1, .ref vs2, .ref vs3])), (vs1, .inl (cy 0, 10, .inl vsm)), (vs2, .inl (cy 0, 2816, .inl g_9)), (vc, .inr (2, [.ref vc1, .ref vc2, .ref vc3, .ref vc4, .ref vc5, .int vcm, .int vcd, .int vcr, .int vcw])), (vc3, .inl (cy 0, 10, .inl vcf3))] H → va_D A [(vs, .inr (8, [.ref vs1, .ref vs2, .ref vs3])), (vs1, .inl (cy 0, 10, .inl vsm)), (vs2, .inl (cy 0, 2816, .inl g_9)), (vc, .inr (2, [.ref vc1, .ref vc2, .ref vc3, .ref vc4, .ref vc5, .int vcm, .int vcd, .int vcr, .int vcw])), (vc3, .inl (cy 0, 10, .inl vcf3))] → va_S A s.heap H locs → ∀ ls : Array Slot, lv_has ls 6 [(4, .int x_8), (3, .int z_1), (0, .ref vs), (1, .ref vc), (2, .int vsu)] → W p l e ({ frames := 2, cells := 0, slots := 0, locals := 128 }) s m av9 below meth c H locs 0 0 Q9 (F0 m 59 ls []) := by
          intro n7
          induction n7 with
          | zero =>
            intro x_8 g_9 bx_8 v7_0 v7_1 hn7 H locs hP hD hS ls hl
            exfalso; omega
          | succ n7 ih7 =>
            intro x_8 g_9 bx_8 v7_0 v7_1 hn7 H locs hP hD hS ls hl
            refine lv_iload hx hb dX7_findFewest_59 (lv_at hl 0 rfl) ?_
            have k_0 : (0 : Int32).toInt = 0 := by decide
            refine lv_if_lt (tgt := 114) hx hb dX7_findFewest_61 (by decide) (fun c_10 => ?_) (fun c_10 => ?_)
            · skip
              have c_10 : x_8.toInt < (0 : Int32).toInt := i_lt.mp c_10
              rw [hQ9]
              exact re_v g_9 hx hb hr hlocks (show fwT g_9 (fun d9 => (vsm d9).toInt.toNat + 1) (suWt vcf3) (vcd : Int32).toInt.toNat (vsu : Int32).toInt from (fwOK_a v7_0 (by omega))) (hP.sub [0, 1, 2, 3, 4] rfl) (hD.sub [0, 1, 2, 3, 4] rfl rfl) hS dX7_findFewest_114
            · skip
              have c_10 : ¬ (x_8.toInt < (0 : Int32).toInt) := fun h9 => c_10 (i_lt.mpr h9)
              refine lv_iconst (v := 0) hx hb dX7_findFewest_64 (by decide) ?_
              refine lv_istore (lv' := [(5, .int 0), (4, .int x_8), (3, .int z_1), (0, .ref vs), (1, .ref vc), (2, .int vsu)]) hx hb dX7_findFewest_65 hl (by decide) rfl (fun ls hl => ?_)
              have loop11 : ∀ (n11 : Nat) (x_12 : Int32) (g_13 : Nat → Int32), (0 ≤ x_12.toInt ∧ x_12.toInt ≤ 256) → (fwOK g_13 (fun d9 => (vsm d9).toInt.toNat + 1) (suWt vcf3) vcd.toInt.toNat vsu.toInt x_8.toInt x_12.toInt) → 256 - x_12.toInt < (n11 : Int) → ∀ (H : Heap) (locs : List Loc), va_P (dC, dI) vwCl [(vs, .inr (8, [.ref vs1, .ref vs2, .ref vs3])), (vs1, .inl (cy 0, 10, .inl vsm)), (vs2, .inl (cy 0, 2816, .inl g_13)), (vc, .inr (2, [.ref vc1, .ref vc2, .ref vc3, .ref vc4, .ref vc5, .int vcm, .int vcd, .int vcr, .int vcw])), (vc3, .inl (cy 0, 10, .inl vcf3))] H → va_D A [(vs, .inr (8, [.ref vs1, .ref vs2, .ref vs3])), (vs1, .inl (cy 0, 10, .inl vsm)), (vs2, .inl (cy 0, 2816, .inl g_13)), (vc, .inr (2, [.ref vc1, .ref vc2, .ref vc3, .ref vc4, .ref vc5, .int vcm, .int vcd, .int vcr, .int vcw])), (vc3, .inl (cy 0, 10, .inl vcf3))] → va_S A s.heap H locs → ∀ ls : Array Slot, lv_has ls 6 [(5, .int x_12), (4, .int x_8), (3, .int z_1), (0, .ref vs), (1, .ref vc), (2, .int vsu)] → W p l e ({ frames := 2, cells := 0, slots := 0, locals := 128 }) s m av9 below meth c H locs 0 0 Q9 (F0 m 67 ls []) := by
                intro n11
                induction n11 with
                | zero =>
                  intro x_12 g_13 bx_12 v11_0 hn11 H locs hP hD hS ls hl
                  exfalso; omega
                | succ n11 ih11 =>
                  intro x_12 g_13 bx_12 v11_0 hn11 H locs hP hD hS ls hl
                  refine lv_iload hx hb dX7_findFewest_67 (lv_at hl 0 rfl) ?_
                  refine lv_iload_n hx hb dX7_findFewest_69 rfl (lv_at hl 2 rfl) ?_
                  refine lv_icmp_gt (tgt := 108) hx hb dX7_findFewest_70 (by decide) (fun c_14 => ?_) (fun c_14 => ?_)
                  · skip
                    have c_14 : z_1.toInt < x_12.toInt := i_lt.mp c_14
                    obtain ⟨z_15, ez_15⟩ : ∃ z : Int32, z = x_8 + (-1) := ⟨_, rfl⟩
                    have k_m1 : ((-1) : Int32).toInt = (-1) := by decide
                    have bz_15 : z_15.toInt = x_8.toInt + ((-1) : Int32).toInt := i_add ez_15 (by omega) (by omega)
                    refine lv_iinc (v := z_15) (lv' := [(4, .int z_15), (5, .int x_12), (3, .int z_1), (0, .ref vs), (1, .ref vc), (2, .int vsu)]) hx hb dX7_findFewest_108 hl (k := 1) rfl ez_15.symm (by decide) rfl (fun ls hl => ?_)
                    refine lv_goto (tgt := 59) hx hb dX7_findFewest_111 (by decide) ?_
                    exact ih7 z_15 g_13 ⟨by omega, by omega⟩ (fwOK_d v11_0 (by omega) (by omega)) (by omega) (by omega) _ _ (hP.sub [0, 1, 2, 3, 4] rfl) (hD.sub [0, 1, 2, 3, 4] rfl rfl) hS ls (lv_sub hl [0, 2, 3, 4, 5] rfl)
                  · skip
                    have c_14 : ¬ (z_1.toInt < x_12.toInt) := fun h9 => c_14 (i_lt.mpr h9)
                    refine lv_aload_n hx hb dX7_findFewest_73 rfl (lv_at hl 3 rfl) ?_
                    refine gf_X7_15 hx hb hts hown hK hP 0 rfl rfl dX7_findFewest_74 ?_
                    refine lv_iload hx hb dX7_findFewest_77 (lv_at hl 1 rfl) ?_
                    refine lv_sipush (v := 256) hx hb dX7_findFewest_79 (by decide) ?_
                    refine lv_imul hx hb dX7_findFewest_82 ?_
                    refine lv_topi (fun z_16 ez_16 => ?_)
                    have k_256 : (256 : Int32).toInt = 256 := by decide
                    have bz_16 : z_16.toInt = x_8.toInt * 256 := i_mulc k_256 ez_16 (by omega) (by omega)
                    refine lv_iload hx hb dX7_findFewest_83 (lv_at hl 0 rfl) ?_
                    refine lv_iadd hx hb dX7_findFewest_85 ?_
                    refine lv_topi (fun z_17 ez_17 => ?_)
                    have bz_17 : z_17.toInt = z_16.toInt + x_12.toInt := i_add ez_17 (by omega) (by omega)
                    refine lv_aload_n hx hb dX7_findFewest_86 rfl (lv_at hl 3 rfl) ?_
                    refine lv_iload hx hb dX7_findFewest_87 (lv_at hl 1 rfl) ?_
                    refine lv_iload hx hb dX7_findFewest_89 (lv_at hl 0 rfl) ?_
                    refine lv_aload_n hx hb dX7_findFewest_91 rfl (lv_at hl 4 rfl) ?_
                    refine gf_X7_28 hx hb hts hown hK hP 3 rfl rfl dX7_findFewest_92 ?_
                    refine lv_iload hx hb dX7_findFewest_95 (lv_at hl 1 rfl) ?_
                    have hin_18 : vp_in x_8 10 := vp_in_iff.mpr ⟨by omega, by omega⟩
                    refine va_iald hx hb hK hP 4 0 rfl rfl hin_18 dX7_findFewest_97 ?_
                    refine lv_topi (fun z_19 ez_19 => ?_)
                    have bz_19 := p_vcf3.at hin_18 ez_19
                    refine jr_i (rVr (As := [.int x_8, .int x_12, .int z_19]) (rest := [.int z_17, .ref vs2]) (ci := 8) ⟨hx, hb, hml, hown, hts⟩ (t_fewestFrom l dC dI cy vs vs1 vs2 vs3 vsm g_13 x_8 x_12 z_19 ⟨by omega, by omega⟩ ⟨by omega, by omega⟩ ⟨by omega, by omega⟩ p_vsm (fwOK_b v11_0 (by omega) (by omega) (by omega))) (cw_X7_41 hts rfl rfl ⟨Nat.le_of_ble_eq_true rfl, Nat.le_of_ble_eq_true rfl⟩) hP hK [0, 1, 2] rfl rfl rfl rfl hl.1 rfl (Nat.le_of_ble_eq_true rfl) dX7_findFewest_98 ⟨Nat.le_of_ble_eq_true rfl, Nat.le_of_ble_eq_true rfl⟩) hP hS (fun r_20 H locs hp_21 hP hS => ?_)
                    have hp_21 : (0 ≤ (r_20 : Int32).toInt ∧ (r_20 : Int32).toInt ≤ 1000) ∧ ((r_20 : Int32).toInt = ((fw_M 1000 (z_19 : Int32).toInt.toNat (fun j => (g_13 (256 * ((x_8 : Int32).toInt.toNat + 1) + j)).toInt.toNat) (x_12 : Int32).toInt.toNat ((vsm (x_8 : Int32).toInt.toNat).toInt.toNat + 1) : Nat) : Int)) := hp_21
                    obtain ⟨q_22, q_23⟩ := hp_21
                    have hin_24 : vp_in z_17 2816 := vp_in_iff.mpr ⟨by omega, by omega⟩
                    refine va_iast hx hb hK hP hD hS 2 0 rfl rfl hin_24 dX7_findFewest_101 (fun H locs hP hD hS => ?_)
                    obtain ⟨f_25, ef_25⟩ : ∃ z : Nat → Int32, z = upd g_13 (Int32.toNatClampNeg z_17) r_20 := ⟨_, rfl⟩
                    have hP : va_P (dC, dI) vwCl [(vs, .inr (8, [.ref vs1, .ref vs2, .ref vs3])), (vs1, .inl (cy 0, 10, .inl vsm)), (vs2, .inl (cy 0, 2816, .inl f_25)), (vc, .inr (2, [.ref vc1, .ref vc2, .ref vc3, .ref vc4, .ref vc5, .int vcm, .int vcd, .int vcr, .int vcw])), (vc3, .inl (cy 0, 10, .inl vcf3))] H := by rw [ef_25]; exact hP
                    have hD : va_D A [(vs, .inr (8, [.ref vs1, .ref vs2, .ref vs3])), (vs1, .inl (cy 0, 10, .inl vsm)), (vs2, .inl (cy 0, 2816, .inl f_25)), (vc, .inr (2, [.ref vc1, .ref vc2, .ref vc3, .ref vc4, .ref vc5, .int vcm, .int vcd, .int vcr, .int vcw])), (vc3, .inl (cy 0, 10, .inl vcf3))] := by rw [ef_25]; exact hD
                    obtain ⟨z_26, ez_26⟩ : ∃ z : Int32, z = x_12 + 1 := ⟨_, rfl⟩
                    have bz_26 : z_26.toInt = x_12.toInt + (1 : Int32).toInt := i_add ez_26 (by omega) (by omega)
                    refine lv_iinc (v := z_26) (lv' := [(5, .int z_26), (4, .int x_8), (3, .int z_1), (0, .ref vs), (1, .ref vc), (2, .int vsu)]) hx hb dX7_findFewest_102 hl (k := 0) rfl ez_26.symm (by decide) rfl (fun ls hl => ?_)
                    refine lv_goto (tgt := 67) hx hb dX7_findFewest_105 (by decide) ?_
                    exact ih11 z_26 f_25 ⟨by omega, by omega⟩ (fwOK_s (d := x_8) (x := x_12) (i := z_17) (wv := z_19) (r := r_20) v11_0 (by omega) (by omega) rfl (by omega) (by omega) (by omega) (by omega) ez_19 q_23 ef_25 (by omega)) (by omega) _ _ (hP.sub [0, 1, 2, 3, 4] rfl) (hD.sub [0, 1, 2, 3, 4] rfl rfl) hS ls (lv_sub hl [0, 1, 2, 3, 4, 5] rfl)
              exact loop11 ((256 - (0 : Int32).toInt).toNat + 1) 0 g_9 ⟨by omega, by omega⟩ v7_0 (by omega) _ _ hP hD hS ls (lv_sub hl [0, 1, 2, 3, 4, 5] rfl)
        exact loop7 ((z_6.toInt + 1).toNat + 1) z_6 g_4 ⟨by omega, by omega⟩ (fwOK_0 v2_0 (by omega) (by omega)) (by omega) (by omega) _ _ hP hD hS ls (lv_sub hl [0, 1, 2, 3, 4] rfl)
      · skip
        have c_5 : ¬ (z_1.toInt < x_3.toInt) := fun h9 => c_5 (i_lt.mpr h9)
        refine lv_aload_n hx hb dX7_findFewest_17 rfl (lv_at hl 2 rfl) ?_
        refine gf_X7_15 hx hb hts hown hK hP 0 rfl rfl dX7_findFewest_18 ?_
        refine lv_aload_n hx hb dX7_findFewest_21 rfl (lv_at hl 3 rfl) ?_
        refine gf_X7_22 hx hb hts hown hK hP 3 rfl rfl dX7_findFewest_22 ?_
        refine lv_sipush (v := 256) hx hb dX7_findFewest_25 (by decide) ?_
        refine lv_imul hx hb dX7_findFewest_28 ?_
        refine lv_topi (fun z_27 ez_27 => ?_)
        have k_256 : (256 : Int32).toInt = 256 := by decide
        have bz_27 : z_27.toInt = vcd.toInt * 256 := i_mulc k_256 ez_27 (by omega) (by omega)
        refine lv_iload hx hb dX7_findFewest_29 (lv_at hl 0 rfl) ?_
        refine lv_iadd hx hb dX7_findFewest_31 ?_
        refine lv_topi (fun z_28 ez_28 => ?_)
        have bz_28 : z_28.toInt = z_27.toInt + x_3.toInt := i_add ez_28 (by omega) (by omega)
        refine lv_iload hx hb dX7_findFewest_32 (lv_at hl 0 rfl) ?_
        have k_0 : (0 : Int32).toInt = 0 := by decide
        refine lv_if_ne (tgt := 41) hx hb dX7_findFewest_34 (by decide) (fun c_29 => ?_) (fun c_29 => ?_)
        · skip
          have c_29 : ¬ (x_3.toInt = (0 : Int32).toInt) := fun h9 => c_29 (i_eq.mpr h9)
          refine lv_sipush (v := 1000) hx hb dX7_findFewest_41 (by decide) ?_
          have hin_30 : vp_in z_28 2816 := vp_in_iff.mpr ⟨by omega, by omega⟩
          refine va_iast hx hb hK hP hD hS 2 0 rfl rfl hin_30 dX7_findFewest_44 (fun H locs hP hD hS => ?_)
          obtain ⟨f_31, ef_31⟩ : ∃ z : Nat → Int32, z = upd g_4 (Int32.toNatClampNeg z_28) 1000 := ⟨_, rfl⟩
          have hP : va_P (dC, dI) vwCl [(vs, .inr (8, [.ref vs1, .ref vs2, .ref vs3])), (vs1, .inl (cy 0, 10, .inl vsm)), (vs2, .inl (cy 0, 2816, .inl f_31)), (vc, .inr (2, [.ref vc1, .ref vc2, .ref vc3, .ref vc4, .ref vc5, .int vcm, .int vcd, .int vcr, .int vcw])), (vc3, .inl (cy 0, 10, .inl vcf3))] H := by rw [ef_31]; exact hP
          have hD : va_D A [(vs, .inr (8, [.ref vs1, .ref vs2, .ref vs3])), (vs1, .inl (cy 0, 10, .inl vsm)), (vs2, .inl (cy 0, 2816, .inl f_31)), (vc, .inr (2, [.ref vc1, .ref vc2, .ref vc3, .ref vc4, .ref vc5, .int vcm, .int vcd, .int vcr, .int vcw])), (vc3, .inl (cy 0, 10, .inl vcf3))] := by rw [ef_31]; exact hD
          obtain ⟨z_32, ez_32⟩ : ∃ z : Int32, z = x_3 + 1 := ⟨_, rfl⟩
          have k_1 : (1 : Int32).toInt = 1 := by decide
          have bz_32 : z_32.toInt = x_3.toInt + (1 : Int32).toInt := i_add ez_32 (by omega) (by omega)
          refine lv_iinc (v := z_32) (lv' := [(4, .int z_32), (3, .int z_1), (0, .ref vs), (1, .ref vc), (2, .int vsu)]) hx hb dX7_findFewest_45 hl (k := 0) rfl ez_32.symm (by decide) rfl (fun ls hl => ?_)
          refine lv_goto (tgt := 11) hx hb dX7_findFewest_48 (by decide) ?_
          have k_1000 : (1000 : Int32).toInt = 1000 := by decide
          exact ih2 z_32 f_31 ⟨by omega, by omega⟩ (fwA_s (x := x_3) (i := z_28) v2_0 rfl (by omega) (by omega) (by omega) ef_31 (Or.inr ⟨by omega, by omega⟩)) (by omega) _ _ (hP.sub [0, 1, 2, 3, 4] rfl) (hD.sub [0, 1, 2, 3, 4] rfl rfl) hS ls (lv_sub hl [0, 1, 2, 3, 4] rfl)
        · skip
          have c_29 : x_3.toInt = (0 : Int32).toInt := i_eq.mp c_29
          refine lv_iconst (v := 0) hx hb dX7_findFewest_37 (by decide) ?_
          refine lv_goto (tgt := 44) hx hb dX7_findFewest_38 (by decide) ?_
          have hin_33 : vp_in z_28 2816 := vp_in_iff.mpr ⟨by omega, by omega⟩
          refine va_iast hx hb hK hP hD hS 2 0 rfl rfl hin_33 dX7_findFewest_44 (fun H locs hP hD hS => ?_)
          obtain ⟨f_34, ef_34⟩ : ∃ z : Nat → Int32, z = upd g_4 (Int32.toNatClampNeg z_28) 0 := ⟨_, rfl⟩
          have hP : va_P (dC, dI) vwCl [(vs, .inr (8, [.ref vs1, .ref vs2, .ref vs3])), (vs1, .inl (cy 0, 10, .inl vsm)), (vs2, .inl (cy 0, 2816, .inl f_34)), (vc, .inr (2, [.ref vc1, .ref vc2, .ref vc3, .ref vc4, .ref vc5, .int vcm, .int vcd, .int vcr, .int vcw])), (vc3, .inl (cy 0, 10, .inl vcf3))] H := by rw [ef_34]; exact hP
          have hD : va_D A [(vs, .inr (8, [.ref vs1, .ref vs2, .ref vs3])), (vs1, .inl (cy 0, 10, .inl vsm)), (vs2, .inl (cy 0, 2816, .inl f_34)), (vc, .inr (2, [.ref vc1, .ref vc2, .ref vc3, .ref vc4, .ref vc5, .int vcm, .int vcd, .int vcr, .int vcw])), (vc3, .inl (cy 0, 10, .inl vcf3))] := by rw [ef_34]; exact hD
          obtain ⟨z_35, ez_35⟩ : ∃ z : Int32, z = x_3 + 1 := ⟨_, rfl⟩
          have k_1 : (1 : Int32).toInt = 1 := by decide
          have bz_35 : z_35.toInt = x_3.toInt + (1 : Int32).toInt := i_add ez_35 (by omega) (by omega)
          refine lv_iinc (v := z_35) (lv' := [(4, .int z_35), (3, .int z_1), (0, .ref vs), (1, .ref vc), (2, .int vsu)]) hx hb dX7_findFewest_45 hl (k := 0) rfl ez_35.symm (by decide) rfl (fun ls hl => ?_)
          refine lv_goto (tgt := 11) hx hb dX7_findFewest_48 (by decide) ?_
          exact ih2 z_35 f_34 ⟨by omega, by omega⟩ (fwA_s (x := x_3) (i := z_28) v2_0 rfl (by omega) (by omega) (by omega) ef_34 (Or.inl ⟨by omega, by omega⟩)) (by omega) _ _ (hP.sub [0, 1, 2, 3, 4] rfl) (hD.sub [0, 1, 2, 3, 4] rfl rfl) hS ls (lv_sub hl [0, 1, 2, 3, 4] rfl)
  have k_0 : (0 : Int32).toInt = 0 := by decide
  exact loop2 ((256 - (0 : Int32).toInt).toNat + 1) 0 vsf ⟨by omega, by omega⟩ (fwA_0 (by omega)) (by omega) _ _ hP hD hS ls (lv_sub hl [0, 1, 2, 3, 4] rfl)
abbrev O_t_addFirst (cy : Nat → ClassId) (vs : Nat) (vs1 : Nat) (vs2 : Nat) (vs3 : Nat) (vsm : Nat → Int32) (vsf : Nat → Int32) (vc : Nat) (vc1 : Nat) (vc2 : Nat) (vc3 : Nat) (vc4 : Nat) (vc5 : Nat) (vcm : Int32) (vcd : Int32) (vcr : Int32) (vcw : Int32) (vcf3 : Nat → Int32) (vq : Nat) (vqf : Nat → Int32) (vsu : Int32) (u : (Nat → Int32)) : va_W := [(vs, .inr (8, [.ref vs1, .ref vs2, .ref vs3])), (vs1, .inl (cy 0, 10, .inl vsm)), (vs2, .inl (cy 0, 2816, .inl vsf)), (vc, .inr (2, [.ref vc1, .ref vc2, .ref vc3, .ref vc4, .ref vc5, .int vcm, .int vcd, .int vcr, .int vcw])), (vc3, .inl (cy 0, 10, .inl vcf3)), (vq, .inl (cy 0, 10, .inl u))]
set_option maxHeartbeats 4000000 in
set_option maxRecDepth 100000 in
theorem t_addFirst (l : Launch) (dC : Nat → ClassId) (dI : Nat → Nat → Nat) (cy : Nat → ClassId) (sz : Nat) (vs : Nat) (vs1 : Nat) (vs2 : Nat) (vs3 : Nat) (vsm : Nat → Int32) (vsf : Nat → Int32) (vc : Nat) (vc1 : Nat) (vc2 : Nat) (vc3 : Nat) (vc4 : Nat) (vc5 : Nat) (vcm : Int32) (vcd : Int32) (vcr : Int32) (vcw : Int32) (vcf3 : Nat → Int32) (vq : Nat) (vqf : Nat → Int32) (vsu : Int32) (r_vcm : 0 ≤ (vcm : Int32).toInt ∧ (vcm : Int32).toInt ≤ 7) (r_vcd : 0 ≤ (vcd : Int32).toInt ∧ (vcd : Int32).toInt ≤ 10) (r_vsu : 0 ≤ (vsu : Int32).toInt ∧ (vsu : Int32).toInt ≤ 255) (p_vsm : Rg vsm 10 0 9) (p_vcf3 : Rg vcf3 10 0 40) (hft : fwT vsf (fun d9 => (vsm d9).toInt.toNat + 1) (suWt vcf3) (vcd : Int32).toInt.toNat (vsu : Int32).toInt) (hq : ∀ j : Nat, (j : Int) < 10 → 0 ≤ (vqf j).toInt ∧ (vqf j).toInt ≤ 9) : Met l yX7_addFirst (wl yX7_addFirst cX7_addFirst 7 none) ({ frames := 1, cells := 0, slots := 0, locals := 64 }) (Pw (dC, dI) vwCl cy [(vs, .inr (8, [.ref vs1, .ref vs2, .ref vs3])), (vs1, .inl (cy 0, 10, .inl vsm)), (vs2, .inl (cy 0, 2816, .inl vsf)), (vc, .inr (2, [.ref vc1, .ref vc2, .ref vc3, .ref vc4, .ref vc5, .int vcm, .int vcd, .int vcr, .int vcw])), (vc3, .inl (cy 0, 10, .inl vcf3)), (vq, .inl (cy 0, 10, .inl vqf))] sz [.ref vs, .ref vc, .int vsu, .ref vq] nE) (Qv (dC, dI) vwCl (fun (u : (Nat → Int32)) => (∀ j : Nat, (j : Int) < (vcd : Int32).toInt → (u j).toInt = (vqf j).toInt + ((fw_Q 1000 (fun d9 => (vsm d9).toInt.toNat + 1) (suWt vcf3) (vcd : Int32).toInt.toNat (vsu : Int32).toInt.toNat j : Nat) : Int)) ∧ (∀ j : Nat, (vcd : Int32).toInt ≤ (j : Int) → u j = vqf j)) (O_t_addFirst cy vs vs1 vs2 vs3 vsm vsf vc vc1 vc2 vc3 vc4 vc5 vcm vcd vcr vcw vcf3 vq vqf vsu) (va_A [(vs, .inr (8, [.ref vs1, .ref vs2, .ref vs3])), (vs1, .inl (cy 0, 10, .inl vsm)), (vs2, .inl (cy 0, 2816, .inl vsf)), (vc, .inr (2, [.ref vc1, .ref vc2, .ref vc3, .ref vc4, .ref vc5, .int vcm, .int vcd, .int vcr, .int vcw])), (vc3, .inl (cy 0, 10, .inl vcf3)), (vq, .inl (cy 0, 10, .inl vqf))] sz)) 0 0 (va_A [(vs, .inr (8, [.ref vs1, .ref vs2, .ref vs3])), (vs1, .inl (cy 0, 10, .inl vsm)), (vs2, .inl (cy 0, 2816, .inl vsf)), (vc, .inr (2, [.ref vc1, .ref vc2, .ref vc3, .ref vc4, .ref vc5, .int vcm, .int vcd, .int vcr, .int vcw])), (vc3, .inl (cy 0, 10, .inl vcf3)), (vq, .inl (cy 0, 10, .inl vqf))] sz) := by
  refine mw (Qc := Qv (dC, dI) vwCl (fun (u : (Nat → Int32)) => (∀ j : Nat, (j : Int) < (vcd : Int32).toInt → (u j).toInt = (vqf j).toInt + ((fw_Q 1000 (fun d9 => (vsm d9).toInt.toNat + 1) (suWt vcf3) (vcd : Int32).toInt.toNat (vsu : Int32).toInt.toNat j : Nat) : Int)) ∧ (∀ j : Nat, (vcd : Int32).toInt ≤ (j : Int) → u j = vqf j)) (O_t_addFirst cy vs vs1 vs2 vs3 vsm vsf vc vc1 vc2 vc3 vc4 vc5 vcm vcd vcr vcw vcf3 vq vqf vsu)) RX7 rfl (by decide +kernel) (Nat.le_of_ble_eq_true rfl) ?_
  intro p e s m below meth c A hx hb hr hlocks av9 hav hts hown hnm hml hK hP hD hA hS hE hAe Q9 hQ9 ls hl
  have hl : lv_has ls 7 [(0, .ref vs), (1, .ref vc), (2, .int vsu), (3, .ref vq)] := hl
  refine lv_iload_n hx hb dX7_addFirst_0 rfl (lv_at hl 2 rfl) ?_
  refine lv_istore (lv' := [(4, .int vsu), (0, .ref vs), (1, .ref vc), (2, .int vsu), (3, .ref vq)]) hx hb dX7_addFirst_1 hl (by decide) rfl (fun ls hl => ?_)
  refine lv_iconst (v := 0) hx hb dX7_addFirst_3 (by decide) ?_
  refine lv_istore (lv' := [(5, .int 0), (4, .int vsu), (0, .ref vs), (1, .ref vc), (2, .int vsu), (3, .ref vq)]) hx hb dX7_addFirst_4 hl (by decide) rfl (fun ls hl => ?_)
  have loop1 : ∀ (n1 : Nat) (x_3 : Int32) (x_2 : Int32) (g_4 : Nat → Int32), (0 ≤ x_3.toInt ∧ x_3.toInt ≤ 255) → (0 ≤ x_2.toInt ∧ x_2.toInt ≤ 10) → (x_3.toInt = ((fw_l 1000 (fun d9 => (vsm d9).toInt.toNat + 1) (suWt vcf3) vcd.toInt.toNat vsu.toInt.toNat (x_2.toInt).toNat : Nat) : Int)) → (x_3.toInt ≤ vsu.toInt) → (x_2.toInt ≤ vcd.toInt) → (fwAd vqf g_4 (fw_Q 1000 (fun d9 => (vsm d9).toInt.toNat + 1) (suWt vcf3) vcd.toInt.toNat vsu.toInt.toNat) x_2.toInt) → 10 - x_2.toInt < (n1 : Int) → ∀ (H : Heap) (locs : List Loc), va_P (dC, dI) vwCl [(vs, .inr (8, [.ref vs1, .ref vs2, .ref vs3])), (vs1, .inl (cy 0, 10, .inl vsm)), (vs2, .inl (cy 0, 2816, .inl vsf)), (vc, .inr (2, [.ref vc1, .ref vc2, .ref vc3, .ref vc4, .ref vc5, .int vcm, .int vcd, .int vcr, .int vcw])), (vc3, .inl (cy 0, 10, .inl vcf3)), (vq, .inl (cy 0, 10, .inl g_4))] H → va_D A [(vs, .inr (8, [.ref vs1, .ref vs2, .ref vs3])), (vs1, .inl (cy 0, 10, .inl vsm)), (vs2, .inl (cy 0, 2816, .inl vsf)), (vc, .inr (2, [.ref vc1, .ref vc2, .ref vc3, .ref vc4, .ref vc5, .int vcm, .int vcd, .int vcr, .int vcw])), (vc3, .inl (cy 0, 10, .inl vcf3)), (vq, .inl (cy 0, 10, .inl g_4))] → va_S A s.heap H locs → ∀ ls : Array Slot, lv_has ls 7 [(5, .int x_2), (4, .int x_3), (0, .ref vs), (1, .ref vc), (2, .int vsu), (3, .ref vq)] → W p l e ({ frames := 1, cells := 0, slots := 0, locals := 64 }) s m av9 below meth c H locs 0 0 Q9 (F0 m 6 ls []) := by
    intro n1
    induction n1 with
    | zero =>
      intro x_3 x_2 g_4 bx_3 bx_2 v1_0 v1_1 v1_2 v1_3 hn1 H locs hP hD hS ls hl
      exfalso; omega
    | succ n1 ih1 =>
      intro x_3 x_2 g_4 bx_3 bx_2 v1_0 v1_1 v1_2 v1_3 hn1 H locs hP hD hS ls hl
      refine lv_iload hx hb dX7_addFirst_6 (lv_at hl 0 rfl) ?_
      refine lv_aload_n hx hb dX7_addFirst_8 rfl (lv_at hl 3 rfl) ?_
      refine gf_X7_22 hx hb hts hown hK hP 3 rfl rfl dX7_addFirst_9 ?_
      refine lv_icmp_ge (tgt := 62) hx hb dX7_addFirst_12 (by decide) (fun c_5 => ?_) (fun c_5 => ?_)
      · skip
        have c_5 : vcd.toInt ≤ x_2.toInt := i_le.mp c_5
        rw [hQ9]
        exact re_v g_4 hx hb hr hlocks ⟨(show ∀ j : Nat, (j : Int) < (vcd : Int32).toInt → (g_4 j).toInt = (vqf j).toInt + ((fw_Q 1000 (fun d9 => (vsm d9).toInt.toNat + 1) (suWt vcf3) (vcd : Int32).toInt.toNat (vsu : Int32).toInt.toNat j : Nat) : Int) from (fun j hj => v1_3.1 j (by omega))), (show ∀ j : Nat, (vcd : Int32).toInt ≤ (j : Int) → g_4 j = vqf j from (fun j hj => v1_3.2 j (by omega)))⟩ (hP.sub [0, 1, 2, 3, 4, 5] rfl) (hD.sub [0, 1, 2, 3, 4, 5] rfl rfl) hS dX7_addFirst_62
      · skip
        have c_5 : ¬ (vcd.toInt ≤ x_2.toInt) := fun h9 => c_5 (i_le.mpr h9)
        refine lv_aload_n hx hb dX7_addFirst_15 rfl (lv_at hl 2 rfl) ?_
        refine lv_iload hx hb dX7_addFirst_16 (lv_at hl 0 rfl) ?_
        refine lv_iload hx hb dX7_addFirst_18 (lv_at hl 1 rfl) ?_
        refine lv_aload_n hx hb dX7_addFirst_20 rfl (lv_at hl 3 rfl) ?_
        refine gf_X7_28 hx hb hts hown hK hP 3 rfl rfl dX7_addFirst_21 ?_
        refine lv_iload hx hb dX7_addFirst_24 (lv_at hl 0 rfl) ?_
        have hin_6 : vp_in x_2 10 := vp_in_iff.mpr ⟨by omega, by omega⟩
        refine va_iald hx hb hK hP 4 0 rfl rfl hin_6 dX7_addFirst_26 ?_
        refine lv_topi (fun z_7 ez_7 => ?_)
        have bz_7 := p_vcf3.at hin_6 ez_7
        refine jr_i (rVr (As := [.int x_2, .int x_3, .int z_7]) (rest := []) (ci := 8) ⟨hx, hb, hml, hown, hts⟩ (t_firstTimes l dC dI cy vs vs1 vs2 vs3 vsm vsf x_2 x_3 z_7 ⟨by omega, by omega⟩ ⟨by omega, by omega⟩ ⟨by omega, by omega⟩ p_vsm (fwT_b hft (by omega) (by omega) (by omega)) (fwT_n hft (by omega) (by omega) (by omega) (by omega))) (cw_X7_45 hts rfl rfl ⟨Nat.le_of_ble_eq_true rfl, Nat.le_of_ble_eq_true rfl⟩) hP hK [0, 1, 2] rfl rfl rfl rfl hl.1 rfl (Nat.le_of_ble_eq_true rfl) dX7_addFirst_27 ⟨Nat.le_of_ble_eq_true rfl, Nat.le_of_ble_eq_true rfl⟩) hP hS (fun r_8 H locs hp_9 hP hS => ?_)
        have hp_9 : (0 ≤ (r_8 : Int32).toInt ∧ (r_8 : Int32).toInt ≤ 9) ∧ ((r_8 : Int32).toInt * (z_7 : Int32).toInt ≤ (x_3 : Int32).toInt) ∧ ((r_8 : Int32).toInt = ((fw_n (z_7 : Int32).toInt.toNat (fun j => (vsf (256 * ((x_2 : Int32).toInt.toNat + 1) + j)).toInt.toNat) (x_3 : Int32).toInt.toNat (vsf (256 * (x_2 : Int32).toInt.toNat + (x_3 : Int32).toInt.toNat)).toInt.toNat ((vsm (x_2 : Int32).toInt.toNat).toInt.toNat + 1) : Nat) : Int)) := hp_9
        obtain ⟨q_10, q_11, q_12⟩ := hp_9
        have hQr_8 := fwT_Q (d := x_2) (x := x_3) (wv := z_7) hft (by omega) (by omega) v1_0 (by omega) ez_7 q_12
        refine lv_istore (lv' := [(6, .int r_8), (5, .int x_2), (4, .int x_3), (0, .ref vs), (1, .ref vc), (2, .int vsu), (3, .ref vq)]) hx hb dX7_addFirst_30 hl (by decide) rfl (fun ls hl => ?_)
        refine lv_aload_n hx hb dX7_addFirst_32 rfl (lv_at hl 6 rfl) ?_
        refine lv_iload hx hb dX7_addFirst_33 (lv_at hl 1 rfl) ?_
        refine lv_dup2_11 hx hb dX7_addFirst_35 rfl rfl ?_
        have hin_13 : vp_in x_2 10 := vp_in_iff.mpr ⟨by omega, by omega⟩
        refine va_iald hx hb hK hP 5 0 rfl rfl hin_13 dX7_addFirst_36 ?_
        refine lv_topi (fun z_14 ez_14 => ?_)
        have hzz_14 := fwAd_v v1_3 (by omega) ez_14
        have hyz_14 := hq (Int32.toNatClampNeg x_2) (by have := cl_nn (x := x_2) (by omega); omega)
        refine lv_iload hx hb dX7_addFirst_37 (lv_at hl 0 rfl) ?_
        refine lv_iadd hx hb dX7_addFirst_39 ?_
        refine lv_topi (fun z_15 ez_15 => ?_)
        have bz_15 : z_15.toInt = z_14.toInt + r_8.toInt := i_add ez_15 (by omega) (by omega)
        have hin_16 : vp_in x_2 10 := vp_in_iff.mpr ⟨by omega, by omega⟩
        refine va_iast hx hb hK hP hD hS 5 0 rfl rfl hin_16 dX7_addFirst_40 (fun H locs hP hD hS => ?_)
        obtain ⟨f_17, ef_17⟩ : ∃ z : Nat → Int32, z = upd g_4 (Int32.toNatClampNeg x_2) z_15 := ⟨_, rfl⟩
        have hP : va_P (dC, dI) vwCl [(vs, .inr (8, [.ref vs1, .ref vs2, .ref vs3])), (vs1, .inl (cy 0, 10, .inl vsm)), (vs2, .inl (cy 0, 2816, .inl vsf)), (vc, .inr (2, [.ref vc1, .ref vc2, .ref vc3, .ref vc4, .ref vc5, .int vcm, .int vcd, .int vcr, .int vcw])), (vc3, .inl (cy 0, 10, .inl vcf3)), (vq, .inl (cy 0, 10, .inl f_17))] H := by rw [ef_17]; exact hP
        have hD : va_D A [(vs, .inr (8, [.ref vs1, .ref vs2, .ref vs3])), (vs1, .inl (cy 0, 10, .inl vsm)), (vs2, .inl (cy 0, 2816, .inl vsf)), (vc, .inr (2, [.ref vc1, .ref vc2, .ref vc3, .ref vc4, .ref vc5, .int vcm, .int vcd, .int vcr, .int vcw])), (vc3, .inl (cy 0, 10, .inl vcf3)), (vq, .inl (cy 0, 10, .inl f_17))] := by rw [ef_17]; exact hD
        refine lv_iload hx hb dX7_addFirst_41 (lv_at hl 2 rfl) ?_
        refine lv_iload hx hb dX7_addFirst_43 (lv_at hl 0 rfl) ?_
        refine lv_aload_n hx hb dX7_addFirst_45 rfl (lv_at hl 4 rfl) ?_
        refine gf_X7_28 hx hb hts hown hK hP 3 rfl rfl dX7_addFirst_46 ?_
        refine lv_iload hx hb dX7_addFirst_49 (lv_at hl 1 rfl) ?_
        have hin_18 : vp_in x_2 10 := vp_in_iff.mpr ⟨by omega, by omega⟩
        refine va_iald hx hb hK hP 4 0 rfl rfl hin_18 dX7_addFirst_51 ?_
        refine lv_topi (fun z_19 ez_19 => ?_)
        have bz_19 := p_vcf3.at hin_18 ez_19
        refine as_i z_7 (i_eq.mpr (i_same ez_7 ez_19 (by omega))) ?_
        refine lv_imul hx hb dX7_addFirst_52 ?_
        refine lv_topi (fun z_20 ez_20 => ?_)
        have bz_20 : 0 ≤ z_20.toInt ∧ z_20.toInt ≤ 360 ∧ z_20.toInt = r_8.toInt * z_7.toInt := i_mulb (A := 9) (B := 40) ez_20 ⟨by omega, by omega⟩ ⟨by omega, by omega⟩ (by decide)
        refine lv_isub hx hb dX7_addFirst_53 ?_
        refine lv_topi (fun z_21 ez_21 => ?_)
        have bz_21 : z_21.toInt = x_3.toInt - z_20.toInt := i_sub ez_21 (by omega) (by omega)
        refine lv_istore (lv' := [(4, .int z_21), (6, .int r_8), (5, .int x_2), (0, .ref vs), (1, .ref vc), (2, .int vsu), (3, .ref vq)]) hx hb dX7_addFirst_54 hl (by decide) rfl (fun ls hl => ?_)
        obtain ⟨z_22, ez_22⟩ : ∃ z : Int32, z = x_2 + 1 := ⟨_, rfl⟩
        have k_1 : (1 : Int32).toInt = 1 := by decide
        have bz_22 : z_22.toInt = x_2.toInt + (1 : Int32).toInt := i_add ez_22 (by omega) (by omega)
        refine lv_iinc (v := z_22) (lv' := [(5, .int z_22), (4, .int z_21), (6, .int r_8), (0, .ref vs), (1, .ref vc), (2, .int vsu), (3, .ref vq)]) hx hb dX7_addFirst_56 hl (k := 2) rfl ez_22.symm (by decide) rfl (fun ls hl => ?_)
        refine lv_goto (tgt := 6) hx hb dX7_addFirst_59 (by decide) ?_
        exact ih1 z_21 z_22 f_17 ⟨by omega, by omega⟩ ⟨by omega, by omega⟩ (fw_l_s (x := x_3) (d := x_2) (wv := z_7) (r := r_8) (z := z_20) v1_0 hQr_8 ez_7 (by omega) bz_20.2.2 (by omega) (by omega) (by omega) (by omega)) (by omega) (by omega) (fwAd_s (d := x_2) (z := z_14) (v := z_15) (r := r_8) v1_3 (by omega) ez_14 hQr_8 (by omega) ef_17 (by omega)) (by omega) _ _ (hP.sub [0, 1, 2, 3, 4, 5] rfl) (hD.sub [0, 1, 2, 3, 4, 5] rfl rfl) hS ls (lv_sub hl [0, 1, 3, 4, 5, 6] rfl)
  have k_0 : (0 : Int32).toInt = 0 := by decide
  exact loop1 ((10 - (0 : Int32).toInt).toNat + 1) vsu 0 vqf ⟨by omega, by omega⟩ ⟨by omega, by omega⟩ (show vsu.toInt = ((vsu.toInt.toNat : Nat) : Int) by omega) (by omega) (by omega) (fwAd_0 (by omega)) (by omega) _ _ hP hD hS ls (lv_sub hl [0, 1, 2, 3, 4, 5] rfl)
