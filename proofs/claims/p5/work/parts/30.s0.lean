theorem tknmF_b {b : Nat → Int32} {s : Int} : ∀ k : Nat, 0 ≤ tkcGF b s k ∧ (tkcGF b s k ≤ 0 → (tknmF b s k).toInt = 0) ∧ (tkcGF b s k ≤ 1 → 0 ≤ (tknmF b s k).toInt ∧ (tknmF b s k).toInt ≤ 9) ∧ (tkcGF b s k ≤ 2 → 0 ≤ (tknmF b s k).toInt ∧ (tknmF b s k).toInt ≤ 99) ∧ (tkcGF b s k ≤ 3 → 0 ≤ (tknmF b s k).toInt ∧ (tknmF b s k).toInt ≤ 999) := by
  intro k
  induction k with
  | zero => exact ⟨Int.le_refl 0, fun _ => (show (0 : Int32).toInt = 0 from by decide), fun _ => (show 0 ≤ (0 : Int32).toInt ∧ (0 : Int32).toInt ≤ 9 from by decide), fun _ => (show 0 ≤ (0 : Int32).toInt ∧ (0 : Int32).toInt ≤ 99 from by decide), fun _ => (show 0 ≤ (0 : Int32).toInt ∧ (0 : Int32).toInt ≤ 999 from by decide)⟩
  | succ k ih =>
    have e1 : tkcGF b s (k + 1) = tkcGF b s k + (if 48 ≤ tkb b (s + k) ∧ tkb b (s + k) ≤ 57 then 1 else 0) := rfl
    have e2 : tknmF b s (k + 1) = if 48 ≤ tkb b (s + k) ∧ tkb b (s + k) ≤ 57 then tknmF b s k * 10 + (b (s + k).toNat - 48) else tknmF b s k := rfl
    obtain ⟨i0, i1, i2, i3, i4⟩ := ih
    by_cases c : 48 ≤ tkb b (s + k) ∧ tkb b (s + k) ≤ 57
    · rw [if_pos c] at e1 e2
      have step : ∀ A : Int, 0 ≤ (tknmF b s k).toInt → (tknmF b s k).toInt ≤ A → A ≤ 99 → 0 ≤ (tknmF b s (k + 1)).toInt ∧ (tknmF b s (k + 1)).toInt ≤ A * 10 + 9 := by
        intro A h0 h1 h2
        obtain ⟨x, hx⟩ : ∃ x : Int32, x = tknmF b s k * 10 := ⟨_, rfl⟩
        obtain ⟨y, hy⟩ : ∃ y : Int32, y = b (s + k).toNat - 48 := ⟨_, rfl⟩
        have x1 := i_mulc (show (10 : Int32).toInt = 10 from by decide) hx (by omega) (by omega)
        have hb : (b (s + k).toNat).toInt = tkb b (s + k) := rfl
        have k48 : (48 : Int32).toInt = 48 := by decide
        have y1 := i_sub hy (by omega) (by omega)
        rw [← hx, ← hy] at e2
        have z1 := i_add e2 (by omega) (by omega)
        omega
      refine ⟨by omega, fun h => absurd h (by omega), fun h => ?_, fun h => ?_, fun h => ?_⟩
      · have q1 := i1 (by omega)
        have q2 := step 0 (by omega) (by omega) (by omega)
        omega
      · have q1 := i2 (by omega)
        have q2 := step 9 (by omega) (by omega) (by omega)
        omega
      · have q1 := i3 (by omega)
        have q2 := step 99 (by omega) (by omega) (by omega)
        omega
    · rw [if_neg c] at e1 e2
      rw [e2]
      exact ⟨by omega, fun h => i1 (by omega), fun h => i2 (by omega), fun h => i3 (by omega), fun h => i4 (by omega)⟩
theorem tkVi_rg {b : Nat → Int32} {n lim a : Int} (h : tkK b n lim a = 2) : 0 ≤ (tkVi b n a).toInt ∧ (tkVi b n a).toInt ≤ 999 := by
  have h1 := tkK_run (Or.inr h)
  unfold tkcL tkcG at h1
  unfold tkVi tknm
  exact (tknmF_b _).2.2.2.2 (by omega)
def seNm (b : Nat → Int32) (n : Int) (f : Nat → Int64) (o c p : Int) : Int := tksr f o (tkD b n p) c 0
def seMC (k : Int) : Int := if k = 19 then 8 else if k ≤ 18 then k + 1 else k
theorem seMC_rg {k : Int} (h : 17 ≤ k ∧ k ≤ 28) : 0 ≤ seMC k ∧ seMC k < 29 := by
  unfold seMC
  by_cases c : k = 19
  · rw [if_pos c]; omega
  · rw [if_neg c]
    by_cases c2 : k ≤ 18
    · rw [if_pos c2]; omega
    · rw [if_neg c2]; omega
theorem seMC_of {k w : Int} (h : 17 ≤ k ∧ k ≤ 28) (e : w = seMC k) : (k = 19 ∧ w = 8) ∨ (17 ≤ k ∧ k ≤ 18 ∧ w = k + 1) ∨ (20 ≤ k ∧ k ≤ 28 ∧ w = k) := by
  unfold seMC at e
  by_cases c : k = 19
  · rw [if_pos c] at e; omega
  · rw [if_neg c] at e
    by_cases c2 : k ≤ 18
    · rw [if_pos c2] at e; omega
    · rw [if_neg c2] at e; omega
theorem seMC_to {k w : Int} (h : 17 ≤ k ∧ k ≤ 28) (e : (k = 19 ∧ w = 8) ∨ (17 ≤ k ∧ k ≤ 18 ∧ w = k + 1) ∨ (20 ≤ k ∧ k ≤ 28 ∧ w = k)) : w = seMC k := by
  unfold seMC
  by_cases c : k = 19
  · rw [if_pos c]; omega
  · rw [if_neg c]
    by_cases c2 : k ≤ 18
    · rw [if_pos c2]; omega
    · rw [if_neg c2]; omega
theorem seMM {k : Int} (h : 17 ≤ k ∧ k ≤ 28) : tkMM k = (tkMT (seMC k).toNat).toInt := by
  have hc : k = 17 ∨ k = 18 ∨ k = 19 ∨ k = 20 ∨ k = 21 ∨ k = 22 ∨ k = 23 ∨ k = 24 ∨ k = 25 ∨ k = 26 ∨ k = 27 ∨ k = 28 := by omega
  rcases hc with e | e | e | e | e | e | e | e | e | e | e | e <;> rw [e] <;> decide
def seOfF (b : Nat → Int32) (n lim : Int) (mf df : Int → Int) (w p k pl : Int) : Prop := (¬ (tkK b n lim p = 1 ∧ tkW b n lim p = -1) ∧ k = 1 ∧ pl = tkS b n lim p) ∨ ((tkK b n lim p = 1 ∧ tkW b n lim p = -1) ∧ ((w = 23 ∧ df p = -1) ∨ (w = 24 ∧ mf p = -1)) ∧ k = 3 ∧ pl = tkS b n lim p)
def seOfG (b : Nat → Int32) (n lim : Int) (mf df : Int → Int) (w p : Int) : Prop := (tkK b n lim p = 1 ∧ tkW b n lim p = -1) ∧ ((w = 23 ∧ df p ≠ -1) ∨ (w = 24 ∧ mf p ≠ -1))
theorem se_Of {b : Nat → Int32} {n lim : Int} {mf df : Int → Int} {d o p k pl w : Int} (h1 : tkK b n lim p ≠ 40) (h2 : tkW b n lim p = w) (hw : 23 ≤ w ∧ w ≤ 24) (ho : o < 20) (hd : d ≤ 8) (h : seOfF b n lim mf df w (tkN b n lim p) k pl) : seNO b n lim mf df 2 d o p k pl := by
  rcases h with ⟨a, a1, a2⟩ | ⟨a, ⟨b1, b2⟩ | ⟨b1, b2⟩, a1, a2⟩
  · subst a1 a2
    by_cases c : w = 23
    · exact se_Ea h1 (by omega) ho hd a
    · exact se_Fa h1 (by omega) ho hd a
  · subst a1 a2
    exact se_Eb h1 (by omega) ho hd a b2
  · subst a1 a2
    exact se_Fb h1 (by omega) ho hd a b2
theorem se_Og {b : Nat → Int32} {n lim : Int} {mf df : Int → Int} {d o p w : Int} (h1 : tkK b n lim p ≠ 40) (h2 : tkW b n lim p = w) (ho : o < 20) (hd : d ≤ 8) (h : seOfG b n lim mf df w (tkN b n lim p)) : seOK b n lim mf df 2 d o p (tkN b n lim (tkN b n lim p)) (o + 1) := by
  obtain ⟨a, ⟨b1, b2⟩ | ⟨b1, b2⟩⟩ := h
  · exact se_Eg h1 (by omega) ho hd a b2
  · exact se_Fg h1 (by omega) ho hd a b2
def seCmF (b : Nat → Int32) (n lim p k pl : Int) : Prop := (¬ (60 ≤ tkK b n lim p ∧ tkK b n lim p ≤ 62) ∧ k = 1 ∧ pl = tkS b n lim p) ∨ (60 ≤ tkK b n lim p ∧ tkK b n lim p ≤ 62 ∧ tkK b n lim (tkN b n lim p) ≠ 2 ∧ k = 1 ∧ pl = tkS b n lim (tkN b n lim p))
theorem se_Cm {b : Nat → Int32} {n lim : Int} {mf df : Int → Int} {d o p k pl : Int} (h1 : tkK b n lim p ≠ 40) (h2 : 25 ≤ tkW b n lim p) (ho : o < 20) (hd : d ≤ 8) (h : seCmF b n lim (tkN b n lim p) k pl) : seNO b n lim mf df 2 d o p k pl := by
  rcases h with ⟨a, a1, a2⟩ | ⟨a, a3, a4, a1, a2⟩
  · subst a1 a2
    exact se_Ga h1 h2 ho hd a
  · subst a1 a2
    exact se_Gb h1 h2 ho hd ⟨a, a3⟩ a4
def seTM (b : Nat → Int32) (n lim : Int) (mf df : Int → Int) (md d o p : Int) (oto okd ofr osg : Int32) (owd : Int64) (onu : Int32) (o2 : Int) : Prop := ∃ q2 : Int, seOK b n lim mf df md d o p q2 o2 ∧ tkMX b n lim q2 oto okd ofr osg owd onu
def seBF (b : Nat → Int32) (n lim : Int) (mf df : Int → Int) (d o p k pl : Int) : Prop := seNO b n lim mf df 0 d o p k pl ∨ ∃ q2 o2 : Int, seOK b n lim mf df 0 d o p q2 o2 ∧ tkK b n lim q2 ≠ 41 ∧ k = 1 ∧ pl = tkS b n lim q2
def seBG (b : Nat → Int32) (n lim : Int) (mf df : Int → Int) (d o p : Int) (oto okd ofr osg : Int32) (owd : Int64) (onu : Int32) (o2 : Int) : Prop := ∃ q2 : Int, seOK b n lim mf df 0 d o p q2 o2 ∧ tkK b n lim q2 = 41 ∧ tkMX b n lim (tkN b n lim q2) oto okd ofr osg owd onu
theorem seBF.no {b : Nat → Int32} {n lim : Int} {mf df : Int → Int} {d o p k pl d1 o1 p1 : Int} (h : seBF b n lim mf df d1 o1 p1 k pl) (h1 : tkK b n lim p = 40) (ho : o < 20) (hd : d ≤ 8) (e1 : d1 = d + 1) (e2 : o1 = o + 1) (e3 : p1 = tkN b n lim p) : seNO b n lim mf df 2 d o p k pl := by
  subst e1 e2 e3
  rcases h with h | ⟨q2, o2, h, h3, h4, h5⟩
  · exact se_Cf h1 ho hd h
  · exact seNO.eq (se_Cs h1 ho hd h h3) h4 h5
theorem seBG.ok {b : Nat → Int32} {n lim : Int} {mf df : Int → Int} {d o p d1 o1 p1 o2 : Int} {oto okd ofr osg : Int32} {owd : Int64} {onu : Int32} (h : seBG b n lim mf df d1 o1 p1 oto okd ofr osg owd onu o2) (h1 : tkK b n lim p = 40) (ho : o < 20) (hd : d ≤ 8) (e1 : d1 = d + 1) (e2 : o1 = o + 1) (e3 : p1 = tkN b n lim p) : seTM b n lim mf df 2 d o p oto okd ofr osg owd onu o2 := by
  subst e1 e2 e3
  obtain ⟨q2, h, h3, h4⟩ := h
  exact ⟨_, se_Cg h1 ho hd h h3, h4⟩
theorem seBG.o {b : Nat → Int32} {n lim : Int} {mf df : Int → Int} {d o p o2 : Int} {oto okd ofr osg : Int32} {owd : Int64} {onu : Int32} (h : seBG b n lim mf df d o p oto okd ofr osg owd onu o2) (ho : o ≤ 20) : o + 1 ≤ o2 ∧ o2 ≤ 20 := by
  obtain ⟨q2, h, _⟩ := h
  exact h.o (Or.inl rfl) ho
def seJM (b : Nat → Int32) (n lim : Int) (mf df : Int → Int) (d o p good : Int) (oto okd ofr osg : Int32) (owd : Int64) (onu : Int32) (o2 fk fp fk0 fp0 : Int) : Prop := (good = 1 ∧ seTM b n lim mf df 2 d o p oto okd ofr osg owd onu o2 ∧ fk = fk0 ∧ fp = fp0 ∧ oto.toInt ≤ n) ∨ (good = 0 ∧ seNO b n lim mf df 2 d o p fk fp)
def seLM (b : Nat → Int32) (n lim : Int) (mf df : Int → Int) (mx m2 d o p : Int) (oto okd ofr osg : Int32) (owd : Int64) (onu : Int32) (o2 fk fp fk0 fp0 : Int) : Prop := (∃ p9 : Int, tkMX b n lim p9 oto okd ofr osg owd onu ∧ seGO b n lim mf df mx m2 d o p o2 p9) ∧ o + 1 ≤ o2 ∧ o2 ≤ 20 ∧ fk = fk0 ∧ fp = fp0
def seNB (w k : Int) : Prop := ∀ j : Int, 17 ≤ j → j < k → ¬ ((j = 19 ∧ w = 8) ∨ (17 ≤ j ∧ j ≤ 18 ∧ w = j + 1) ∨ (20 ≤ j ∧ j ≤ 28 ∧ w = j))
theorem seNB_0 {w k : Int} (h : k ≤ 17) : seNB w k := fun j h1 h2 => absurd h2 (by omega)
theorem seNB_s {w k k2 : Int} (h : seNB w k) (hk : k2 = k + 1) (h2 : ¬ ((k = 19 ∧ w = 8) ∨ (17 ≤ k ∧ k ≤ 18 ∧ w = k + 1) ∨ (20 ≤ k ∧ k ≤ 28 ∧ w = k))) : seNB w k2 := by
  intro j a1 a2
  by_cases c : j = k
  · subst c; exact h2
  · exact h j a1 (by omega)
theorem seNB_end {w : Int} (h : seNB w 29) (hw : w < 29) : ¬ (w = 8 ∨ 18 ≤ w) := by
  intro h1
  by_cases c : w = 8
  · exact h 19 (by omega) (by omega) (Or.inl ⟨rfl, c⟩)
  · by_cases c2 : w ≤ 19
    · exact h (w - 1) (by omega) (by omega) (Or.inr (Or.inl ⟨by omega, by omega, by omega⟩))
    · exact h w (by omega) (by omega) (Or.inr (Or.inr ⟨by omega, by omega, rfl⟩))
theorem seN_HD {b : Nat → Int32} {n lim : Int} {g : Nat → Int32} {gn : Nat → Int64} {cm cd cr cw : Int32} {cf1 cf2 : Nat → Int64} {cf3 cf5 : Nat → Int32} (h : tkHD g gn cm cd cr cw cf1 cf2 cf3 cf5) : ∀ p : Int, tkK b n lim p = 1 → seN b n cf1 cm.toInt p = seNm b n gn 0 (g 0).toInt p ∧ seN b n cf2 cd.toInt p = seNm b n gn 7 (g 1).toInt p := by
  intro p hk
  obtain ⟨⟨a1, a2, _⟩, hb, _, _, h1, h2⟩ := h
  have hw := tkword hk
  unfold seN seNm
  refine ⟨?_, ?_⟩
  · rw [← a1]
    refine tksr_like (fun j x1 x2 => ?_)
    have q := h1 (0 + j).toNat (by omega)
    exact tkcode_iff q.1 q.2 hw.1 hw.2
  · rw [← a2]
    refine tksr_like (fun j x1 x2 => ?_)
    have q := h2 (0 + j).toNat (by omega)
    rw [show 7 + (0 + j).toNat = (7 + j).toNat by omega] at q
    exact tkcode_iff q.1 q.2 hw.1 hw.2
set_option maxHeartbeats 4000000 in
set_option maxRecDepth 100000 in
theorem s_isWord_15 (l : Launch) (dC : Nat → ClassId) (dI : Nat → Nat → Nat) (cy : Nat → ClassId) (vo : Nat) (voth : Int32) (vmt : Nat) (votp : Int32) (vosz : Int32) (volm : Int32) (voto : Int32) (vofr : Int32) (vokd : Int32) (vonu : Int32) (vosg : Int32) (vofa : Int32) (vopl : Int32) (vowd : Int64) (votd : Int32) (vmn : Nat) (vmr : Nat) (vmk : Nat) (vms : Nat) (vma : Nat) (vmm : Nat) (vmrn : Nat) (vmkn : Nat) (vmik : Nat) (vmon : Nat) (vosm : Int32) (vohp : Int32) (vmw : Nat) (vmf : Nat) (vmb : Nat) (vomb : Int32) (vmd : Nat) (vmc : Nat) (vocm : Int32) (voct : Int32) (vocy : Int32) (vmx : Nat) (votx : Int32) (vose : Int32) (vml : Nat) (vmwr : Nat) (voln : Int32) (vohw : Int32) (vmno : Nat) (vond : Int32) (voon : Int32) (vowi : Int32) (votop : Int32)  : Met l yX11_isWord (wl yX11_isWord cX11_isWord 2 (some .boolean)) ({ frames := 2, cells := 0, slots := 0, locals := 128 }) (Pr (dC, dI) vwCl cy [(vo, .inr (12, [.int voth, .ref vmt, .int votp, .int vosz, .int volm, .int voto, .int vofr, .int vokd, .int vonu, .int vosg, .int vofa, .int vopl, .long vowd, .int votd, .ref vmn, .ref vmr, .ref vmk, .ref vms, .ref vma, .ref vmm, .ref vmrn, .ref vmkn, .ref vmik, .ref vmon, .int vosm, .int vohp, .ref vmw, .ref vmf, .ref vmb, .int vomb, .ref vmd, .ref vmc, .int vocm, .int voct, .int vocy, .ref vmx, .int votx, .int vose, .ref vml, .ref vmwr, .int voln, .int vohw, .ref vmno, .int vond, .int voon, .int vowi, .int votop]))] [.ref vo, .int 15]) (Ri (fun r => ((r = 0 ∧ ¬ (tkMW (vokd : Int32).toInt vowd = 16)) ∨ (r = 1 ∧ tkMW (vokd : Int32).toInt vowd = 16)))) 0 0 (fun _ => False) := by
  refine mr RX11 rfl (by decide +kernel) (Nat.le_of_ble_eq_true rfl) ?_
  intro p e s m below meth c hx hb hr hlocks av9 hav hts hown hml hK hP hS Q9 hQ9 ls hl
  have hl : lv_has ls 2 [(0, .ref vo), (1, .int 15)] := hl
  refine lv_aload_n hx hb dX11_isWord_0 rfl (lv_at hl 0 rfl) ?_
  refine gf_X11_30 hx hb hts hown hK hP 0 rfl rfl dX11_isWord_1 ?_
  refine lv_iconst (v := 2) hx hb dX11_isWord_4 (by decide) ?_
  have k_2 : (2 : Int32).toInt = 2 := by decide
  refine lv_icmp_ne (tgt := 24) hx hb dX11_isWord_5 (by decide) (fun c_1 => ?_) (fun c_1 => ?_)
  · skip
    have c_1 : ¬ (vokd.toInt = (2 : Int32).toInt) := fun h9 => c_1 (i_eq.mpr h9)
    refine lv_iconst (v := 0) hx hb dX11_isWord_24 (by decide) ?_
    have k_0 : (0 : Int32).toInt = 0 := by decide
    rw [hQ9]
    exact rr_z hx hb hr hlocks (Or.inl rfl) (show ((0 : Int32) = 0 ∧ ¬ (tkMW (vokd : Int32).toInt vowd = 16)) ∨ ((0 : Int32) = 1 ∧ tkMW (vokd : Int32).toInt vowd = 16) from Or.inl ⟨rfl, (show ¬ (tkMW (vokd : Int32).toInt vowd = 16) from (by rw [tkMW_not (by omega)]; decide))⟩) hS dX11_isWord_25
  · skip
    have c_1 : vokd.toInt = (2 : Int32).toInt := i_eq.mp c_1
    refine lv_aload_n hx hb dX11_isWord_8 rfl (lv_at hl 0 rfl) ?_
    refine gf_X11_43 hx hb hts hown hK hP 0 rfl rfl dX11_isWord_9 ?_
    refine lv_iload_n hx hb dX11_isWord_12 rfl (lv_at hl 1 rfl) ?_
    have k_15 : (15 : Int32).toInt = 15 := by decide
    refine jr_l (rSr (As := [.int 15]) (rest := [.long vowd]) ⟨hx, hb, hml, hown, hts⟩ (s_wordOf l dC dI cy 15 ⟨by omega, by omega⟩) (cw_X11_62 hts rfl rfl ⟨Nat.le_of_ble_eq_true rfl, Nat.le_of_ble_eq_true rfl⟩) hP hK [] rfl rfl hl.1 rfl (Nat.le_of_ble_eq_true rfl) dX11_isWord_13 ⟨Nat.le_of_ble_eq_true rfl, Nat.le_of_ble_eq_true rfl⟩) hP hS (fun r_2 H locs hp_3 hP hS => ?_)
    have hp_3 : ((r_2 : Int64).toInt = tkMM (15 : Int32).toInt) := hp_3
    have q_4 := hp_3
    have hr9 : r_2 = tkMT (16 : Int).toNat := l_eq.mpr (q_4.trans (by decide))
    refine W.lcmp hx hb dX11_isWord_16 ?_
    refine lv_topi (fun z_5 ez_5 => ?_)
    have k_0 : (0 : Int32).toInt = 0 := by decide
    refine lv_if_ne (tgt := 24) hx hb dX11_isWord_17 (by decide) (fun c_6 => ?_) (fun c_6 => ?_)
    · skip
      have c_6 : ¬ (z_5.toInt = (0 : Int32).toInt) := fun h9 => c_6 (i_eq.mpr h9)
      refine lv_iconst (v := 0) hx hb dX11_isWord_24 (by decide) ?_
      rw [hQ9]
      exact rr_z hx hb hr hlocks (Or.inl rfl) (show ((0 : Int32) = 0 ∧ ¬ (tkMW (vokd : Int32).toInt vowd = 16)) ∨ ((0 : Int32) = 1 ∧ tkMW (vokd : Int32).toInt vowd = 16) from Or.inl ⟨rfl, (show ¬ (tkMW (vokd : Int32).toInt vowd = 16) from (fun h9 => c_6 ((l_cmp0 ez_5).mpr (((tkMW_isI (by decide) (by decide) (by omega)).mp h9).trans hr9.symm))))⟩) hS dX11_isWord_25
    · skip
      have c_6 : z_5.toInt = (0 : Int32).toInt := i_eq.mp c_6
      refine lv_iconst (v := 1) hx hb dX11_isWord_20 (by decide) ?_
      refine lv_goto (tgt := 25) hx hb dX11_isWord_21 (by decide) ?_
      have k_1 : (1 : Int32).toInt = 1 := by decide
      rw [hQ9]
      exact rr_z hx hb hr hlocks (Or.inr rfl) (show ((1 : Int32) = 0 ∧ ¬ (tkMW (vokd : Int32).toInt vowd = 16)) ∨ ((1 : Int32) = 1 ∧ tkMW (vokd : Int32).toInt vowd = 16) from Or.inr (⟨rfl, (show tkMW (vokd : Int32).toInt vowd = 16 from ((tkMW_isI (by decide) (by decide) (by omega)).mpr (((l_cmp0 ez_5).mp c_6).trans hr9)))⟩)) hS dX11_isWord_25
set_option maxHeartbeats 4000000 in
set_option maxRecDepth 100000 in
theorem s_isWord_16 (l : Launch) (dC : Nat → ClassId) (dI : Nat → Nat → Nat) (cy : Nat → ClassId) (vo : Nat) (voth : Int32) (vmt : Nat) (votp : Int32) (vosz : Int32) (volm : Int32) (voto : Int32) (vofr : Int32) (vokd : Int32) (vonu : Int32) (vosg : Int32) (vofa : Int32) (vopl : Int32) (vowd : Int64) (votd : Int32) (vmn : Nat) (vmr : Nat) (vmk : Nat) (vms : Nat) (vma : Nat) (vmm : Nat) (vmrn : Nat) (vmkn : Nat) (vmik : Nat) (vmon : Nat) (vosm : Int32) (vohp : Int32) (vmw : Nat) (vmf : Nat) (vmb : Nat) (vomb : Int32) (vmd : Nat) (vmc : Nat) (vocm : Int32) (voct : Int32) (vocy : Int32) (vmx : Nat) (votx : Int32) (vose : Int32) (vml : Nat) (vmwr : Nat) (voln : Int32) (vohw : Int32) (vmno : Nat) (vond : Int32) (voon : Int32) (vowi : Int32) (votop : Int32)  : Met l yX11_isWord (wl yX11_isWord cX11_isWord 2 (some .boolean)) ({ frames := 2, cells := 0, slots := 0, locals := 128 }) (Pr (dC, dI) vwCl cy [(vo, .inr (12, [.int voth, .ref vmt, .int votp, .int vosz, .int volm, .int voto, .int vofr, .int vokd, .int vonu, .int vosg, .int vofa, .int vopl, .long vowd, .int votd, .ref vmn, .ref vmr, .ref vmk, .ref vms, .ref vma, .ref vmm, .ref vmrn, .ref vmkn, .ref vmik, .ref vmon, .int vosm, .int vohp, .ref vmw, .ref vmf, .ref vmb, .int vomb, .ref vmd, .ref vmc, .int vocm, .int voct, .int vocy, .ref vmx, .int votx, .int vose, .ref vml, .ref vmwr, .int voln, .int vohw, .ref vmno, .int vond, .int voon, .int vowi, .int votop]))] [.ref vo, .int 16]) (Ri (fun r => ((r = 0 ∧ ¬ (tkMW (vokd : Int32).toInt vowd = 17)) ∨ (r = 1 ∧ tkMW (vokd : Int32).toInt vowd = 17)))) 0 0 (fun _ => False) := by
  refine mr RX11 rfl (by decide +kernel) (Nat.le_of_ble_eq_true rfl) ?_
  intro p e s m below meth c hx hb hr hlocks av9 hav hts hown hml hK hP hS Q9 hQ9 ls hl
  have hl : lv_has ls 2 [(0, .ref vo), (1, .int 16)] := hl
  refine lv_aload_n hx hb dX11_isWord_0 rfl (lv_at hl 0 rfl) ?_
  refine gf_X11_30 hx hb hts hown hK hP 0 rfl rfl dX11_isWord_1 ?_
  refine lv_iconst (v := 2) hx hb dX11_isWord_4 (by decide) ?_
  have k_2 : (2 : Int32).toInt = 2 := by decide
  refine lv_icmp_ne (tgt := 24) hx hb dX11_isWord_5 (by decide) (fun c_1 => ?_) (fun c_1 => ?_)
  · skip
    have c_1 : ¬ (vokd.toInt = (2 : Int32).toInt) := fun h9 => c_1 (i_eq.mpr h9)
    refine lv_iconst (v := 0) hx hb dX11_isWord_24 (by decide) ?_
    have k_0 : (0 : Int32).toInt = 0 := by decide
    rw [hQ9]
    exact rr_z hx hb hr hlocks (Or.inl rfl) (show ((0 : Int32) = 0 ∧ ¬ (tkMW (vokd : Int32).toInt vowd = 17)) ∨ ((0 : Int32) = 1 ∧ tkMW (vokd : Int32).toInt vowd = 17) from Or.inl ⟨rfl, (show ¬ (tkMW (vokd : Int32).toInt vowd = 17) from (by rw [tkMW_not (by omega)]; decide))⟩) hS dX11_isWord_25
  · skip
    have c_1 : vokd.toInt = (2 : Int32).toInt := i_eq.mp c_1
    refine lv_aload_n hx hb dX11_isWord_8 rfl (lv_at hl 0 rfl) ?_
    refine gf_X11_43 hx hb hts hown hK hP 0 rfl rfl dX11_isWord_9 ?_
    refine lv_iload_n hx hb dX11_isWord_12 rfl (lv_at hl 1 rfl) ?_
    have k_16 : (16 : Int32).toInt = 16 := by decide
    refine jr_l (rSr (As := [.int 16]) (rest := [.long vowd]) ⟨hx, hb, hml, hown, hts⟩ (s_wordOf l dC dI cy 16 ⟨by omega, by omega⟩) (cw_X11_62 hts rfl rfl ⟨Nat.le_of_ble_eq_true rfl, Nat.le_of_ble_eq_true rfl⟩) hP hK [] rfl rfl hl.1 rfl (Nat.le_of_ble_eq_true rfl) dX11_isWord_13 ⟨Nat.le_of_ble_eq_true rfl, Nat.le_of_ble_eq_true rfl⟩) hP hS (fun r_2 H locs hp_3 hP hS => ?_)
    have hp_3 : ((r_2 : Int64).toInt = tkMM (16 : Int32).toInt) := hp_3
    have q_4 := hp_3
    have hr9 : r_2 = tkMT (17 : Int).toNat := l_eq.mpr (q_4.trans (by decide))
    refine W.lcmp hx hb dX11_isWord_16 ?_
    refine lv_topi (fun z_5 ez_5 => ?_)
    have k_0 : (0 : Int32).toInt = 0 := by decide
    refine lv_if_ne (tgt := 24) hx hb dX11_isWord_17 (by decide) (fun c_6 => ?_) (fun c_6 => ?_)
    · skip
      have c_6 : ¬ (z_5.toInt = (0 : Int32).toInt) := fun h9 => c_6 (i_eq.mpr h9)
      refine lv_iconst (v := 0) hx hb dX11_isWord_24 (by decide) ?_
      rw [hQ9]
      exact rr_z hx hb hr hlocks (Or.inl rfl) (show ((0 : Int32) = 0 ∧ ¬ (tkMW (vokd : Int32).toInt vowd = 17)) ∨ ((0 : Int32) = 1 ∧ tkMW (vokd : Int32).toInt vowd = 17) from Or.inl ⟨rfl, (show ¬ (tkMW (vokd : Int32).toInt vowd = 17) from (fun h9 => c_6 ((l_cmp0 ez_5).mpr (((tkMW_isI (by decide) (by decide) (by omega)).mp h9).trans hr9.symm))))⟩) hS dX11_isWord_25
    · skip
      have c_6 : z_5.toInt = (0 : Int32).toInt := i_eq.mp c_6
      refine lv_iconst (v := 1) hx hb dX11_isWord_20 (by decide) ?_
      refine lv_goto (tgt := 25) hx hb dX11_isWord_21 (by decide) ?_
      have k_1 : (1 : Int32).toInt = 1 := by decide
      rw [hQ9]
      exact rr_z hx hb hr hlocks (Or.inr rfl) (show ((1 : Int32) = 0 ∧ ¬ (tkMW (vokd : Int32).toInt vowd = 17)) ∨ ((1 : Int32) = 1 ∧ tkMW (vokd : Int32).toInt vowd = 17) from Or.inr (⟨rfl, (show tkMW (vokd : Int32).toInt vowd = 17 from ((tkMW_isI (by decide) (by decide) (by omega)).mpr (((l_cmp0 ez_5).mp c_6).trans hr9)))⟩)) hS dX11_isWord_25
set_option maxHeartbeats 4000000 in
set_option maxRecDepth 100000 in
theorem s_isWordv (l : Launch) (dC : Nat → ClassId) (dI : Nat → Nat → Nat) (cy : Nat → ClassId) (vo : Nat) (voth : Int32) (vmt : Nat) (votp : Int32) (vosz : Int32) (volm : Int32) (voto : Int32) (vofr : Int32) (vokd : Int32) (vonu : Int32) (vosg : Int32) (vofa : Int32) (vopl : Int32) (vowd : Int64) (votd : Int32) (vmn : Nat) (vmr : Nat) (vmk : Nat) (vms : Nat) (vma : Nat) (vmm : Nat) (vmrn : Nat) (vmkn : Nat) (vmik : Nat) (vmon : Nat) (vosm : Int32) (vohp : Int32) (vmw : Nat) (vmf : Nat) (vmb : Nat) (vomb : Int32) (vmd : Nat) (vmc : Nat) (vocm : Int32) (voct : Int32) (vocy : Int32) (vmx : Nat) (votx : Int32) (vose : Int32) (vml : Nat) (vmwr : Nat) (voln : Int32) (vohw : Int32) (vmno : Nat) (vond : Int32) (voon : Int32) (vowi : Int32) (votop : Int32) (vk : Int32) (r_vk : 17 ≤ (vk : Int32).toInt ∧ (vk : Int32).toInt ≤ 28) : Met l yX11_isWord (wl yX11_isWord cX11_isWord 2 (some .boolean)) ({ frames := 2, cells := 0, slots := 0, locals := 128 }) (Pr (dC, dI) vwCl cy [(vo, .inr (12, [.int voth, .ref vmt, .int votp, .int vosz, .int volm, .int voto, .int vofr, .int vokd, .int vonu, .int vosg, .int vofa, .int vopl, .long vowd, .int votd, .ref vmn, .ref vmr, .ref vmk, .ref vms, .ref vma, .ref vmm, .ref vmrn, .ref vmkn, .ref vmik, .ref vmon, .int vosm, .int vohp, .ref vmw, .ref vmf, .ref vmb, .int vomb, .ref vmd, .ref vmc, .int vocm, .int voct, .int vocy, .ref vmx, .int votx, .int vose, .ref vml, .ref vmwr, .int voln, .int vohw, .ref vmno, .int vond, .int voon, .int vowi, .int votop]))] [.ref vo, .int vk]) (Ri (fun r => ((r = 0 ∧ (¬ (((vk : Int32).toInt = 19 ∧ tkMW (vokd : Int32).toInt vowd = 8) ∨ (17 ≤ (vk : Int32).toInt ∧ (vk : Int32).toInt ≤ 18 ∧ tkMW (vokd : Int32).toInt vowd = (vk : Int32).toInt + 1) ∨ (20 ≤ (vk : Int32).toInt ∧ (vk : Int32).toInt ≤ 28 ∧ tkMW (vokd : Int32).toInt vowd = (vk : Int32).toInt)))) ∨ (r = 1 ∧ (((vk : Int32).toInt = 19 ∧ tkMW (vokd : Int32).toInt vowd = 8) ∨ (17 ≤ (vk : Int32).toInt ∧ (vk : Int32).toInt ≤ 18 ∧ tkMW (vokd : Int32).toInt vowd = (vk : Int32).toInt + 1) ∨ (20 ≤ (vk : Int32).toInt ∧ (vk : Int32).toInt ≤ 28 ∧ tkMW (vokd : Int32).toInt vowd = (vk : Int32).toInt)))))) 0 0 (fun _ => False) := by
  refine mr RX11 rfl (by decide +kernel) (Nat.le_of_ble_eq_true rfl) ?_
  intro p e s m below meth c hx hb hr hlocks av9 hav hts hown hml hK hP hS Q9 hQ9 ls hl
  have hl : lv_has ls 2 [(0, .ref vo), (1, .int vk)] := hl
  refine lv_aload_n hx hb dX11_isWord_0 rfl (lv_at hl 0 rfl) ?_
  refine gf_X11_30 hx hb hts hown hK hP 0 rfl rfl dX11_isWord_1 ?_
  refine lv_iconst (v := 2) hx hb dX11_isWord_4 (by decide) ?_
  have k_2 : (2 : Int32).toInt = 2 := by decide
  refine lv_icmp_ne (tgt := 24) hx hb dX11_isWord_5 (by decide) (fun c_1 => ?_) (fun c_1 => ?_)
  · skip
    have c_1 : ¬ (vokd.toInt = (2 : Int32).toInt) := fun h9 => c_1 (i_eq.mpr h9)
    refine lv_iconst (v := 0) hx hb dX11_isWord_24 (by decide) ?_
    have k_0 : (0 : Int32).toInt = 0 := by decide
    rw [hQ9]
    exact rr_z hx hb hr hlocks (Or.inl rfl) (show ((0 : Int32) = 0 ∧ (¬ (((vk : Int32).toInt = 19 ∧ tkMW (vokd : Int32).toInt vowd = 8) ∨ (17 ≤ (vk : Int32).toInt ∧ (vk : Int32).toInt ≤ 18 ∧ tkMW (vokd : Int32).toInt vowd = (vk : Int32).toInt + 1) ∨ (20 ≤ (vk : Int32).toInt ∧ (vk : Int32).toInt ≤ 28 ∧ tkMW (vokd : Int32).toInt vowd = (vk : Int32).toInt)))) ∨ ((0 : Int32) = 1 ∧ (((vk : Int32).toInt = 19 ∧ tkMW (vokd : Int32).toInt vowd = 8) ∨ (17 ≤ (vk : Int32).toInt ∧ (vk : Int32).toInt ≤ 18 ∧ tkMW (vokd : Int32).toInt vowd = (vk : Int32).toInt + 1) ∨ (20 ≤ (vk : Int32).toInt ∧ (vk : Int32).toInt ≤ 28 ∧ tkMW (vokd : Int32).toInt vowd = (vk : Int32).toInt))) from Or.inl ⟨rfl, (show ¬ (((vk : Int32).toInt = 19 ∧ tkMW (vokd : Int32).toInt vowd = 8) ∨ (17 ≤ (vk : Int32).toInt ∧ (vk : Int32).toInt ≤ 18 ∧ tkMW (vokd : Int32).toInt vowd = (vk : Int32).toInt + 1) ∨ (20 ≤ (vk : Int32).toInt ∧ (vk : Int32).toInt ≤ 28 ∧ tkMW (vokd : Int32).toInt vowd = (vk : Int32).toInt)) from (by rw [tkMW_not (by omega)]; omega))⟩) hS dX11_isWord_25
  · skip
    have c_1 : vokd.toInt = (2 : Int32).toInt := i_eq.mp c_1
    refine lv_aload_n hx hb dX11_isWord_8 rfl (lv_at hl 0 rfl) ?_
    refine gf_X11_43 hx hb hts hown hK hP 0 rfl rfl dX11_isWord_9 ?_
    refine lv_iload_n hx hb dX11_isWord_12 rfl (lv_at hl 1 rfl) ?_
    refine jr_l (rSr (As := [.int vk]) (rest := [.long vowd]) ⟨hx, hb, hml, hown, hts⟩ (s_wordOf l dC dI cy vk ⟨by omega, by omega⟩) (cw_X11_62 hts rfl rfl ⟨Nat.le_of_ble_eq_true rfl, Nat.le_of_ble_eq_true rfl⟩) hP hK [] rfl rfl hl.1 rfl (Nat.le_of_ble_eq_true rfl) dX11_isWord_13 ⟨Nat.le_of_ble_eq_true rfl, Nat.le_of_ble_eq_true rfl⟩) hP hS (fun r_2 H locs hp_3 hP hS => ?_)
    have hp_3 : ((r_2 : Int64).toInt = tkMM (vk : Int32).toInt) := hp_3
    have q_4 := hp_3
    have hr9 : r_2 = tkMT (seMC (vk : Int32).toInt).toNat := l_eq.mpr (q_4.trans (seMM ⟨by omega, by omega⟩))
    refine W.lcmp hx hb dX11_isWord_16 ?_
    refine lv_topi (fun z_5 ez_5 => ?_)
    have k_0 : (0 : Int32).toInt = 0 := by decide
    refine lv_if_ne (tgt := 24) hx hb dX11_isWord_17 (by decide) (fun c_6 => ?_) (fun c_6 => ?_)
    · skip
      have c_6 : ¬ (z_5.toInt = (0 : Int32).toInt) := fun h9 => c_6 (i_eq.mpr h9)
      refine lv_iconst (v := 0) hx hb dX11_isWord_24 (by decide) ?_
      rw [hQ9]
      exact rr_z hx hb hr hlocks (Or.inl rfl) (show ((0 : Int32) = 0 ∧ (¬ (((vk : Int32).toInt = 19 ∧ tkMW (vokd : Int32).toInt vowd = 8) ∨ (17 ≤ (vk : Int32).toInt ∧ (vk : Int32).toInt ≤ 18 ∧ tkMW (vokd : Int32).toInt vowd = (vk : Int32).toInt + 1) ∨ (20 ≤ (vk : Int32).toInt ∧ (vk : Int32).toInt ≤ 28 ∧ tkMW (vokd : Int32).toInt vowd = (vk : Int32).toInt)))) ∨ ((0 : Int32) = 1 ∧ (((vk : Int32).toInt = 19 ∧ tkMW (vokd : Int32).toInt vowd = 8) ∨ (17 ≤ (vk : Int32).toInt ∧ (vk : Int32).toInt ≤ 18 ∧ tkMW (vokd : Int32).toInt vowd = (vk : Int32).toInt + 1) ∨ (20 ≤ (vk : Int32).toInt ∧ (vk : Int32).toInt ≤ 28 ∧ tkMW (vokd : Int32).toInt vowd = (vk : Int32).toInt))) from Or.inl ⟨rfl, (show ¬ (((vk : Int32).toInt = 19 ∧ tkMW (vokd : Int32).toInt vowd = 8) ∨ (17 ≤ (vk : Int32).toInt ∧ (vk : Int32).toInt ≤ 18 ∧ tkMW (vokd : Int32).toInt vowd = (vk : Int32).toInt + 1) ∨ (20 ≤ (vk : Int32).toInt ∧ (vk : Int32).toInt ≤ 28 ∧ tkMW (vokd : Int32).toInt vowd = (vk : Int32).toInt)) from (fun h9 => c_6 ((l_cmp0 ez_5).mpr (((tkMW_isI (seMC_rg ⟨by omega, by omega⟩).1 (seMC_rg ⟨by omega, by omega⟩).2 (by omega)).mp (seMC_to ⟨by omega, by omega⟩ h9)).trans hr9.symm))))⟩) hS dX11_isWord_25
    · skip
      have c_6 : z_5.toInt = (0 : Int32).toInt := i_eq.mp c_6
      refine lv_iconst (v := 1) hx hb dX11_isWord_20 (by decide) ?_
      refine lv_goto (tgt := 25) hx hb dX11_isWord_21 (by decide) ?_
      have k_1 : (1 : Int32).toInt = 1 := by decide
      rw [hQ9]
      exact rr_z hx hb hr hlocks (Or.inr rfl) (show ((1 : Int32) = 0 ∧ (¬ (((vk : Int32).toInt = 19 ∧ tkMW (vokd : Int32).toInt vowd = 8) ∨ (17 ≤ (vk : Int32).toInt ∧ (vk : Int32).toInt ≤ 18 ∧ tkMW (vokd : Int32).toInt vowd = (vk : Int32).toInt + 1) ∨ (20 ≤ (vk : Int32).toInt ∧ (vk : Int32).toInt ≤ 28 ∧ tkMW (vokd : Int32).toInt vowd = (vk : Int32).toInt)))) ∨ ((1 : Int32) = 1 ∧ (((vk : Int32).toInt = 19 ∧ tkMW (vokd : Int32).toInt vowd = 8) ∨ (17 ≤ (vk : Int32).toInt ∧ (vk : Int32).toInt ≤ 18 ∧ tkMW (vokd : Int32).toInt vowd = (vk : Int32).toInt + 1) ∨ (20 ≤ (vk : Int32).toInt ∧ (vk : Int32).toInt ≤ 28 ∧ tkMW (vokd : Int32).toInt vowd = (vk : Int32).toInt))) from Or.inr (⟨rfl, (show (((vk : Int32).toInt = 19 ∧ tkMW (vokd : Int32).toInt vowd = 8) ∨ (17 ≤ (vk : Int32).toInt ∧ (vk : Int32).toInt ≤ 18 ∧ tkMW (vokd : Int32).toInt vowd = (vk : Int32).toInt + 1) ∨ (20 ≤ (vk : Int32).toInt ∧ (vk : Int32).toInt ≤ 28 ∧ tkMW (vokd : Int32).toInt vowd = (vk : Int32).toInt)) from (seMC_of ⟨by omega, by omega⟩ ((tkMW_isI (seMC_rg ⟨by omega, by omega⟩).1 (seMC_rg ⟨by omega, by omega⟩).2 (by omega)).mpr (((l_cmp0 ez_5).mp c_6).trans hr9))))⟩)) hS dX11_isWord_25
