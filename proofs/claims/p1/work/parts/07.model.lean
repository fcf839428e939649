def NowOk (f : Nat → Int32) : Prop := f 0 = 0 ∧ f 1 = 0 ∧ f 2 = 60 ∧ f 3 = 10 ∧ f 157 = 0 ∧ f 333 = 0 ∧ ∀ j : Nat, j < 7 → f (298 + j) = 0
def inF (v a b : Int32) : Int32 := if v < a then 0 else if b < v then 0 else 1
theorem inF_01 {x : Int32} (h : ¬ inF x 0 1 = 0) : x = 0 ∨ x = 1 := by
  unfold inF at h
  by_cases h1 : x < 0
  · rw [if_pos h1] at h; exact absurd rfl h
  · rw [if_neg h1] at h
    by_cases h2 : (1 : Int32) < x
    · rw [if_pos h2] at h; exact absurd rfl h
    · refine two_of h1 (fun h3 => h2 ?_)
      exact Int32.lt_of_lt_of_le (by decide) h3
theorem inF_01n {x : Int32} (h : inF x 0 1 = 0) : ¬ x = 0 ∧ ¬ x = 1 := by
  refine ⟨fun e => ?_, fun e => ?_⟩ <;> (rw [e] at h; exact absurd h (by decide))
theorem bk_no {x : Int32} (h : inF x 0 1 = 0) : bkF x = -1000 := by
  unfold bkF; rw [if_neg (inF_01n h).1, if_neg (inF_01n h).2]
theorem im_no {x : Int32} (h : inF x 0 1 = 0) : imF x = 0 := by
  unfold imF
  by_cases h1 : x < 0
  · rw [if_pos h1]
  · rw [if_neg h1]
    by_cases h2 : x < 2
    · rcases two_of h1 (Int32.not_le.mpr h2) with e | e
      · exact absurd e (inF_01n h).1
      · exact absurd e (inF_01n h).2
    · rw [if_neg h2]
theorem in_yr {x : Int32} (h : ¬ inF x 1 30 = 0) : ∃ K : Nat, (1 ≤ K ∧ K ≤ 30) ∧ x = nI K := by
  unfold inF at h
  by_cases h1 : x < 1
  · rw [if_pos h1] at h; exact absurd rfl h
  · rw [if_neg h1] at h
    by_cases h2 : (30 : Int32) < x
    · rw [if_pos h2] at h; exact absurd rfl h
    · exact yr_of h1 (Int32.not_lt.mp h2)
theorem yr_no {x : Int32} (h : inF x 1 30 = 0) : yrF x = -1 := by
  unfold inF at h; unfold yrF
  by_cases h1 : x < 1
  · rw [if_pos h1]
  · rw [if_neg h1] at h ⊢
    by_cases h2 : (30 : Int32) < x
    · rw [if_neg (Int32.not_le.mpr h2)]
    · rw [if_neg h2] at h; exact absurd h (by decide)
theorem yr_yes {K : Nat} (h : 1 ≤ K ∧ K ≤ 30) : yrF (nI K) = nI K := by
  unfold yrF
  have h1 : ¬ nI K < 1 := nI_nlt (a := K) (b := 1) h.1 (by omega)
  have h2 : nI K ≤ 30 := nI_le (a := K) (b := 30) h.2 (by decide)
  rw [if_neg h1, if_pos h2]
def LOk (f0 f : Nat → Int32) (i : Nat) : Prop := (∀ j, j < 157 → f j = f0 j) ∧ ∀ j, 157 ≤ j → j < i → f j = 0
def SOk (f0 f : Nat → Int32) : Prop := (∀ j, j < 157 → f j = f0 j) ∧ f 157 = 0 ∧ ∀ j, 298 ≤ j → j < 575 → f j = 0
theorem LOk_0 (f : Nat → Int32) : LOk f f 157 := ⟨fun _ _ => rfl, fun j h1 h2 => absurd h2 (by omega)⟩
theorem LOk_s {f0 g f : Nat → Int32} {i : Nat} (h : LOk f0 g i) (hi : 157 ≤ i) (e : f = upd g i 0) : LOk f0 f (i + 1) := by
  refine ⟨fun j hj => ?_, fun j h1 h2 => ?_⟩
  · rw [e, pk_un (by omega)]; exact h.1 j hj
  · rw [e]
    by_cases h3 : j = i
    · rw [h3]; exact pk_us
    · rw [pk_un h3]; exact h.2 j h1 (by omega)
theorem SOk_0 {f0 f : Nat → Int32} (h : LOk f0 f 575) : SOk f0 f := ⟨h.1, h.2 157 (by omega) (by omega), fun j h1 h2 => h.2 j (by omega) h2⟩
theorem SOk_s {f0 g f : Nat → Int32} {k : Nat} {v : Int32} (h : SOk f0 g) (e : f = upd g k v) (h1 : 157 < k) (h2 : k < 298) : SOk f0 f := by
  refine ⟨fun j hj => ?_, ?_, fun j h3 h4 => ?_⟩
  · rw [e, pk_un (by omega)]; exact h.1 j hj
  · rw [e, pk_un (by omega)]; exact h.2.1
  · rw [e, pk_un (by omega)]; exact h.2.2 j h3 h4
abbrev cX11_isIn : ByteArray := prog_13_method_7_code
def yX11_isIn : MethodName := ⟨RX11, "isIn", "(III)Z"⟩
theorem t1659 : Cond.code yX11_isIn cX11_isIn 3 (some .boolean) ∈ GW := gw_mem 1773 (by decide +kernel) (by decide +kernel)
theorem dX11_isIn_0 : decode cX11_isIn 0 = .ok (.iload_n 0, 1) := by decide +kernel
theorem dX11_isIn_1 : decode cX11_isIn 1 = .ok (.iload_n 1, 1) := by decide +kernel
theorem dX11_isIn_2 : decode cX11_isIn 2 = .ok (.if_icmp .lt 12, 3) := by decide +kernel
theorem dX11_isIn_14 : decode cX11_isIn 14 = .ok (.iconst 0, 1) := by decide +kernel
theorem dX11_isIn_15 : decode cX11_isIn 15 = .ok (.ireturn, 1) := by decide +kernel
theorem dX11_isIn_5 : decode cX11_isIn 5 = .ok (.iload_n 0, 1) := by decide +kernel
theorem dX11_isIn_6 : decode cX11_isIn 6 = .ok (.iload_n 2, 1) := by decide +kernel
theorem dX11_isIn_7 : decode cX11_isIn 7 = .ok (.if_icmp .gt 7, 3) := by decide +kernel
set_option maxHeartbeats 4000000 in
set_option maxRecDepth 100000 in
theorem m_isIn_no (l : Launch) (dC : Nat → ClassId) (dI : Nat → Nat → Nat) (cy : Nat → ClassId) (v : Int32)  : Met l yX11_isIn (wl yX11_isIn cX11_isIn 3 (some .boolean)) ({ frames := 0, cells := 0, slots := 0, locals := 0 }) (Pr (dC, dI) vwCl cy [] [.int v, .int 0, .int (-1)]) (Ri (fun r => r = 0)) 0 0 (fun _ => False) := by
  refine mr RX11 rfl (by decide +kernel) (Nat.le_of_ble_eq_true rfl) ?_
  intro p e s m below meth c hx hb hr hlocks av9 hav hts hown hml hK hP hS Q9 hQ9 ls hl
  have hl : lv_has ls 3 [(0, .int v), (1, .int 0), (2, .int (-1))] := hl
  refine lv_iload_n hx hb dX11_isIn_0 rfl (lv_at hl 0 rfl) ?_
  refine lv_iload_n hx hb dX11_isIn_1 rfl (lv_at hl 1 rfl) ?_
  refine lv_icmp_lt (tgt := 14) hx hb dX11_isIn_2 (by decide) (fun c_1 => ?_) (fun c_1 => ?_)
  · skip
    refine lv_iconst (v := 0) hx hb dX11_isIn_14 (by decide) ?_
    rw [hQ9]
    exact rr_z hx hb hr hlocks (Or.inl rfl) rfl hS dX11_isIn_15
  · skip
    refine lv_iload_n hx hb dX11_isIn_5 rfl (lv_at hl 0 rfl) ?_
    refine lv_iload_n hx hb dX11_isIn_6 rfl (lv_at hl 2 rfl) ?_
    refine lv_icmp_gt (tgt := 14) hx hb dX11_isIn_7 (by decide) (fun _ => ?_) (fun c9 => absurd (Int32.lt_of_lt_of_le (by decide) (Int32.not_lt.mp c_1)) c9)
    refine lv_iconst (v := 0) hx hb dX11_isIn_14 (by decide) ?_
    rw [hQ9]
    exact rr_z hx hb hr hlocks (Or.inl rfl) rfl hS dX11_isIn_15
theorem dX11_isIn_10 : decode cX11_isIn 10 = .ok (.iconst 1, 1) := by decide +kernel
theorem dX11_isIn_11 : decode cX11_isIn 11 = .ok (.goto 4, 3) := by decide +kernel
set_option maxHeartbeats 4000000 in
set_option maxRecDepth 100000 in
theorem m_isIn (l : Launch) (dC : Nat → ClassId) (dI : Nat → Nat → Nat) (cy : Nat → ClassId) (v : Int32) (x1 : Int32) (x2 : Int32)  : Met l yX11_isIn (wl yX11_isIn cX11_isIn 3 (some .boolean)) ({ frames := 0, cells := 0, slots := 0, locals := 0 }) (Pr (dC, dI) vwCl cy [] [.int v, .int x1, .int x2]) (Ri (fun r => r = inF v x1 x2)) 0 0 (fun _ => False) := by
  refine mr RX11 rfl (by decide +kernel) (Nat.le_of_ble_eq_true rfl) ?_
  intro p e s m below meth c hx hb hr hlocks av9 hav hts hown hml hK hP hS Q9 hQ9 ls hl
  have hl : lv_has ls 3 [(0, .int v), (1, .int x1), (2, .int x2)] := hl
  refine lv_iload_n hx hb dX11_isIn_0 rfl (lv_at hl 0 rfl) ?_
  refine lv_iload_n hx hb dX11_isIn_1 rfl (lv_at hl 1 rfl) ?_
  refine lv_icmp_lt (tgt := 14) hx hb dX11_isIn_2 (by decide) (fun c_1 => ?_) (fun c_1 => ?_)
  · skip
    refine lv_iconst (v := 0) hx hb dX11_isIn_14 (by decide) ?_
    rw [hQ9]
    exact rr_z hx hb hr hlocks (Or.inl rfl) (show _ = inF v x1 x2 by unfold inF; simp only [c_1, if_true, if_false]) hS dX11_isIn_15
  · skip
    refine lv_iload_n hx hb dX11_isIn_5 rfl (lv_at hl 0 rfl) ?_
    refine lv_iload_n hx hb dX11_isIn_6 rfl (lv_at hl 2 rfl) ?_
    refine lv_icmp_gt (tgt := 14) hx hb dX11_isIn_7 (by decide) (fun c_2 => ?_) (fun c_2 => ?_)
    · skip
      refine lv_iconst (v := 0) hx hb dX11_isIn_14 (by decide) ?_
      rw [hQ9]
      exact rr_z hx hb hr hlocks (Or.inl rfl) (show _ = inF v x1 x2 by unfold inF; simp only [c_1, c_2, if_true, if_false]) hS dX11_isIn_15
    · skip
      refine lv_iconst (v := 1) hx hb dX11_isIn_10 (by decide) ?_
      refine lv_goto (tgt := 15) hx hb dX11_isIn_11 (by decide) ?_
      rw [hQ9]
      exact rr_z hx hb hr hlocks (Or.inr rfl) (show _ = inF v x1 x2 by unfold inF; simp only [c_1, c_2, if_true, if_false]) hS dX11_isIn_15
abbrev cX11_isMan : ByteArray := prog_13_method_43_code
def yX11_isMan : MethodName := ⟨RX11, "isMan", "(I)Z"⟩
theorem t1714 : Cond.code yX11_isMan cX11_isMan 2 (some .boolean) ∈ GW := gw_mem 1828 (by decide +kernel) (by decide +kernel)
theorem dX11_isMan_0 : decode cX11_isMan 0 = .ok (.iload_n 1, 1) := by decide +kernel
theorem dX11_isMan_1 : decode cX11_isMan 1 = .ok (.iconst 0, 1) := by decide +kernel
theorem dX11_isMan_2 : decode cX11_isMan 2 = .ok (.aload_n 0, 1) := by decide +kernel
theorem dX11_isMan_3 : decode cX11_isMan 3 = .ok (.getfield 98, 3) := by decide +kernel
theorem t1460 : Cond.fieldLink RX11 98 "LikenessPoundModel" "now" "[I" ∈ GW := gw_mem 1574 (by decide +kernel) (by decide +kernel)
theorem gf_X11_98 {p : Program} {l : Launch} {e : Env} {R : Room} {s : State} {m : MethodId} {args : Array Value} {below : List Frame} {meth : Method} {c : Code} {H : Heap} {locs : List Loc} {cells slots : Nat} {Q : State → Prop} {cc : ByteArray} {pc : Nat} {ls : Array Slot} {rest : List Value} {D : va_G} {a : Nat} {tys : List (ClassId × FieldType)} {ws : va_W} (hx : p.tables.exec = Jvm.exec) (hb : c.code = cc) (hts : ∀ w ∈ GW, w.before args s = true) (hown : s.vm.findClass RX11 = some m.cls) (hK : va_K D vwCl tys s) (hP : va_P D vwCl ws H) (q0 : Nat) {fs : List Value} (he : ws[q0]? = some (a, .inr (12, fs))) {v : Value} (hv : fs[14]? = some v) (hdg : decode cc pc = .ok (.getfield 98, 3)) (kk : W p l e R s m args below meth c H locs cells slots Q (F0 m (pc + 3) ls (v :: rest))) : W p l e R s m args below meth c H locs cells slots Q (F0 m pc ls (.ref a :: rest)) := va_get (C := RX11) (T := TX11) (N := 47) (ci := 12) hx hb hts inX11 hown hK hP q0 he rfl 14 (by decide) (hts _ t1460) (fun _ h => h) hv hdg kk
theorem dX11_isMan_6 : decode cX11_isMan 6 = .ok (.iconst 0, 1) := by decide +kernel
theorem dX11_isMan_7 : decode cX11_isMan 7 = .ok (.iaload, 1) := by decide +kernel
theorem dX11_isMan_8 : decode cX11_isMan 8 = .ok (.iconst 1, 1) := by decide +kernel
theorem dX11_isMan_9 : decode cX11_isMan 9 = .ok (.isub, 1) := by decide +kernel
theorem dX11_isMan_10 : decode cX11_isMan 10 = .ok (.invokestatic 75, 3) := by decide +kernel
theorem t1657 : Cond.methodLink RX11 75 yX11_isIn ∈ GW := gw_mem 1771 (by decide +kernel) (by decide +kernel)
theorem t18 : Cond.initialized RX11 ∈ GW := gw_mem 132 (by decide +kernel) (by decide +kernel)
theorem t1658 : Cond.static yX11_isIn ∈ GW := gw_mem 1772 (by decide +kernel) (by decide +kernel)
theorem cw_X11_75 {R : Room} {s : State} {args : Array Value} {rm : Room} {mc ms : Nat} (hts : ∀ w ∈ GW, w.before args s = true) (hrc : rm.cells = mc) (hrs : rm.slots = ms) (hR : rm.frames + 1 ≤ R.frames ∧ 8 + (3 + 11) + rm.locals ≤ R.locals) : CallB R s args RX11 75 yX11_isIn cX11_isIn 3 (some .boolean) (wl yX11_isIn cX11_isIn 3 (some .boolean)) rm mc ms 3 ∧ (Cond.static yX11_isIn).before args s = true := va_cwS 3 hts (gi_S t1657 t1658 t18 t1659) rfl hrc hrs (by decide +kernel) hR
theorem dX11_isMan_13 : decode cX11_isMan 13 = .ok (.ireturn, 1) := by decide +kernel
set_option maxHeartbeats 4000000 in
set_option maxRecDepth 100000 in
theorem m_isMan (l : Launch) (dC : Nat → ClassId) (dI : Nat → Nat → Nat) (cy : Nat → ClassId) (am : Nat → Nat) (mi : Nat → Nat → Int32) (n0 : Int32) (hn : NowOk (mi 2)) : Met l yX11_isMan (wl yX11_isMan cX11_isMan 2 (some .boolean)) ({ frames := 1, cells := 0, slots := 0, locals := 64 }) (Pr (dC, dI) vwCl cy [(am 0, .inr (12, [.int 0, .ref (am 1), .int 0, .int 0, .int 0, .int 0, .int 0, .int 0, .int 0, .int 0, .int 0, .int 0, .long 0, .int 0, .ref (am 2), .ref (am 3), .ref (am 4), .ref (am 5), .ref (am 6), .ref (am 7), .ref (am 8), .ref (am 9), .ref (am 10), .ref (am 11), .int 0, .int (-1), .ref (am 12), .ref (am 13), .ref (am 14), .int 0, .ref (am 15), .ref (am 16), .int 0, .int 0, .int 0, .ref (am 17), .int 0, .int 0, .ref (am 18), .ref (am 19), .int 0, .int 0, .ref (am 20), .int 0, .int 0, .int 0, .int 0])), (am 2, .inl (cy 0, 575, .inl (mi 2)))] [.ref (am 0), .int n0]) (Ri (fun r => r = 0)) 0 0 (fun _ => False) := by
  refine mr RX11 rfl (by decide +kernel) (Nat.le_of_ble_eq_true rfl) ?_
  intro p e s m below meth c hx hb hr hlocks av9 hav hts hown hml hK hP hS Q9 hQ9 ls hl
  have hl : lv_has ls 2 [(0, .ref (am 0)), (1, .int n0)] := hl
  refine lv_iload_n hx hb dX11_isMan_0 rfl (lv_at hl 1 rfl) ?_
  refine lv_iconst (v := 0) hx hb dX11_isMan_1 (by decide) ?_
  refine lv_aload_n hx hb dX11_isMan_2 rfl (lv_at hl 0 rfl) ?_
  refine gf_X11_98 hx hb hts hown hK hP 0 rfl rfl dX11_isMan_3 ?_
  refine lv_iconst (v := 0) hx hb dX11_isMan_6 (by decide) ?_
  refine va_iald hx hb hK hP 1 0 rfl rfl (vp_in_nI (n := 0) (N := 575) (by decide) (by decide)) dX11_isMan_7 ?_
  refine as_i 0 ((congrArg (mi 2) (show (0 : Int32).toNatClampNeg = 0 from rfl)).trans hn.1) ?_
  refine lv_iconst (v := 1) hx hb dX11_isMan_8 (by decide) ?_
  refine lv_isub hx hb dX11_isMan_9 ?_
  refine as_i (-1) (by decide) ?_
  refine jr_i (rSr (As := [.int n0, .int 0, .int (-1)]) (rest := []) ⟨hx, hb, hml, hown, hts⟩ (m_isIn_no l dC dI cy n0 ) (cw_X11_75 hts rfl rfl ⟨Nat.le_of_ble_eq_true rfl, Nat.le_of_ble_eq_true rfl⟩) hP hK [] rfl rfl hl.1 rfl (Nat.le_of_ble_eq_true rfl) dX11_isMan_10 ⟨Nat.le_of_ble_eq_true rfl, Nat.le_of_ble_eq_true rfl⟩) hP hS (fun r_1 H locs hp_2 hP hS => ?_)
  refine as_i 0 hp_2 ?_
  rw [hQ9]
  exact rr_z hx hb hr hlocks (Or.inl rfl) rfl hS dX11_isMan_13
abbrev cX11_isDeed : ByteArray := prog_13_method_44_code
def yX11_isDeed : MethodName := ⟨RX11, "isDeed", "(I)Z"⟩
theorem t1758 : Cond.code yX11_isDeed cX11_isDeed 2 (some .boolean) ∈ GW := gw_mem 1872 (by decide +kernel) (by decide +kernel)
theorem dX11_isDeed_0 : decode cX11_isDeed 0 = .ok (.iload_n 1, 1) := by decide +kernel
theorem dX11_isDeed_1 : decode cX11_isDeed 1 = .ok (.iconst 0, 1) := by decide +kernel
theorem dX11_isDeed_2 : decode cX11_isDeed 2 = .ok (.aload_n 0, 1) := by decide +kernel
theorem dX11_isDeed_3 : decode cX11_isDeed 3 = .ok (.getfield 98, 3) := by decide +kernel
theorem dX11_isDeed_6 : decode cX11_isDeed 6 = .ok (.iconst 1, 1) := by decide +kernel
theorem dX11_isDeed_7 : decode cX11_isDeed 7 = .ok (.iaload, 1) := by decide +kernel
theorem dX11_isDeed_8 : decode cX11_isDeed 8 = .ok (.iconst 1, 1) := by decide +kernel
theorem dX11_isDeed_9 : decode cX11_isDeed 9 = .ok (.isub, 1) := by decide +kernel
theorem dX11_isDeed_10 : decode cX11_isDeed 10 = .ok (.invokestatic 75, 3) := by decide +kernel
theorem dX11_isDeed_13 : decode cX11_isDeed 13 = .ok (.ireturn, 1) := by decide +kernel
set_option maxHeartbeats 4000000 in
set_option maxRecDepth 100000 in
theorem m_isDeed (l : Launch) (dC : Nat → ClassId) (dI : Nat → Nat → Nat) (cy : Nat → ClassId) (am : Nat → Nat) (mi : Nat → Nat → Int32) (n0 : Int32) (hn : NowOk (mi 2)) : Met l yX11_isDeed (wl yX11_isDeed cX11_isDeed 2 (some .boolean)) ({ frames := 1, cells := 0, slots := 0, locals := 64 }) (Pr (dC, dI) vwCl cy [(am 0, .inr (12, [.int 0, .ref (am 1), .int 0, .int 0, .int 0, .int 0, .int 0, .int 0, .int 0, .int 0, .int 0, .int 0, .long 0, .int 0, .ref (am 2), .ref (am 3), .ref (am 4), .ref (am 5), .ref (am 6), .ref (am 7), .ref (am 8), .ref (am 9), .ref (am 10), .ref (am 11), .int 0, .int (-1), .ref (am 12), .ref (am 13), .ref (am 14), .int 0, .ref (am 15), .ref (am 16), .int 0, .int 0, .int 0, .ref (am 17), .int 0, .int 0, .ref (am 18), .ref (am 19), .int 0, .int 0, .ref (am 20), .int 0, .int 0, .int 0, .int 0])), (am 2, .inl (cy 0, 575, .inl (mi 2)))] [.ref (am 0), .int n0]) (Ri (fun r => r = 0)) 0 0 (fun _ => False) := by
  refine mr RX11 rfl (by decide +kernel) (Nat.le_of_ble_eq_true rfl) ?_
  intro p e s m below meth c hx hb hr hlocks av9 hav hts hown hml hK hP hS Q9 hQ9 ls hl
  have hl : lv_has ls 2 [(0, .ref (am 0)), (1, .int n0)] := hl
  refine lv_iload_n hx hb dX11_isDeed_0 rfl (lv_at hl 1 rfl) ?_
  refine lv_iconst (v := 0) hx hb dX11_isDeed_1 (by decide) ?_
  refine lv_aload_n hx hb dX11_isDeed_2 rfl (lv_at hl 0 rfl) ?_
  refine gf_X11_98 hx hb hts hown hK hP 0 rfl rfl dX11_isDeed_3 ?_
  refine lv_iconst (v := 1) hx hb dX11_isDeed_6 (by decide) ?_
  refine va_iald hx hb hK hP 1 0 rfl rfl (vp_in_nI (n := 1) (N := 575) (by decide) (by decide)) dX11_isDeed_7 ?_
  refine as_i 0 ((congrArg (mi 2) (show (1 : Int32).toNatClampNeg = 1 from rfl)).trans hn.2.1) ?_
  refine lv_iconst (v := 1) hx hb dX11_isDeed_8 (by decide) ?_
  refine lv_isub hx hb dX11_isDeed_9 ?_
  refine as_i (-1) (by decide) ?_
  refine jr_i (rSr (As := [.int n0, .int 0, .int (-1)]) (rest := []) ⟨hx, hb, hml, hown, hts⟩ (m_isIn_no l dC dI cy n0 ) (cw_X11_75 hts rfl rfl ⟨Nat.le_of_ble_eq_true rfl, Nat.le_of_ble_eq_true rfl⟩) hP hK [] rfl rfl hl.1 rfl (Nat.le_of_ble_eq_true rfl) dX11_isDeed_10 ⟨Nat.le_of_ble_eq_true rfl, Nat.le_of_ble_eq_true rfl⟩) hP hS (fun r_1 H locs hp_2 hP hS => ?_)
  refine as_i 0 hp_2 ?_
  rw [hQ9]
  exact rr_z hx hb hr hlocks (Or.inl rfl) rfl hS dX11_isDeed_13
abbrev cX11_those : ByteArray := prog_13_method_61_code
def yX11_those : MethodName := ⟨RX11, "those", "(I)I"⟩
theorem t1786 : Cond.code yX11_those cX11_those 4 (some .int) ∈ GW := gw_mem 1900 (by decide +kernel) (by decide +kernel)
theorem dX11_those_0 : decode cX11_those 0 = .ok (.iconst 0, 1) := by decide +kernel
theorem dX11_those_1 : decode cX11_those 1 = .ok (.istore_n 2, 1) := by decide +kernel
theorem dX11_those_2 : decode cX11_those 2 = .ok (.iconst 0, 1) := by decide +kernel
theorem dX11_those_3 : decode cX11_those 3 = .ok (.istore_n 3, 1) := by decide +kernel
theorem dX11_those_4 : decode cX11_those 4 = .ok (.iload_n 3, 1) := by decide +kernel
theorem dX11_those_5 : decode cX11_those 5 = .ok (.aload_n 0, 1) := by decide +kernel
theorem dX11_those_6 : decode cX11_those 6 = .ok (.getfield 98, 3) := by decide +kernel
theorem dX11_those_9 : decode cX11_those 9 = .ok (.iconst 0, 1) := by decide +kernel
theorem dX11_those_10 : decode cX11_those 10 = .ok (.iaload, 1) := by decide +kernel
theorem dX11_those_11 : decode cX11_those 11 = .ok (.if_icmp .ge 24, 3) := by decide +kernel
theorem dX11_those_35 : decode cX11_those 35 = .ok (.iload_n 2, 1) := by decide +kernel
theorem dX11_those_36 : decode cX11_those 36 = .ok (.ireturn, 1) := by decide +kernel
set_option maxHeartbeats 4000000 in
set_option maxRecDepth 100000 in
theorem m_those (l : Launch) (dC : Nat → ClassId) (dI : Nat → Nat → Nat) (cy : Nat → ClassId) (am : Nat → Nat) (mi : Nat → Nat → Int32) (n0 : Int32) (hn : NowOk (mi 2)) : Met l yX11_those (wl yX11_those cX11_those 4 (some .int)) ({ frames := 1, cells := 0, slots := 0, locals := 64 }) (Pr (dC, dI) vwCl cy [(am 0, .inr (12, [.int 0, .ref (am 1), .int 0, .int 0, .int 0, .int 0, .int 0, .int 0, .int 0, .int 0, .int 0, .int 0, .long 0, .int 0, .ref (am 2), .ref (am 3), .ref (am 4), .ref (am 5), .ref (am 6), .ref (am 7), .ref (am 8), .ref (am 9), .ref (am 10), .ref (am 11), .int 0, .int (-1), .ref (am 12), .ref (am 13), .ref (am 14), .int 0, .ref (am 15), .ref (am 16), .int 0, .int 0, .int 0, .ref (am 17), .int 0, .int 0, .ref (am 18), .ref (am 19), .int 0, .int 0, .ref (am 20), .int 0, .int 0, .int 0, .int 0])), (am 2, .inl (cy 0, 575, .inl (mi 2)))] [.ref (am 0), .int n0]) (Ri (fun r => r = 0)) 0 0 (fun _ => False) := by
  refine mr RX11 rfl (by decide +kernel) (Nat.le_of_ble_eq_true rfl) ?_
  intro p e s m below meth c hx hb hr hlocks av9 hav hts hown hml hK hP hS Q9 hQ9 ls hl
  have hl : lv_has ls 4 [(0, .ref (am 0)), (1, .int n0)] := hl
  refine lv_iconst (v := 0) hx hb dX11_those_0 (by decide) ?_
  refine lv_istore_n (lv' := [(2, .int 0), (0, .ref (am 0)), (1, .int n0)]) hx hb dX11_those_1 rfl hl (by decide) rfl (fun ls hl => ?_)
  refine lv_iconst (v := 0) hx hb dX11_those_2 (by decide) ?_
  refine lv_istore_n (lv' := [(3, .int 0), (2, .int 0), (0, .ref (am 0)), (1, .int n0)]) hx hb dX11_those_3 rfl hl (by decide) rfl (fun ls hl => ?_)
  refine lv_iload_n hx hb dX11_those_4 rfl (lv_at hl 0 rfl) ?_
  refine lv_aload_n hx hb dX11_those_5 rfl (lv_at hl 2 rfl) ?_
  refine gf_X11_98 hx hb hts hown hK hP 0 rfl rfl dX11_those_6 ?_
  refine lv_iconst (v := 0) hx hb dX11_those_9 (by decide) ?_
  refine va_iald hx hb hK hP 1 0 rfl rfl (vp_in_nI (n := 0) (N := 575) (by decide) (by decide)) dX11_those_10 ?_
  refine as_i 0 ((congrArg (mi 2) (show (0 : Int32).toNatClampNeg = 0 from rfl)).trans hn.1) ?_
  refine lv_icmp_ge (tgt := 35) hx hb dX11_those_11 (by decide) (fun _ => ?_) (fun c9 => absurd (by decide) c9)
  refine lv_iload_n hx hb dX11_those_35 rfl (lv_at hl 1 rfl) ?_
  rw [hQ9]
  exact rr_i hx hb hr hlocks rfl hS dX11_those_36
abbrev cX11_weightsOf : ByteArray := prog_13_method_80_code
def yX11_weightsOf : MethodName := ⟨RX11, "weightsOf", "(I)I"⟩
theorem t1869 : Cond.code yX11_weightsOf cX11_weightsOf 4 (some .int) ∈ GW := gw_mem 1983 (by decide +kernel) (by decide +kernel)
theorem dX11_weightsOf_0 : decode cX11_weightsOf 0 = .ok (.iconst 0, 1) := by decide +kernel
theorem dX11_weightsOf_1 : decode cX11_weightsOf 1 = .ok (.istore_n 2, 1) := by decide +kernel
theorem dX11_weightsOf_2 : decode cX11_weightsOf 2 = .ok (.iconst 0, 1) := by decide +kernel
theorem dX11_weightsOf_3 : decode cX11_weightsOf 3 = .ok (.istore_n 3, 1) := by decide +kernel
theorem dX11_weightsOf_4 : decode cX11_weightsOf 4 = .ok (.iload_n 3, 1) := by decide +kernel
theorem dX11_weightsOf_5 : decode cX11_weightsOf 5 = .ok (.aload_n 0, 1) := by decide +kernel
theorem dX11_weightsOf_6 : decode cX11_weightsOf 6 = .ok (.getfield 98, 3) := by decide +kernel
theorem dX11_weightsOf_9 : decode cX11_weightsOf 9 = .ok (.iconst 0, 1) := by decide +kernel
theorem dX11_weightsOf_10 : decode cX11_weightsOf 10 = .ok (.iaload, 1) := by decide +kernel
theorem dX11_weightsOf_11 : decode cX11_weightsOf 11 = .ok (.if_icmp .ge 25, 3) := by decide +kernel
theorem dX11_weightsOf_36 : decode cX11_weightsOf 36 = .ok (.iload_n 2, 1) := by decide +kernel
theorem dX11_weightsOf_37 : decode cX11_weightsOf 37 = .ok (.ireturn, 1) := by decide +kernel
set_option maxHeartbeats 4000000 in
set_option maxRecDepth 100000 in
theorem m_weightsOf (l : Launch) (dC : Nat → ClassId) (dI : Nat → Nat → Nat) (cy : Nat → ClassId) (am : Nat → Nat) (mi : Nat → Nat → Int32) (n0 : Int32) (hn : NowOk (mi 2)) : Met l yX11_weightsOf (wl yX11_weightsOf cX11_weightsOf 4 (some .int)) ({ frames := 1, cells := 0, slots := 0, locals := 64 }) (Pr (dC, dI) vwCl cy [(am 0, .inr (12, [.int 0, .ref (am 1), .int 0, .int 0, .int 0, .int 0, .int 0, .int 0, .int 0, .int 0, .int 0, .int 0, .long 0, .int 0, .ref (am 2), .ref (am 3), .ref (am 4), .ref (am 5), .ref (am 6), .ref (am 7), .ref (am 8), .ref (am 9), .ref (am 10), .ref (am 11), .int 0, .int (-1), .ref (am 12), .ref (am 13), .ref (am 14), .int 0, .ref (am 15), .ref (am 16), .int 0, .int 0, .int 0, .ref (am 17), .int 0, .int 0, .ref (am 18), .ref (am 19), .int 0, .int 0, .ref (am 20), .int 0, .int 0, .int 0, .int 0])), (am 2, .inl (cy 0, 575, .inl (mi 2)))] [.ref (am 0), .int n0]) (Ri (fun r => r = 0)) 0 0 (fun _ => False) := by
  refine mr RX11 rfl (by decide +kernel) (Nat.le_of_ble_eq_true rfl) ?_
  intro p e s m below meth c hx hb hr hlocks av9 hav hts hown hml hK hP hS Q9 hQ9 ls hl
  have hl : lv_has ls 4 [(0, .ref (am 0)), (1, .int n0)] := hl
  refine lv_iconst (v := 0) hx hb dX11_weightsOf_0 (by decide) ?_
  refine lv_istore_n (lv' := [(2, .int 0), (0, .ref (am 0)), (1, .int n0)]) hx hb dX11_weightsOf_1 rfl hl (by decide) rfl (fun ls hl => ?_)
  refine lv_iconst (v := 0) hx hb dX11_weightsOf_2 (by decide) ?_
  refine lv_istore_n (lv' := [(3, .int 0), (2, .int 0), (0, .ref (am 0)), (1, .int n0)]) hx hb dX11_weightsOf_3 rfl hl (by decide) rfl (fun ls hl => ?_)
  refine lv_iload_n hx hb dX11_weightsOf_4 rfl (lv_at hl 0 rfl) ?_
  refine lv_aload_n hx hb dX11_weightsOf_5 rfl (lv_at hl 2 rfl) ?_
  refine gf_X11_98 hx hb hts hown hK hP 0 rfl rfl dX11_weightsOf_6 ?_
  refine lv_iconst (v := 0) hx hb dX11_weightsOf_9 (by decide) ?_
  refine va_iald hx hb hK hP 1 0 rfl rfl (vp_in_nI (n := 0) (N := 575) (by decide) (by decide)) dX11_weightsOf_10 ?_
  refine as_i 0 ((congrArg (mi 2) (show (0 : Int32).toNatClampNeg = 0 from rfl)).trans hn.1) ?_
  refine lv_icmp_ge (tgt := 36) hx hb dX11_weightsOf_11 (by decide) (fun _ => ?_) (fun c9 => absurd (by decide) c9)
  refine lv_iload_n hx hb dX11_weightsOf_36 rfl (lv_at hl 1 rfl) ?_
  rw [hQ9]
  exact rr_i hx hb hr hlocks rfl hS dX11_weightsOf_37
abbrev cX11_did : ByteArray := prog_13_method_55_code
def yX11_did : MethodName := ⟨RX11, "did", "(II)I"⟩
theorem t1754 : Cond.code yX11_did cX11_did 3 (some .int) ∈ GW := gw_mem 1868 (by decide +kernel) (by decide +kernel)
theorem dX11_did_0 : decode cX11_did 0 = .ok (.aload_n 0, 1) := by decide +kernel
theorem dX11_did_1 : decode cX11_did 1 = .ok (.iconst 0, 1) := by decide +kernel
theorem dX11_did_2 : decode cX11_did 2 = .ok (.putfield 1, 3) := by decide +kernel
theorem t1446 : Cond.fieldLink RX11 1 "LikenessPoundModel" "thrown" "I" ∈ GW := gw_mem 1560 (by decide +kernel) (by decide +kernel)
theorem pf_X11_1 {p : Program} {l : Launch} {e : Env} {R : Room} {s : State} {m : MethodId} {args : Array Value} {below : List Frame} {meth : Method} {c : Code} {H : Heap} {locs : List Loc} {cells slots : Nat} {Q : State → Prop} {cc : ByteArray} {pc : Nat} {ls : Array Slot} {rest : List Value} {D : va_G} {A : Nat → Prop} {a : Nat} {tys : List (ClassId × FieldType)} {ws : va_W} {H0 : Heap} (hx : p.tables.exec = Jvm.exec) (hb : c.code = cc) (hts : ∀ w ∈ GW, w.before args s = true) (hown : s.vm.findClass RX11 = some m.cls) (hK : va_K D vwCl tys s) (hP : va_P D vwCl ws H) (hD : va_D A ws) (hS0 : va_S A H0 H locs) (q0 : Nat) {fs : List Value} (he : ws[q0]? = some (a, .inr (12, fs))) {v : Value} (hn : narrow (tyX11 0) v = v) (hfit : fits (tyX11 0) v = true) (hl : 0 < fs.length) (hdg : decode cc pc = .ok (.putfield 1, 3)) (kk : ∀ (H1 : Heap) (locs1 : List Loc), va_P D vwCl (ws.set q0 (a, .inr (12, fs.set 0 v))) H1 → va_D A (ws.set q0 (a, .inr (12, fs.set 0 v))) → va_S A H0 H1 locs1 → W p l e R s m args below meth c H1 locs1 cells slots Q (F0 m (pc + 3) ls rest)) : W p l e R s m args below meth c H locs cells slots Q (F0 m pc ls (v :: .ref a :: rest)) := va_put (C := RX11) (T := TX11) (N := 47) (ci := 12) hx hb hts inX11 tyX11 tkX11 nmX11 hown hK hP hD hS0 q0 he rfl 0 (by decide) (hts _ t1446) (fun _ h => h) rfl (tkX11 0 (by decide)) hn hfit hl hdg kk
theorem dX11_did_5 : decode cX11_did 5 = .ok (.aload_n 0, 1) := by decide +kernel
theorem dX11_did_6 : decode cX11_did 6 = .ok (.iload_n 1, 1) := by decide +kernel
theorem dX11_did_7 : decode cX11_did 7 = .ok (.invokevirtual 250, 3) := by decide +kernel
theorem t1711 : Cond.methodLink RX11 250 yX11_isMan ∈ GW := gw_mem 1825 (by decide +kernel) (by decide +kernel)
theorem t1713 : Cond.instanceMethod yX11_isMan ∈ GW := gw_mem 1827 (by decide +kernel) (by decide +kernel)
theorem s62 : Cond.selects RX11 yX11_isMan yX11_isMan ∈ GW := gw_mem 62 (by decide +kernel) (by decide +kernel)
theorem cw_X11_250 {R : Room} {s : State} {args : Array Value} {rm : Room} {mc ms : Nat} (hts : ∀ w ∈ GW, w.before args s = true) (hrc : rm.cells = mc) (hrs : rm.slots = ms) (hR : rm.frames + 1 ≤ R.frames ∧ 8 + (2 + 11) + rm.locals ≤ R.locals) : CallW R s args RX11 RX11 250 yX11_isMan cX11_isMan 2 (some .boolean) (wl yX11_isMan cX11_isMan 2 (some .boolean)) rm mc ms 1 := cwV 1 hts (gi_V t1711 t1713 s62 t18 t1714) rfl hrc hrs (by decide +kernel) hR
theorem dX11_did_10 : decode cX11_did 10 = .ok (.ifCond .eq 20, 3) := by decide +kernel
theorem dX11_did_30 : decode cX11_did 30 = .ok (.iconst (-1), 1) := by decide +kernel
theorem dX11_did_31 : decode cX11_did 31 = .ok (.ireturn, 1) := by decide +kernel
set_option maxHeartbeats 4000000 in
set_option maxRecDepth 100000 in
theorem m_did (l : Launch) (dC : Nat → ClassId) (dI : Nat → Nat → Nat) (cy : Nat → ClassId) (sz : Nat) (am : Nat → Nat) (mi : Nat → Nat → Int32) (n0 : Int32) (n1 : Int32) (hn : NowOk (mi 2)) : Met l yX11_did (wl yX11_did cX11_did 3 (some .int)) ({ frames := 2, cells := 0, slots := 0, locals := 128 }) (Pw (dC, dI) vwCl cy [(am 0, .inr (12, [.int 0, .ref (am 1), .int 0, .int 0, .int 0, .int 0, .int 0, .int 0, .int 0, .int 0, .int 0, .int 0, .long 0, .int 0, .ref (am 2), .ref (am 3), .ref (am 4), .ref (am 5), .ref (am 6), .ref (am 7), .ref (am 8), .ref (am 9), .ref (am 10), .ref (am 11), .int 0, .int (-1), .ref (am 12), .ref (am 13), .ref (am 14), .int 0, .ref (am 15), .ref (am 16), .int 0, .int 0, .int 0, .ref (am 17), .int 0, .int 0, .ref (am 18), .ref (am 19), .int 0, .int 0, .ref (am 20), .int 0, .int 0, .int 0, .int 0])), (am 2, .inl (cy 0, 575, .inl (mi 2)))] sz [.ref (am 0), .int n0, .int n1] nE) (Qi (dC, dI) vwCl (fun (r : Int32) (u : Unit) => r = (-1)) (fun (u : Unit) => []) (va_A [(am 0, .inr (12, [.int 0, .ref (am 1), .int 0, .int 0, .int 0, .int 0, .int 0, .int 0, .int 0, .int 0, .int 0, .int 0, .long 0, .int 0, .ref (am 2), .ref (am 3), .ref (am 4), .ref (am 5), .ref (am 6), .ref (am 7), .ref (am 8), .ref (am 9), .ref (am 10), .ref (am 11), .int 0, .int (-1), .ref (am 12), .ref (am 13), .ref (am 14), .int 0, .ref (am 15), .ref (am 16), .int 0, .int 0, .int 0, .ref (am 17), .int 0, .int 0, .ref (am 18), .ref (am 19), .int 0, .int 0, .ref (am 20), .int 0, .int 0, .int 0, .int 0])), (am 2, .inl (cy 0, 575, .inl (mi 2)))] sz)) 0 0 (va_A [(am 0, .inr (12, [.int 0, .ref (am 1), .int 0, .int 0, .int 0, .int 0, .int 0, .int 0, .int 0, .int 0, .int 0, .int 0, .long 0, .int 0, .ref (am 2), .ref (am 3), .ref (am 4), .ref (am 5), .ref (am 6), .ref (am 7), .ref (am 8), .ref (am 9), .ref (am 10), .ref (am 11), .int 0, .int (-1), .ref (am 12), .ref (am 13), .ref (am 14), .int 0, .ref (am 15), .ref (am 16), .int 0, .int 0, .int 0, .ref (am 17), .int 0, .int 0, .ref (am 18), .ref (am 19), .int 0, .int 0, .ref (am 20), .int 0, .int 0, .int 0, .int 0])), (am 2, .inl (cy 0, 575, .inl (mi 2)))] sz) := by
  refine mw (Qc := Qi (dC, dI) vwCl (fun (r : Int32) (u : Unit) => r = (-1)) (fun (u : Unit) => [])) RX11 rfl (by decide +kernel) (Nat.le_of_ble_eq_true rfl) ?_
  intro p e s m below meth c A hx hb hr hlocks av9 hav hts hown hnm hml hK hP hD hA hS hE hAe Q9 hQ9 ls hl
  have hl : lv_has ls 3 [(0, .ref (am 0)), (1, .int n0), (2, .int n1)] := hl
  refine lv_aload_n hx hb dX11_did_0 rfl (lv_at hl 0 rfl) ?_
  refine lv_iconst (v := 0) hx hb dX11_did_1 (by decide) ?_
  refine pf_X11_1 hx hb hts hown hK hP hD hS 0 rfl rfl rfl (Nat.le_of_ble_eq_true rfl) dX11_did_2 (fun H locs hP hD hS => ?_)
  have hP : va_P (dC, dI) vwCl [(am 0, .inr (12, [.int 0, .ref (am 1), .int 0, .int 0, .int 0, .int 0, .int 0, .int 0, .int 0, .int 0, .int 0, .int 0, .long 0, .int 0, .ref (am 2), .ref (am 3), .ref (am 4), .ref (am 5), .ref (am 6), .ref (am 7), .ref (am 8), .ref (am 9), .ref (am 10), .ref (am 11), .int 0, .int (-1), .ref (am 12), .ref (am 13), .ref (am 14), .int 0, .ref (am 15), .ref (am 16), .int 0, .int 0, .int 0, .ref (am 17), .int 0, .int 0, .ref (am 18), .ref (am 19), .int 0, .int 0, .ref (am 20), .int 0, .int 0, .int 0, .int 0])), (am 2, .inl (cy 0, 575, .inl (mi 2)))] H := hP
  have hD : va_D A [(am 0, .inr (12, [.int 0, .ref (am 1), .int 0, .int 0, .int 0, .int 0, .int 0, .int 0, .int 0, .int 0, .int 0, .int 0, .long 0, .int 0, .ref (am 2), .ref (am 3), .ref (am 4), .ref (am 5), .ref (am 6), .ref (am 7), .ref (am 8), .ref (am 9), .ref (am 10), .ref (am 11), .int 0, .int (-1), .ref (am 12), .ref (am 13), .ref (am 14), .int 0, .ref (am 15), .ref (am 16), .int 0, .int 0, .int 0, .ref (am 17), .int 0, .int 0, .ref (am 18), .ref (am 19), .int 0, .int 0, .ref (am 20), .int 0, .int 0, .int 0, .int 0])), (am 2, .inl (cy 0, 575, .inl (mi 2)))] := hD
  refine lv_aload_n hx hb dX11_did_5 rfl (lv_at hl 0 rfl) ?_
  refine lv_iload_n hx hb dX11_did_6 rfl (lv_at hl 1 rfl) ?_
  refine jr_i (rVr (As := [.int n0]) (rest := []) (ci := 12) ⟨hx, hb, hml, hown, hts⟩ (m_isMan l dC dI cy am mi n0 hn) (cw_X11_250 hts rfl rfl ⟨Nat.le_of_ble_eq_true rfl, Nat.le_of_ble_eq_true rfl⟩) hP hK [0, 1] rfl rfl rfl rfl hl.1 rfl (Nat.le_of_ble_eq_true rfl) dX11_did_7 ⟨Nat.le_of_ble_eq_true rfl, Nat.le_of_ble_eq_true rfl⟩) hP hS (fun r_1 H locs hp_2 hP hS => ?_)
  refine as_i 0 hp_2 ?_
  refine lv_if_eq (tgt := 30) hx hb dX11_did_10 (by decide) (fun _ => ?_) (fun c9 => absurd (by decide) c9)
  refine lv_iconst (v := (-1)) hx hb dX11_did_30 (by decide) ?_
  rw [hQ9]
  exact re_i () hx hb hr hlocks rfl (hP.sub [] rfl) (hD.sub [] rfl rfl) hS dX11_did_31
abbrev cX11_deed : ByteArray := prog_13_method_56_code
def yX11_deed : MethodName := ⟨RX11, "deed", "(II)I"⟩
theorem t1762 : Cond.code yX11_deed cX11_deed 5 (some .int) ∈ GW := gw_mem 1876 (by decide +kernel) (by decide +kernel)
theorem dX11_deed_0 : decode cX11_deed 0 = .ok (.aload_n 0, 1) := by decide +kernel
theorem dX11_deed_1 : decode cX11_deed 1 = .ok (.iconst 0, 1) := by decide +kernel
theorem dX11_deed_2 : decode cX11_deed 2 = .ok (.putfield 1, 3) := by decide +kernel
theorem dX11_deed_5 : decode cX11_deed 5 = .ok (.aload_n 0, 1) := by decide +kernel
theorem dX11_deed_6 : decode cX11_deed 6 = .ok (.iload_n 1, 1) := by decide +kernel
theorem dX11_deed_7 : decode cX11_deed 7 = .ok (.invokevirtual 259, 3) := by decide +kernel
theorem t1755 : Cond.methodLink RX11 259 yX11_isDeed ∈ GW := gw_mem 1869 (by decide +kernel) (by decide +kernel)
theorem t1757 : Cond.instanceMethod yX11_isDeed ∈ GW := gw_mem 1871 (by decide +kernel) (by decide +kernel)
theorem s72 : Cond.selects RX11 yX11_isDeed yX11_isDeed ∈ GW := gw_mem 72 (by decide +kernel) (by decide +kernel)
theorem cw_X11_259 {R : Room} {s : State} {args : Array Value} {rm : Room} {mc ms : Nat} (hts : ∀ w ∈ GW, w.before args s = true) (hrc : rm.cells = mc) (hrs : rm.slots = ms) (hR : rm.frames + 1 ≤ R.frames ∧ 8 + (2 + 11) + rm.locals ≤ R.locals) : CallW R s args RX11 RX11 259 yX11_isDeed cX11_isDeed 2 (some .boolean) (wl yX11_isDeed cX11_isDeed 2 (some .boolean)) rm mc ms 1 := cwV 1 hts (gi_V t1755 t1757 s72 t18 t1758) rfl hrc hrs (by decide +kernel) hR
theorem dX11_deed_10 : decode cX11_deed 10 = .ok (.ifCond .ne 5, 3) := by decide +kernel
theorem dX11_deed_13 : decode cX11_deed 13 = .ok (.iconst (-1), 1) := by decide +kernel
theorem dX11_deed_14 : decode cX11_deed 14 = .ok (.ireturn, 1) := by decide +kernel
set_option maxHeartbeats 4000000 in
set_option maxRecDepth 100000 in
theorem m_deed (l : Launch) (dC : Nat → ClassId) (dI : Nat → Nat → Nat) (cy : Nat → ClassId) (sz : Nat) (am : Nat → Nat) (mi : Nat → Nat → Int32) (n0 : Int32) (n1 : Int32) (hn : NowOk (mi 2)) : Met l yX11_deed (wl yX11_deed cX11_deed 5 (some .int)) ({ frames := 2, cells := 0, slots := 0, locals := 128 }) (Pw (dC, dI) vwCl cy [(am 0, .inr (12, [.int 0, .ref (am 1), .int 0, .int 0, .int 0, .int 0, .int 0, .int 0, .int 0, .int 0, .int 0, .int 0, .long 0, .int 0, .ref (am 2), .ref (am 3), .ref (am 4), .ref (am 5), .ref (am 6), .ref (am 7), .ref (am 8), .ref (am 9), .ref (am 10), .ref (am 11), .int 0, .int (-1), .ref (am 12), .ref (am 13), .ref (am 14), .int 0, .ref (am 15), .ref (am 16), .int 0, .int 0, .int 0, .ref (am 17), .int 0, .int 0, .ref (am 18), .ref (am 19), .int 0, .int 0, .ref (am 20), .int 0, .int 0, .int 0, .int 0])), (am 2, .inl (cy 0, 575, .inl (mi 2)))] sz [.ref (am 0), .int n0, .int n1] nE) (Qi (dC, dI) vwCl (fun (r : Int32) (u : Unit) => r = (-1)) (fun (u : Unit) => []) (va_A [(am 0, .inr (12, [.int 0, .ref (am 1), .int 0, .int 0, .int 0, .int 0, .int 0, .int 0, .int 0, .int 0, .int 0, .int 0, .long 0, .int 0, .ref (am 2), .ref (am 3), .ref (am 4), .ref (am 5), .ref (am 6), .ref (am 7), .ref (am 8), .ref (am 9), .ref (am 10), .ref (am 11), .int 0, .int (-1), .ref (am 12), .ref (am 13), .ref (am 14), .int 0, .ref (am 15), .ref (am 16), .int 0, .int 0, .int 0, .ref (am 17), .int 0, .int 0, .ref (am 18), .ref (am 19), .int 0, .int 0, .ref (am 20), .int 0, .int 0, .int 0, .int 0])), (am 2, .inl (cy 0, 575, .inl (mi 2)))] sz)) 0 0 (va_A [(am 0, .inr (12, [.int 0, .ref (am 1), .int 0, .int 0, .int 0, .int 0, .int 0, .int 0, .int 0, .int 0, .int 0, .int 0, .long 0, .int 0, .ref (am 2), .ref (am 3), .ref (am 4), .ref (am 5), .ref (am 6), .ref (am 7), .ref (am 8), .ref (am 9), .ref (am 10), .ref (am 11), .int 0, .int (-1), .ref (am 12), .ref (am 13), .ref (am 14), .int 0, .ref (am 15), .ref (am 16), .int 0, .int 0, .int 0, .ref (am 17), .int 0, .int 0, .ref (am 18), .ref (am 19), .int 0, .int 0, .ref (am 20), .int 0, .int 0, .int 0, .int 0])), (am 2, .inl (cy 0, 575, .inl (mi 2)))] sz) := by
  refine mw (Qc := Qi (dC, dI) vwCl (fun (r : Int32) (u : Unit) => r = (-1)) (fun (u : Unit) => [])) RX11 rfl (by decide +kernel) (Nat.le_of_ble_eq_true rfl) ?_
  intro p e s m below meth c A hx hb hr hlocks av9 hav hts hown hnm hml hK hP hD hA hS hE hAe Q9 hQ9 ls hl
  have hl : lv_has ls 5 [(0, .ref (am 0)), (1, .int n0), (2, .int n1)] := hl
  refine lv_aload_n hx hb dX11_deed_0 rfl (lv_at hl 0 rfl) ?_
  refine lv_iconst (v := 0) hx hb dX11_deed_1 (by decide) ?_
  refine pf_X11_1 hx hb hts hown hK hP hD hS 0 rfl rfl rfl (Nat.le_of_ble_eq_true rfl) dX11_deed_2 (fun H locs hP hD hS => ?_)
  have hP : va_P (dC, dI) vwCl [(am 0, .inr (12, [.int 0, .ref (am 1), .int 0, .int 0, .int 0, .int 0, .int 0, .int 0, .int 0, .int 0, .int 0, .int 0, .long 0, .int 0, .ref (am 2), .ref (am 3), .ref (am 4), .ref (am 5), .ref (am 6), .ref (am 7), .ref (am 8), .ref (am 9), .ref (am 10), .ref (am 11), .int 0, .int (-1), .ref (am 12), .ref (am 13), .ref (am 14), .int 0, .ref (am 15), .ref (am 16), .int 0, .int 0, .int 0, .ref (am 17), .int 0, .int 0, .ref (am 18), .ref (am 19), .int 0, .int 0, .ref (am 20), .int 0, .int 0, .int 0, .int 0])), (am 2, .inl (cy 0, 575, .inl (mi 2)))] H := hP
  have hD : va_D A [(am 0, .inr (12, [.int 0, .ref (am 1), .int 0, .int 0, .int 0, .int 0, .int 0, .int 0, .int 0, .int 0, .int 0, .int 0, .long 0, .int 0, .ref (am 2), .ref (am 3), .ref (am 4), .ref (am 5), .ref (am 6), .ref (am 7), .ref (am 8), .ref (am 9), .ref (am 10), .ref (am 11), .int 0, .int (-1), .ref (am 12), .ref (am 13), .ref (am 14), .int 0, .ref (am 15), .ref (am 16), .int 0, .int 0, .int 0, .ref (am 17), .int 0, .int 0, .ref (am 18), .ref (am 19), .int 0, .int 0, .ref (am 20), .int 0, .int 0, .int 0, .int 0])), (am 2, .inl (cy 0, 575, .inl (mi 2)))] := hD
  refine lv_aload_n hx hb dX11_deed_5 rfl (lv_at hl 0 rfl) ?_
  refine lv_iload_n hx hb dX11_deed_6 rfl (lv_at hl 1 rfl) ?_
  refine jr_i (rVr (As := [.int n0]) (rest := []) (ci := 12) ⟨hx, hb, hml, hown, hts⟩ (m_isDeed l dC dI cy am mi n0 hn) (cw_X11_259 hts rfl rfl ⟨Nat.le_of_ble_eq_true rfl, Nat.le_of_ble_eq_true rfl⟩) hP hK [0, 1] rfl rfl rfl rfl hl.1 rfl (Nat.le_of_ble_eq_true rfl) dX11_deed_7 ⟨Nat.le_of_ble_eq_true rfl, Nat.le_of_ble_eq_true rfl⟩) hP hS (fun r_1 H locs hp_2 hP hS => ?_)
  refine as_i 0 hp_2 ?_
  refine lv_if_ne (tgt := 15) hx hb dX11_deed_10 (by decide) (fun c9 => absurd c9 (by decide)) (fun _ => ?_)
  refine lv_iconst (v := (-1)) hx hb dX11_deed_13 (by decide) ?_
  rw [hQ9]
  exact re_i () hx hb hr hlocks rfl (hP.sub [] rfl) (hD.sub [] rfl rfl) hS dX11_deed_14
abbrev cX11_owes : ByteArray := prog_13_method_57_code
def yX11_owes : MethodName := ⟨RX11, "owes", "(II)I"⟩
theorem t1766 : Cond.code yX11_owes cX11_owes 3 (some .int) ∈ GW := gw_mem 1880 (by decide +kernel) (by decide +kernel)
theorem dX11_owes_0 : decode cX11_owes 0 = .ok (.aload_n 0, 1) := by decide +kernel
theorem dX11_owes_1 : decode cX11_owes 1 = .ok (.iconst 0, 1) := by decide +kernel
theorem dX11_owes_2 : decode cX11_owes 2 = .ok (.putfield 1, 3) := by decide +kernel
theorem dX11_owes_5 : decode cX11_owes 5 = .ok (.aload_n 0, 1) := by decide +kernel
theorem dX11_owes_6 : decode cX11_owes 6 = .ok (.iload_n 1, 1) := by decide +kernel
theorem dX11_owes_7 : decode cX11_owes 7 = .ok (.invokevirtual 250, 3) := by decide +kernel
theorem dX11_owes_10 : decode cX11_owes 10 = .ok (.ifCond .eq 20, 3) := by decide +kernel
theorem dX11_owes_30 : decode cX11_owes 30 = .ok (.iconst (-1), 1) := by decide +kernel
theorem dX11_owes_31 : decode cX11_owes 31 = .ok (.ireturn, 1) := by decide +kernel
set_option maxHeartbeats 4000000 in
set_option maxRecDepth 100000 in
theorem m_owes (l : Launch) (dC : Nat → ClassId) (dI : Nat → Nat → Nat) (cy : Nat → ClassId) (sz : Nat) (am : Nat → Nat) (mi : Nat → Nat → Int32) (n0 : Int32) (n1 : Int32) (hn : NowOk (mi 2)) : Met l yX11_owes (wl yX11_owes cX11_owes 3 (some .int)) ({ frames := 2, cells := 0, slots := 0, locals := 128 }) (Pw (dC, dI) vwCl cy [(am 0, .inr (12, [.int 0, .ref (am 1), .int 0, .int 0, .int 0, .int 0, .int 0, .int 0, .int 0, .int 0, .int 0, .int 0, .long 0, .int 0, .ref (am 2), .ref (am 3), .ref (am 4), .ref (am 5), .ref (am 6), .ref (am 7), .ref (am 8), .ref (am 9), .ref (am 10), .ref (am 11), .int 0, .int (-1), .ref (am 12), .ref (am 13), .ref (am 14), .int 0, .ref (am 15), .ref (am 16), .int 0, .int 0, .int 0, .ref (am 17), .int 0, .int 0, .ref (am 18), .ref (am 19), .int 0, .int 0, .ref (am 20), .int 0, .int 0, .int 0, .int 0])), (am 2, .inl (cy 0, 575, .inl (mi 2)))] sz [.ref (am 0), .int n0, .int n1] nE) (Qi (dC, dI) vwCl (fun (r : Int32) (u : Unit) => r = (-1)) (fun (u : Unit) => []) (va_A [(am 0, .inr (12, [.int 0, .ref (am 1), .int 0, .int 0, .int 0, .int 0, .int 0, .int 0, .int 0, .int 0, .int 0, .int 0, .long 0, .int 0, .ref (am 2), .ref (am 3), .ref (am 4), .ref (am 5), .ref (am 6), .ref (am 7), .ref (am 8), .ref (am 9), .ref (am 10), .ref (am 11), .int 0, .int (-1), .ref (am 12), .ref (am 13), .ref (am 14), .int 0, .ref (am 15), .ref (am 16), .int 0, .int 0, .int 0, .ref (am 17), .int 0, .int 0, .ref (am 18), .ref (am 19), .int 0, .int 0, .ref (am 20), .int 0, .int 0, .int 0, .int 0])), (am 2, .inl (cy 0, 575, .inl (mi 2)))] sz)) 0 0 (va_A [(am 0, .inr (12, [.int 0, .ref (am 1), .int 0, .int 0, .int 0, .int 0, .int 0, .int 0, .int 0, .int 0, .int 0, .int 0, .long 0, .int 0, .ref (am 2), .ref (am 3), .ref (am 4), .ref (am 5), .ref (am 6), .ref (am 7), .ref (am 8), .ref (am 9), .ref (am 10), .ref (am 11), .int 0, .int (-1), .ref (am 12), .ref (am 13), .ref (am 14), .int 0, .ref (am 15), .ref (am 16), .int 0, .int 0, .int 0, .ref (am 17), .int 0, .int 0, .ref (am 18), .ref (am 19), .int 0, .int 0, .ref (am 20), .int 0, .int 0, .int 0, .int 0])), (am 2, .inl (cy 0, 575, .inl (mi 2)))] sz) := by
  refine mw (Qc := Qi (dC, dI) vwCl (fun (r : Int32) (u : Unit) => r = (-1)) (fun (u : Unit) => [])) RX11 rfl (by decide +kernel) (Nat.le_of_ble_eq_true rfl) ?_
  intro p e s m below meth c A hx hb hr hlocks av9 hav hts hown hnm hml hK hP hD hA hS hE hAe Q9 hQ9 ls hl
  have hl : lv_has ls 3 [(0, .ref (am 0)), (1, .int n0), (2, .int n1)] := hl
  refine lv_aload_n hx hb dX11_owes_0 rfl (lv_at hl 0 rfl) ?_
  refine lv_iconst (v := 0) hx hb dX11_owes_1 (by decide) ?_
  refine pf_X11_1 hx hb hts hown hK hP hD hS 0 rfl rfl rfl (Nat.le_of_ble_eq_true rfl) dX11_owes_2 (fun H locs hP hD hS => ?_)
  have hP : va_P (dC, dI) vwCl [(am 0, .inr (12, [.int 0, .ref (am 1), .int 0, .int 0, .int 0, .int 0, .int 0, .int 0, .int 0, .int 0, .int 0, .int 0, .long 0, .int 0, .ref (am 2), .ref (am 3), .ref (am 4), .ref (am 5), .ref (am 6), .ref (am 7), .ref (am 8), .ref (am 9), .ref (am 10), .ref (am 11), .int 0, .int (-1), .ref (am 12), .ref (am 13), .ref (am 14), .int 0, .ref (am 15), .ref (am 16), .int 0, .int 0, .int 0, .ref (am 17), .int 0, .int 0, .ref (am 18), .ref (am 19), .int 0, .int 0, .ref (am 20), .int 0, .int 0, .int 0, .int 0])), (am 2, .inl (cy 0, 575, .inl (mi 2)))] H := hP
  have hD : va_D A [(am 0, .inr (12, [.int 0, .ref (am 1), .int 0, .int 0, .int 0, .int 0, .int 0, .int 0, .int 0, .int 0, .int 0, .int 0, .long 0, .int 0, .ref (am 2), .ref (am 3), .ref (am 4), .ref (am 5), .ref (am 6), .ref (am 7), .ref (am 8), .ref (am 9), .ref (am 10), .ref (am 11), .int 0, .int (-1), .ref (am 12), .ref (am 13), .ref (am 14), .int 0, .ref (am 15), .ref (am 16), .int 0, .int 0, .int 0, .ref (am 17), .int 0, .int 0, .ref (am 18), .ref (am 19), .int 0, .int 0, .ref (am 20), .int 0, .int 0, .int 0, .int 0])), (am 2, .inl (cy 0, 575, .inl (mi 2)))] := hD
  refine lv_aload_n hx hb dX11_owes_5 rfl (lv_at hl 0 rfl) ?_
  refine lv_iload_n hx hb dX11_owes_6 rfl (lv_at hl 1 rfl) ?_
  refine jr_i (rVr (As := [.int n0]) (rest := []) (ci := 12) ⟨hx, hb, hml, hown, hts⟩ (m_isMan l dC dI cy am mi n0 hn) (cw_X11_250 hts rfl rfl ⟨Nat.le_of_ble_eq_true rfl, Nat.le_of_ble_eq_true rfl⟩) hP hK [0, 1] rfl rfl rfl rfl hl.1 rfl (Nat.le_of_ble_eq_true rfl) dX11_owes_7 ⟨Nat.le_of_ble_eq_true rfl, Nat.le_of_ble_eq_true rfl⟩) hP hS (fun r_1 H locs hp_2 hP hS => ?_)
  refine as_i 0 hp_2 ?_
  refine lv_if_eq (tgt := 30) hx hb dX11_owes_10 (by decide) (fun _ => ?_) (fun c9 => absurd (by decide) c9)
  refine lv_iconst (v := (-1)) hx hb dX11_owes_30 (by decide) ?_
  rw [hQ9]
  exact re_i () hx hb hr hlocks rfl (hP.sub [] rfl) (hD.sub [] rfl rfl) hS dX11_owes_31
abbrev cX11_kin : ByteArray := prog_13_method_58_code
def yX11_kin : MethodName := ⟨RX11, "kin", "(I)I"⟩
theorem t1770 : Cond.code yX11_kin cX11_kin 2 (some .int) ∈ GW := gw_mem 1884 (by decide +kernel) (by decide +kernel)
theorem dX11_kin_0 : decode cX11_kin 0 = .ok (.aload_n 0, 1) := by decide +kernel
theorem dX11_kin_1 : decode cX11_kin 1 = .ok (.iconst 0, 1) := by decide +kernel
theorem dX11_kin_2 : decode cX11_kin 2 = .ok (.putfield 1, 3) := by decide +kernel
theorem dX11_kin_5 : decode cX11_kin 5 = .ok (.aload_n 0, 1) := by decide +kernel
theorem dX11_kin_6 : decode cX11_kin 6 = .ok (.iload_n 1, 1) := by decide +kernel
theorem dX11_kin_7 : decode cX11_kin 7 = .ok (.invokevirtual 250, 3) := by decide +kernel
theorem dX11_kin_10 : decode cX11_kin 10 = .ok (.ifCond .eq 15, 3) := by decide +kernel
theorem dX11_kin_25 : decode cX11_kin 25 = .ok (.iconst (-1), 1) := by decide +kernel
theorem dX11_kin_26 : decode cX11_kin 26 = .ok (.ireturn, 1) := by decide +kernel
set_option maxHeartbeats 4000000 in
set_option maxRecDepth 100000 in
theorem m_kin (l : Launch) (dC : Nat → ClassId) (dI : Nat → Nat → Nat) (cy : Nat → ClassId) (sz : Nat) (am : Nat → Nat) (mi : Nat → Nat → Int32) (n0 : Int32) (hn : NowOk (mi 2)) : Met l yX11_kin (wl yX11_kin cX11_kin 2 (some .int)) ({ frames := 2, cells := 0, slots := 0, locals := 128 }) (Pw (dC, dI) vwCl cy [(am 0, .inr (12, [.int 0, .ref (am 1), .int 0, .int 0, .int 0, .int 0, .int 0, .int 0, .int 0, .int 0, .int 0, .int 0, .long 0, .int 0, .ref (am 2), .ref (am 3), .ref (am 4), .ref (am 5), .ref (am 6), .ref (am 7), .ref (am 8), .ref (am 9), .ref (am 10), .ref (am 11), .int 0, .int (-1), .ref (am 12), .ref (am 13), .ref (am 14), .int 0, .ref (am 15), .ref (am 16), .int 0, .int 0, .int 0, .ref (am 17), .int 0, .int 0, .ref (am 18), .ref (am 19), .int 0, .int 0, .ref (am 20), .int 0, .int 0, .int 0, .int 0])), (am 2, .inl (cy 0, 575, .inl (mi 2)))] sz [.ref (am 0), .int n0] nE) (Qi (dC, dI) vwCl (fun (r : Int32) (u : Unit) => r = (-1)) (fun (u : Unit) => []) (va_A [(am 0, .inr (12, [.int 0, .ref (am 1), .int 0, .int 0, .int 0, .int 0, .int 0, .int 0, .int 0, .int 0, .int 0, .int 0, .long 0, .int 0, .ref (am 2), .ref (am 3), .ref (am 4), .ref (am 5), .ref (am 6), .ref (am 7), .ref (am 8), .ref (am 9), .ref (am 10), .ref (am 11), .int 0, .int (-1), .ref (am 12), .ref (am 13), .ref (am 14), .int 0, .ref (am 15), .ref (am 16), .int 0, .int 0, .int 0, .ref (am 17), .int 0, .int 0, .ref (am 18), .ref (am 19), .int 0, .int 0, .ref (am 20), .int 0, .int 0, .int 0, .int 0])), (am 2, .inl (cy 0, 575, .inl (mi 2)))] sz)) 0 0 (va_A [(am 0, .inr (12, [.int 0, .ref (am 1), .int 0, .int 0, .int 0, .int 0, .int 0, .int 0, .int 0, .int 0, .int 0, .int 0, .long 0, .int 0, .ref (am 2), .ref (am 3), .ref (am 4), .ref (am 5), .ref (am 6), .ref (am 7), .ref (am 8), .ref (am 9), .ref (am 10), .ref (am 11), .int 0, .int (-1), .ref (am 12), .ref (am 13), .ref (am 14), .int 0, .ref (am 15), .ref (am 16), .int 0, .int 0, .int 0, .ref (am 17), .int 0, .int 0, .ref (am 18), .ref (am 19), .int 0, .int 0, .ref (am 20), .int 0, .int 0, .int 0, .int 0])), (am 2, .inl (cy 0, 575, .inl (mi 2)))] sz) := by
  refine mw (Qc := Qi (dC, dI) vwCl (fun (r : Int32) (u : Unit) => r = (-1)) (fun (u : Unit) => [])) RX11 rfl (by decide +kernel) (Nat.le_of_ble_eq_true rfl) ?_
  intro p e s m below meth c A hx hb hr hlocks av9 hav hts hown hnm hml hK hP hD hA hS hE hAe Q9 hQ9 ls hl
  have hl : lv_has ls 2 [(0, .ref (am 0)), (1, .int n0)] := hl
  refine lv_aload_n hx hb dX11_kin_0 rfl (lv_at hl 0 rfl) ?_
  refine lv_iconst (v := 0) hx hb dX11_kin_1 (by decide) ?_
  refine pf_X11_1 hx hb hts hown hK hP hD hS 0 rfl rfl rfl (Nat.le_of_ble_eq_true rfl) dX11_kin_2 (fun H locs hP hD hS => ?_)
  have hP : va_P (dC, dI) vwCl [(am 0, .inr (12, [.int 0, .ref (am 1), .int 0, .int 0, .int 0, .int 0, .int 0, .int 0, .int 0, .int 0, .int 0, .int 0, .long 0, .int 0, .ref (am 2), .ref (am 3), .ref (am 4), .ref (am 5), .ref (am 6), .ref (am 7), .ref (am 8), .ref (am 9), .ref (am 10), .ref (am 11), .int 0, .int (-1), .ref (am 12), .ref (am 13), .ref (am 14), .int 0, .ref (am 15), .ref (am 16), .int 0, .int 0, .int 0, .ref (am 17), .int 0, .int 0, .ref (am 18), .ref (am 19), .int 0, .int 0, .ref (am 20), .int 0, .int 0, .int 0, .int 0])), (am 2, .inl (cy 0, 575, .inl (mi 2)))] H := hP
  have hD : va_D A [(am 0, .inr (12, [.int 0, .ref (am 1), .int 0, .int 0, .int 0, .int 0, .int 0, .int 0, .int 0, .int 0, .int 0, .int 0, .long 0, .int 0, .ref (am 2), .ref (am 3), .ref (am 4), .ref (am 5), .ref (am 6), .ref (am 7), .ref (am 8), .ref (am 9), .ref (am 10), .ref (am 11), .int 0, .int (-1), .ref (am 12), .ref (am 13), .ref (am 14), .int 0, .ref (am 15), .ref (am 16), .int 0, .int 0, .int 0, .ref (am 17), .int 0, .int 0, .ref (am 18), .ref (am 19), .int 0, .int 0, .ref (am 20), .int 0, .int 0, .int 0, .int 0])), (am 2, .inl (cy 0, 575, .inl (mi 2)))] := hD
  refine lv_aload_n hx hb dX11_kin_5 rfl (lv_at hl 0 rfl) ?_
  refine lv_iload_n hx hb dX11_kin_6 rfl (lv_at hl 1 rfl) ?_
  refine jr_i (rVr (As := [.int n0]) (rest := []) (ci := 12) ⟨hx, hb, hml, hown, hts⟩ (m_isMan l dC dI cy am mi n0 hn) (cw_X11_250 hts rfl rfl ⟨Nat.le_of_ble_eq_true rfl, Nat.le_of_ble_eq_true rfl⟩) hP hK [0, 1] rfl rfl rfl rfl hl.1 rfl (Nat.le_of_ble_eq_true rfl) dX11_kin_7 ⟨Nat.le_of_ble_eq_true rfl, Nat.le_of_ble_eq_true rfl⟩) hP hS (fun r_1 H locs hp_2 hP hS => ?_)
  refine as_i 0 hp_2 ?_
  refine lv_if_eq (tgt := 25) hx hb dX11_kin_10 (by decide) (fun _ => ?_) (fun c9 => absurd (by decide) c9)
  refine lv_iconst (v := (-1)) hx hb dX11_kin_25 (by decide) ?_
  rw [hQ9]
  exact re_i () hx hb hr hlocks rfl (hP.sub [] rfl) (hD.sub [] rfl rfl) hS dX11_kin_26
abbrev cX11_cell : ByteArray := prog_13_method_59_code
def yX11_cell : MethodName := ⟨RX11, "cell", "(II)I"⟩
theorem t1774 : Cond.code yX11_cell cX11_cell 3 (some .int) ∈ GW := gw_mem 1888 (by decide +kernel) (by decide +kernel)
theorem dX11_cell_0 : decode cX11_cell 0 = .ok (.aload_n 0, 1) := by decide +kernel
theorem dX11_cell_1 : decode cX11_cell 1 = .ok (.iconst 0, 1) := by decide +kernel
theorem dX11_cell_2 : decode cX11_cell 2 = .ok (.putfield 1, 3) := by decide +kernel
theorem dX11_cell_5 : decode cX11_cell 5 = .ok (.aload_n 0, 1) := by decide +kernel
theorem dX11_cell_6 : decode cX11_cell 6 = .ok (.iload_n 1, 1) := by decide +kernel
theorem dX11_cell_7 : decode cX11_cell 7 = .ok (.invokevirtual 250, 3) := by decide +kernel
theorem dX11_cell_10 : decode cX11_cell 10 = .ok (.ifCond .eq 19, 3) := by decide +kernel
theorem dX11_cell_29 : decode cX11_cell 29 = .ok (.iconst (-1), 1) := by decide +kernel
theorem dX11_cell_30 : decode cX11_cell 30 = .ok (.ireturn, 1) := by decide +kernel
set_option maxHeartbeats 4000000 in
set_option maxRecDepth 100000 in
theorem m_cell (l : Launch) (dC : Nat → ClassId) (dI : Nat → Nat → Nat) (cy : Nat → ClassId) (sz : Nat) (am : Nat → Nat) (mi : Nat → Nat → Int32) (n0 : Int32) (n1 : Int32) (hn : NowOk (mi 2)) : Met l yX11_cell (wl yX11_cell cX11_cell 3 (some .int)) ({ frames := 2, cells := 0, slots := 0, locals := 128 }) (Pw (dC, dI) vwCl cy [(am 0, .inr (12, [.int 0, .ref (am 1), .int 0, .int 0, .int 0, .int 0, .int 0, .int 0, .int 0, .int 0, .int 0, .int 0, .long 0, .int 0, .ref (am 2), .ref (am 3), .ref (am 4), .ref (am 5), .ref (am 6), .ref (am 7), .ref (am 8), .ref (am 9), .ref (am 10), .ref (am 11), .int 0, .int (-1), .ref (am 12), .ref (am 13), .ref (am 14), .int 0, .ref (am 15), .ref (am 16), .int 0, .int 0, .int 0, .ref (am 17), .int 0, .int 0, .ref (am 18), .ref (am 19), .int 0, .int 0, .ref (am 20), .int 0, .int 0, .int 0, .int 0])), (am 2, .inl (cy 0, 575, .inl (mi 2)))] sz [.ref (am 0), .int n0, .int n1] nE) (Qi (dC, dI) vwCl (fun (r : Int32) (u : Unit) => r = (-1)) (fun (u : Unit) => []) (va_A [(am 0, .inr (12, [.int 0, .ref (am 1), .int 0, .int 0, .int 0, .int 0, .int 0, .int 0, .int 0, .int 0, .int 0, .int 0, .long 0, .int 0, .ref (am 2), .ref (am 3), .ref (am 4), .ref (am 5), .ref (am 6), .ref (am 7), .ref (am 8), .ref (am 9), .ref (am 10), .ref (am 11), .int 0, .int (-1), .ref (am 12), .ref (am 13), .ref (am 14), .int 0, .ref (am 15), .ref (am 16), .int 0, .int 0, .int 0, .ref (am 17), .int 0, .int 0, .ref (am 18), .ref (am 19), .int 0, .int 0, .ref (am 20), .int 0, .int 0, .int 0, .int 0])), (am 2, .inl (cy 0, 575, .inl (mi 2)))] sz)) 0 0 (va_A [(am 0, .inr (12, [.int 0, .ref (am 1), .int 0, .int 0, .int 0, .int 0, .int 0, .int 0, .int 0, .int 0, .int 0, .int 0, .long 0, .int 0, .ref (am 2), .ref (am 3), .ref (am 4), .ref (am 5), .ref (am 6), .ref (am 7), .ref (am 8), .ref (am 9), .ref (am 10), .ref (am 11), .int 0, .int (-1), .ref (am 12), .ref (am 13), .ref (am 14), .int 0, .ref (am 15), .ref (am 16), .int 0, .int 0, .int 0, .ref (am 17), .int 0, .int 0, .ref (am 18), .ref (am 19), .int 0, .int 0, .ref (am 20), .int 0, .int 0, .int 0, .int 0])), (am 2, .inl (cy 0, 575, .inl (mi 2)))] sz) := by
  refine mw (Qc := Qi (dC, dI) vwCl (fun (r : Int32) (u : Unit) => r = (-1)) (fun (u : Unit) => [])) RX11 rfl (by decide +kernel) (Nat.le_of_ble_eq_true rfl) ?_
  intro p e s m below meth c A hx hb hr hlocks av9 hav hts hown hnm hml hK hP hD hA hS hE hAe Q9 hQ9 ls hl
  have hl : lv_has ls 3 [(0, .ref (am 0)), (1, .int n0), (2, .int n1)] := hl
  refine lv_aload_n hx hb dX11_cell_0 rfl (lv_at hl 0 rfl) ?_
  refine lv_iconst (v := 0) hx hb dX11_cell_1 (by decide) ?_
  refine pf_X11_1 hx hb hts hown hK hP hD hS 0 rfl rfl rfl (Nat.le_of_ble_eq_true rfl) dX11_cell_2 (fun H locs hP hD hS => ?_)
  have hP : va_P (dC, dI) vwCl [(am 0, .inr (12, [.int 0, .ref (am 1), .int 0, .int 0, .int 0, .int 0, .int 0, .int 0, .int 0, .int 0, .int 0, .int 0, .long 0, .int 0, .ref (am 2), .ref (am 3), .ref (am 4), .ref (am 5), .ref (am 6), .ref (am 7), .ref (am 8), .ref (am 9), .ref (am 10), .ref (am 11), .int 0, .int (-1), .ref (am 12), .ref (am 13), .ref (am 14), .int 0, .ref (am 15), .ref (am 16), .int 0, .int 0, .int 0, .ref (am 17), .int 0, .int 0, .ref (am 18), .ref (am 19), .int 0, .int 0, .ref (am 20), .int 0, .int 0, .int 0, .int 0])), (am 2, .inl (cy 0, 575, .inl (mi 2)))] H := hP
  have hD : va_D A [(am 0, .inr (12, [.int 0, .ref (am 1), .int 0, .int 0, .int 0, .int 0, .int 0, .int 0, .int 0, .int 0, .int 0, .int 0, .long 0, .int 0, .ref (am 2), .ref (am 3), .ref (am 4), .ref (am 5), .ref (am 6), .ref (am 7), .ref (am 8), .ref (am 9), .ref (am 10), .ref (am 11), .int 0, .int (-1), .ref (am 12), .ref (am 13), .ref (am 14), .int 0, .ref (am 15), .ref (am 16), .int 0, .int 0, .int 0, .ref (am 17), .int 0, .int 0, .ref (am 18), .ref (am 19), .int 0, .int 0, .ref (am 20), .int 0, .int 0, .int 0, .int 0])), (am 2, .inl (cy 0, 575, .inl (mi 2)))] := hD
  refine lv_aload_n hx hb dX11_cell_5 rfl (lv_at hl 0 rfl) ?_
  refine lv_iload_n hx hb dX11_cell_6 rfl (lv_at hl 1 rfl) ?_
  refine jr_i (rVr (As := [.int n0]) (rest := []) (ci := 12) ⟨hx, hb, hml, hown, hts⟩ (m_isMan l dC dI cy am mi n0 hn) (cw_X11_250 hts rfl rfl ⟨Nat.le_of_ble_eq_true rfl, Nat.le_of_ble_eq_true rfl⟩) hP hK [0, 1] rfl rfl rfl rfl hl.1 rfl (Nat.le_of_ble_eq_true rfl) dX11_cell_7 ⟨Nat.le_of_ble_eq_true rfl, Nat.le_of_ble_eq_true rfl⟩) hP hS (fun r_1 H locs hp_2 hP hS => ?_)
  refine as_i 0 hp_2 ?_
  refine lv_if_eq (tgt := 29) hx hb dX11_cell_10 (by decide) (fun _ => ?_) (fun c9 => absurd (by decide) c9)
  refine lv_iconst (v := (-1)) hx hb dX11_cell_29 (by decide) ?_
  rw [hQ9]
  exact re_i () hx hb hr hlocks rfl (hP.sub [] rfl) (hD.sub [] rfl rfl) hS dX11_cell_30
abbrev cX11_kept : ByteArray := prog_13_method_60_code
def yX11_kept : MethodName := ⟨RX11, "kept", "(II)I"⟩
theorem t1778 : Cond.code yX11_kept cX11_kept 3 (some .int) ∈ GW := gw_mem 1892 (by decide +kernel) (by decide +kernel)
theorem dX11_kept_0 : decode cX11_kept 0 = .ok (.aload_n 0, 1) := by decide +kernel
theorem dX11_kept_1 : decode cX11_kept 1 = .ok (.iconst 0, 1) := by decide +kernel
theorem dX11_kept_2 : decode cX11_kept 2 = .ok (.putfield 1, 3) := by decide +kernel
theorem dX11_kept_5 : decode cX11_kept 5 = .ok (.aload_n 0, 1) := by decide +kernel
theorem dX11_kept_6 : decode cX11_kept 6 = .ok (.iload_n 1, 1) := by decide +kernel
theorem dX11_kept_7 : decode cX11_kept 7 = .ok (.invokevirtual 250, 3) := by decide +kernel
theorem dX11_kept_10 : decode cX11_kept 10 = .ok (.ifCond .eq 42, 3) := by decide +kernel
theorem dX11_kept_52 : decode cX11_kept 52 = .ok (.iconst (-1), 1) := by decide +kernel
theorem dX11_kept_53 : decode cX11_kept 53 = .ok (.ireturn, 1) := by decide +kernel
set_option maxHeartbeats 4000000 in
set_option maxRecDepth 100000 in
theorem m_kept (l : Launch) (dC : Nat → ClassId) (dI : Nat → Nat → Nat) (cy : Nat → ClassId) (sz : Nat) (am : Nat → Nat) (mi : Nat → Nat → Int32) (n0 : Int32) (n1 : Int32) (hn : NowOk (mi 2)) : Met l yX11_kept (wl yX11_kept cX11_kept 3 (some .int)) ({ frames := 2, cells := 0, slots := 0, locals := 128 }) (Pw (dC, dI) vwCl cy [(am 0, .inr (12, [.int 0, .ref (am 1), .int 0, .int 0, .int 0, .int 0, .int 0, .int 0, .int 0, .int 0, .int 0, .int 0, .long 0, .int 0, .ref (am 2), .ref (am 3), .ref (am 4), .ref (am 5), .ref (am 6), .ref (am 7), .ref (am 8), .ref (am 9), .ref (am 10), .ref (am 11), .int 0, .int (-1), .ref (am 12), .ref (am 13), .ref (am 14), .int 0, .ref (am 15), .ref (am 16), .int 0, .int 0, .int 0, .ref (am 17), .int 0, .int 0, .ref (am 18), .ref (am 19), .int 0, .int 0, .ref (am 20), .int 0, .int 0, .int 0, .int 0])), (am 2, .inl (cy 0, 575, .inl (mi 2)))] sz [.ref (am 0), .int n0, .int n1] nE) (Qi (dC, dI) vwCl (fun (r : Int32) (u : Unit) => r = (-1)) (fun (u : Unit) => []) (va_A [(am 0, .inr (12, [.int 0, .ref (am 1), .int 0, .int 0, .int 0, .int 0, .int 0, .int 0, .int 0, .int 0, .int 0, .int 0, .long 0, .int 0, .ref (am 2), .ref (am 3), .ref (am 4), .ref (am 5), .ref (am 6), .ref (am 7), .ref (am 8), .ref (am 9), .ref (am 10), .ref (am 11), .int 0, .int (-1), .ref (am 12), .ref (am 13), .ref (am 14), .int 0, .ref (am 15), .ref (am 16), .int 0, .int 0, .int 0, .ref (am 17), .int 0, .int 0, .ref (am 18), .ref (am 19), .int 0, .int 0, .ref (am 20), .int 0, .int 0, .int 0, .int 0])), (am 2, .inl (cy 0, 575, .inl (mi 2)))] sz)) 0 0 (va_A [(am 0, .inr (12, [.int 0, .ref (am 1), .int 0, .int 0, .int 0, .int 0, .int 0, .int 0, .int 0, .int 0, .int 0, .int 0, .long 0, .int 0, .ref (am 2), .ref (am 3), .ref (am 4), .ref (am 5), .ref (am 6), .ref (am 7), .ref (am 8), .ref (am 9), .ref (am 10), .ref (am 11), .int 0, .int (-1), .ref (am 12), .ref (am 13), .ref (am 14), .int 0, .ref (am 15), .ref (am 16), .int 0, .int 0, .int 0, .ref (am 17), .int 0, .int 0, .ref (am 18), .ref (am 19), .int 0, .int 0, .ref (am 20), .int 0, .int 0, .int 0, .int 0])), (am 2, .inl (cy 0, 575, .inl (mi 2)))] sz) := by
  refine mw (Qc := Qi (dC, dI) vwCl (fun (r : Int32) (u : Unit) => r = (-1)) (fun (u : Unit) => [])) RX11 rfl (by decide +kernel) (Nat.le_of_ble_eq_true rfl) ?_
  intro p e s m below meth c A hx hb hr hlocks av9 hav hts hown hnm hml hK hP hD hA hS hE hAe Q9 hQ9 ls hl
  have hl : lv_has ls 3 [(0, .ref (am 0)), (1, .int n0), (2, .int n1)] := hl
  refine lv_aload_n hx hb dX11_kept_0 rfl (lv_at hl 0 rfl) ?_
  refine lv_iconst (v := 0) hx hb dX11_kept_1 (by decide) ?_
  refine pf_X11_1 hx hb hts hown hK hP hD hS 0 rfl rfl rfl (Nat.le_of_ble_eq_true rfl) dX11_kept_2 (fun H locs hP hD hS => ?_)
  have hP : va_P (dC, dI) vwCl [(am 0, .inr (12, [.int 0, .ref (am 1), .int 0, .int 0, .int 0, .int 0, .int 0, .int 0, .int 0, .int 0, .int 0, .int 0, .long 0, .int 0, .ref (am 2), .ref (am 3), .ref (am 4), .ref (am 5), .ref (am 6), .ref (am 7), .ref (am 8), .ref (am 9), .ref (am 10), .ref (am 11), .int 0, .int (-1), .ref (am 12), .ref (am 13), .ref (am 14), .int 0, .ref (am 15), .ref (am 16), .int 0, .int 0, .int 0, .ref (am 17), .int 0, .int 0, .ref (am 18), .ref (am 19), .int 0, .int 0, .ref (am 20), .int 0, .int 0, .int 0, .int 0])), (am 2, .inl (cy 0, 575, .inl (mi 2)))] H := hP
  have hD : va_D A [(am 0, .inr (12, [.int 0, .ref (am 1), .int 0, .int 0, .int 0, .int 0, .int 0, .int 0, .int 0, .int 0, .int 0, .int 0, .long 0, .int 0, .ref (am 2), .ref (am 3), .ref (am 4), .ref (am 5), .ref (am 6), .ref (am 7), .ref (am 8), .ref (am 9), .ref (am 10), .ref (am 11), .int 0, .int (-1), .ref (am 12), .ref (am 13), .ref (am 14), .int 0, .ref (am 15), .ref (am 16), .int 0, .int 0, .int 0, .ref (am 17), .int 0, .int 0, .ref (am 18), .ref (am 19), .int 0, .int 0, .ref (am 20), .int 0, .int 0, .int 0, .int 0])), (am 2, .inl (cy 0, 575, .inl (mi 2)))] := hD
  refine lv_aload_n hx hb dX11_kept_5 rfl (lv_at hl 0 rfl) ?_
  refine lv_iload_n hx hb dX11_kept_6 rfl (lv_at hl 1 rfl) ?_
  refine jr_i (rVr (As := [.int n0]) (rest := []) (ci := 12) ⟨hx, hb, hml, hown, hts⟩ (m_isMan l dC dI cy am mi n0 hn) (cw_X11_250 hts rfl rfl ⟨Nat.le_of_ble_eq_true rfl, Nat.le_of_ble_eq_true rfl⟩) hP hK [0, 1] rfl rfl rfl rfl hl.1 rfl (Nat.le_of_ble_eq_true rfl) dX11_kept_7 ⟨Nat.le_of_ble_eq_true rfl, Nat.le_of_ble_eq_true rfl⟩) hP hS (fun r_1 H locs hp_2 hP hS => ?_)
  refine as_i 0 hp_2 ?_
  refine lv_if_eq (tgt := 52) hx hb dX11_kept_10 (by decide) (fun _ => ?_) (fun c9 => absurd (by decide) c9)
  refine lv_iconst (v := (-1)) hx hb dX11_kept_52 (by decide) ?_
  rw [hQ9]
  exact re_i () hx hb hr hlocks rfl (hP.sub [] rfl) (hD.sub [] rfl rfl) hS dX11_kept_53
abbrev cX11_act : ByteArray := prog_13_method_69_code
def yX11_act : MethodName := ⟨RX11, "act", "(II)I"⟩
theorem t1794 : Cond.code yX11_act cX11_act 3 (some .int) ∈ GW := gw_mem 1908 (by decide +kernel) (by decide +kernel)
theorem dX11_act_0 : decode cX11_act 0 = .ok (.aload_n 0, 1) := by decide +kernel
theorem dX11_act_1 : decode cX11_act 1 = .ok (.iconst 0, 1) := by decide +kernel
theorem dX11_act_2 : decode cX11_act 2 = .ok (.putfield 1, 3) := by decide +kernel
theorem dX11_act_5 : decode cX11_act 5 = .ok (.aload_n 0, 1) := by decide +kernel
theorem dX11_act_6 : decode cX11_act 6 = .ok (.iload_n 1, 1) := by decide +kernel
theorem dX11_act_7 : decode cX11_act 7 = .ok (.invokevirtual 250, 3) := by decide +kernel
theorem dX11_act_10 : decode cX11_act 10 = .ok (.ifCond .eq 22, 3) := by decide +kernel
theorem dX11_act_32 : decode cX11_act 32 = .ok (.iconst (-1), 1) := by decide +kernel
theorem dX11_act_33 : decode cX11_act 33 = .ok (.ireturn, 1) := by decide +kernel
set_option maxHeartbeats 4000000 in
set_option maxRecDepth 100000 in
theorem m_act (l : Launch) (dC : Nat → ClassId) (dI : Nat → Nat → Nat) (cy : Nat → ClassId) (sz : Nat) (am : Nat → Nat) (mi : Nat → Nat → Int32) (n0 : Int32) (n1 : Int32) (hn : NowOk (mi 2)) : Met l yX11_act (wl yX11_act cX11_act 3 (some .int)) ({ frames := 2, cells := 0, slots := 0, locals := 128 }) (Pw (dC, dI) vwCl cy [(am 0, .inr (12, [.int 0, .ref (am 1), .int 0, .int 0, .int 0, .int 0, .int 0, .int 0, .int 0, .int 0, .int 0, .int 0, .long 0, .int 0, .ref (am 2), .ref (am 3), .ref (am 4), .ref (am 5), .ref (am 6), .ref (am 7), .ref (am 8), .ref (am 9), .ref (am 10), .ref (am 11), .int 0, .int (-1), .ref (am 12), .ref (am 13), .ref (am 14), .int 0, .ref (am 15), .ref (am 16), .int 0, .int 0, .int 0, .ref (am 17), .int 0, .int 0, .ref (am 18), .ref (am 19), .int 0, .int 0, .ref (am 20), .int 0, .int 0, .int 0, .int 0])), (am 2, .inl (cy 0, 575, .inl (mi 2)))] sz [.ref (am 0), .int n0, .int n1] nE) (Qi (dC, dI) vwCl (fun (r : Int32) (u : Unit) => r = (-1)) (fun (u : Unit) => []) (va_A [(am 0, .inr (12, [.int 0, .ref (am 1), .int 0, .int 0, .int 0, .int 0, .int 0, .int 0, .int 0, .int 0, .int 0, .int 0, .long 0, .int 0, .ref (am 2), .ref (am 3), .ref (am 4), .ref (am 5), .ref (am 6), .ref (am 7), .ref (am 8), .ref (am 9), .ref (am 10), .ref (am 11), .int 0, .int (-1), .ref (am 12), .ref (am 13), .ref (am 14), .int 0, .ref (am 15), .ref (am 16), .int 0, .int 0, .int 0, .ref (am 17), .int 0, .int 0, .ref (am 18), .ref (am 19), .int 0, .int 0, .ref (am 20), .int 0, .int 0, .int 0, .int 0])), (am 2, .inl (cy 0, 575, .inl (mi 2)))] sz)) 0 0 (va_A [(am 0, .inr (12, [.int 0, .ref (am 1), .int 0, .int 0, .int 0, .int 0, .int 0, .int 0, .int 0, .int 0, .int 0, .int 0, .long 0, .int 0, .ref (am 2), .ref (am 3), .ref (am 4), .ref (am 5), .ref (am 6), .ref (am 7), .ref (am 8), .ref (am 9), .ref (am 10), .ref (am 11), .int 0, .int (-1), .ref (am 12), .ref (am 13), .ref (am 14), .int 0, .ref (am 15), .ref (am 16), .int 0, .int 0, .int 0, .ref (am 17), .int 0, .int 0, .ref (am 18), .ref (am 19), .int 0, .int 0, .ref (am 20), .int 0, .int 0, .int 0, .int 0])), (am 2, .inl (cy 0, 575, .inl (mi 2)))] sz) := by
  refine mw (Qc := Qi (dC, dI) vwCl (fun (r : Int32) (u : Unit) => r = (-1)) (fun (u : Unit) => [])) RX11 rfl (by decide +kernel) (Nat.le_of_ble_eq_true rfl) ?_
  intro p e s m below meth c A hx hb hr hlocks av9 hav hts hown hnm hml hK hP hD hA hS hE hAe Q9 hQ9 ls hl
  have hl : lv_has ls 3 [(0, .ref (am 0)), (1, .int n0), (2, .int n1)] := hl
  refine lv_aload_n hx hb dX11_act_0 rfl (lv_at hl 0 rfl) ?_
  refine lv_iconst (v := 0) hx hb dX11_act_1 (by decide) ?_
  refine pf_X11_1 hx hb hts hown hK hP hD hS 0 rfl rfl rfl (Nat.le_of_ble_eq_true rfl) dX11_act_2 (fun H locs hP hD hS => ?_)
  have hP : va_P (dC, dI) vwCl [(am 0, .inr (12, [.int 0, .ref (am 1), .int 0, .int 0, .int 0, .int 0, .int 0, .int 0, .int 0, .int 0, .int 0, .int 0, .long 0, .int 0, .ref (am 2), .ref (am 3), .ref (am 4), .ref (am 5), .ref (am 6), .ref (am 7), .ref (am 8), .ref (am 9), .ref (am 10), .ref (am 11), .int 0, .int (-1), .ref (am 12), .ref (am 13), .ref (am 14), .int 0, .ref (am 15), .ref (am 16), .int 0, .int 0, .int 0, .ref (am 17), .int 0, .int 0, .ref (am 18), .ref (am 19), .int 0, .int 0, .ref (am 20), .int 0, .int 0, .int 0, .int 0])), (am 2, .inl (cy 0, 575, .inl (mi 2)))] H := hP
  have hD : va_D A [(am 0, .inr (12, [.int 0, .ref (am 1), .int 0, .int 0, .int 0, .int 0, .int 0, .int 0, .int 0, .int 0, .int 0, .int 0, .long 0, .int 0, .ref (am 2), .ref (am 3), .ref (am 4), .ref (am 5), .ref (am 6), .ref (am 7), .ref (am 8), .ref (am 9), .ref (am 10), .ref (am 11), .int 0, .int (-1), .ref (am 12), .ref (am 13), .ref (am 14), .int 0, .ref (am 15), .ref (am 16), .int 0, .int 0, .int 0, .ref (am 17), .int 0, .int 0, .ref (am 18), .ref (am 19), .int 0, .int 0, .ref (am 20), .int 0, .int 0, .int 0, .int 0])), (am 2, .inl (cy 0, 575, .inl (mi 2)))] := hD
  refine lv_aload_n hx hb dX11_act_5 rfl (lv_at hl 0 rfl) ?_
  refine lv_iload_n hx hb dX11_act_6 rfl (lv_at hl 1 rfl) ?_
  refine jr_i (rVr (As := [.int n0]) (rest := []) (ci := 12) ⟨hx, hb, hml, hown, hts⟩ (m_isMan l dC dI cy am mi n0 hn) (cw_X11_250 hts rfl rfl ⟨Nat.le_of_ble_eq_true rfl, Nat.le_of_ble_eq_true rfl⟩) hP hK [0, 1] rfl rfl rfl rfl hl.1 rfl (Nat.le_of_ble_eq_true rfl) dX11_act_7 ⟨Nat.le_of_ble_eq_true rfl, Nat.le_of_ble_eq_true rfl⟩) hP hS (fun r_1 H locs hp_2 hP hS => ?_)
  refine as_i 0 hp_2 ?_
  refine lv_if_eq (tgt := 32) hx hb dX11_act_10 (by decide) (fun _ => ?_) (fun c9 => absurd (by decide) c9)
  refine lv_iconst (v := (-1)) hx hb dX11_act_32 (by decide) ?_
  rw [hQ9]
  exact re_i () hx hb hr hlocks rfl (hP.sub [] rfl) (hD.sub [] rfl rfl) hS dX11_act_33
abbrev cX11_lend : ByteArray := prog_13_method_70_code
def yX11_lend : MethodName := ⟨RX11, "lend", "(III)I"⟩
theorem t1822 : Cond.code yX11_lend cX11_lend 4 (some .int) ∈ GW := gw_mem 1936 (by decide +kernel) (by decide +kernel)
theorem dX11_lend_0 : decode cX11_lend 0 = .ok (.aload_n 0, 1) := by decide +kernel
theorem dX11_lend_1 : decode cX11_lend 1 = .ok (.iconst 0, 1) := by decide +kernel
theorem dX11_lend_2 : decode cX11_lend 2 = .ok (.putfield 1, 3) := by decide +kernel
theorem dX11_lend_5 : decode cX11_lend 5 = .ok (.aload_n 0, 1) := by decide +kernel
theorem dX11_lend_6 : decode cX11_lend 6 = .ok (.iload_n 1, 1) := by decide +kernel
theorem dX11_lend_7 : decode cX11_lend 7 = .ok (.invokevirtual 250, 3) := by decide +kernel
theorem dX11_lend_10 : decode cX11_lend 10 = .ok (.ifCond .eq 30, 3) := by decide +kernel
theorem dX11_lend_40 : decode cX11_lend 40 = .ok (.iconst (-1), 1) := by decide +kernel
theorem dX11_lend_41 : decode cX11_lend 41 = .ok (.ireturn, 1) := by decide +kernel
set_option maxHeartbeats 4000000 in
set_option maxRecDepth 100000 in
theorem m_lend (l : Launch) (dC : Nat → ClassId) (dI : Nat → Nat → Nat) (cy : Nat → ClassId) (sz : Nat) (am : Nat → Nat) (mi : Nat → Nat → Int32) (n0 : Int32) (n1 : Int32) (n2 : Int32) (hn : NowOk (mi 2)) : Met l yX11_lend (wl yX11_lend cX11_lend 4 (some .int)) ({ frames := 2, cells := 0, slots := 0, locals := 128 }) (Pw (dC, dI) vwCl cy [(am 0, .inr (12, [.int 0, .ref (am 1), .int 0, .int 0, .int 0, .int 0, .int 0, .int 0, .int 0, .int 0, .int 0, .int 0, .long 0, .int 0, .ref (am 2), .ref (am 3), .ref (am 4), .ref (am 5), .ref (am 6), .ref (am 7), .ref (am 8), .ref (am 9), .ref (am 10), .ref (am 11), .int 0, .int (-1), .ref (am 12), .ref (am 13), .ref (am 14), .int 0, .ref (am 15), .ref (am 16), .int 0, .int 0, .int 0, .ref (am 17), .int 0, .int 0, .ref (am 18), .ref (am 19), .int 0, .int 0, .ref (am 20), .int 0, .int 0, .int 0, .int 0])), (am 2, .inl (cy 0, 575, .inl (mi 2)))] sz [.ref (am 0), .int n0, .int n1, .int n2] nE) (Qi (dC, dI) vwCl (fun (r : Int32) (u : Unit) => r = (-1)) (fun (u : Unit) => []) (va_A [(am 0, .inr (12, [.int 0, .ref (am 1), .int 0, .int 0, .int 0, .int 0, .int 0, .int 0, .int 0, .int 0, .int 0, .int 0, .long 0, .int 0, .ref (am 2), .ref (am 3), .ref (am 4), .ref (am 5), .ref (am 6), .ref (am 7), .ref (am 8), .ref (am 9), .ref (am 10), .ref (am 11), .int 0, .int (-1), .ref (am 12), .ref (am 13), .ref (am 14), .int 0, .ref (am 15), .ref (am 16), .int 0, .int 0, .int 0, .ref (am 17), .int 0, .int 0, .ref (am 18), .ref (am 19), .int 0, .int 0, .ref (am 20), .int 0, .int 0, .int 0, .int 0])), (am 2, .inl (cy 0, 575, .inl (mi 2)))] sz)) 0 0 (va_A [(am 0, .inr (12, [.int 0, .ref (am 1), .int 0, .int 0, .int 0, .int 0, .int 0, .int 0, .int 0, .int 0, .int 0, .int 0, .long 0, .int 0, .ref (am 2), .ref (am 3), .ref (am 4), .ref (am 5), .ref (am 6), .ref (am 7), .ref (am 8), .ref (am 9), .ref (am 10), .ref (am 11), .int 0, .int (-1), .ref (am 12), .ref (am 13), .ref (am 14), .int 0, .ref (am 15), .ref (am 16), .int 0, .int 0, .int 0, .ref (am 17), .int 0, .int 0, .ref (am 18), .ref (am 19), .int 0, .int 0, .ref (am 20), .int 0, .int 0, .int 0, .int 0])), (am 2, .inl (cy 0, 575, .inl (mi 2)))] sz) := by
  refine mw (Qc := Qi (dC, dI) vwCl (fun (r : Int32) (u : Unit) => r = (-1)) (fun (u : Unit) => [])) RX11 rfl (by decide +kernel) (Nat.le_of_ble_eq_true rfl) ?_
  intro p e s m below meth c A hx hb hr hlocks av9 hav hts hown hnm hml hK hP hD hA hS hE hAe Q9 hQ9 ls hl
  have hl : lv_has ls 4 [(0, .ref (am 0)), (1, .int n0), (2, .int n1), (3, .int n2)] := hl
  refine lv_aload_n hx hb dX11_lend_0 rfl (lv_at hl 0 rfl) ?_
  refine lv_iconst (v := 0) hx hb dX11_lend_1 (by decide) ?_
  refine pf_X11_1 hx hb hts hown hK hP hD hS 0 rfl rfl rfl (Nat.le_of_ble_eq_true rfl) dX11_lend_2 (fun H locs hP hD hS => ?_)
  have hP : va_P (dC, dI) vwCl [(am 0, .inr (12, [.int 0, .ref (am 1), .int 0, .int 0, .int 0, .int 0, .int 0, .int 0, .int 0, .int 0, .int 0, .int 0, .long 0, .int 0, .ref (am 2), .ref (am 3), .ref (am 4), .ref (am 5), .ref (am 6), .ref (am 7), .ref (am 8), .ref (am 9), .ref (am 10), .ref (am 11), .int 0, .int (-1), .ref (am 12), .ref (am 13), .ref (am 14), .int 0, .ref (am 15), .ref (am 16), .int 0, .int 0, .int 0, .ref (am 17), .int 0, .int 0, .ref (am 18), .ref (am 19), .int 0, .int 0, .ref (am 20), .int 0, .int 0, .int 0, .int 0])), (am 2, .inl (cy 0, 575, .inl (mi 2)))] H := hP
  have hD : va_D A [(am 0, .inr (12, [.int 0, .ref (am 1), .int 0, .int 0, .int 0, .int 0, .int 0, .int 0, .int 0, .int 0, .int 0, .int 0, .long 0, .int 0, .ref (am 2), .ref (am 3), .ref (am 4), .ref (am 5), .ref (am 6), .ref (am 7), .ref (am 8), .ref (am 9), .ref (am 10), .ref (am 11), .int 0, .int (-1), .ref (am 12), .ref (am 13), .ref (am 14), .int 0, .ref (am 15), .ref (am 16), .int 0, .int 0, .int 0, .ref (am 17), .int 0, .int 0, .ref (am 18), .ref (am 19), .int 0, .int 0, .ref (am 20), .int 0, .int 0, .int 0, .int 0])), (am 2, .inl (cy 0, 575, .inl (mi 2)))] := hD
  refine lv_aload_n hx hb dX11_lend_5 rfl (lv_at hl 0 rfl) ?_
  refine lv_iload_n hx hb dX11_lend_6 rfl (lv_at hl 1 rfl) ?_
  refine jr_i (rVr (As := [.int n0]) (rest := []) (ci := 12) ⟨hx, hb, hml, hown, hts⟩ (m_isMan l dC dI cy am mi n0 hn) (cw_X11_250 hts rfl rfl ⟨Nat.le_of_ble_eq_true rfl, Nat.le_of_ble_eq_true rfl⟩) hP hK [0, 1] rfl rfl rfl rfl hl.1 rfl (Nat.le_of_ble_eq_true rfl) dX11_lend_7 ⟨Nat.le_of_ble_eq_true rfl, Nat.le_of_ble_eq_true rfl⟩) hP hS (fun r_1 H locs hp_2 hP hS => ?_)
  refine as_i 0 hp_2 ?_
  refine lv_if_eq (tgt := 40) hx hb dX11_lend_10 (by decide) (fun _ => ?_) (fun c9 => absurd (by decide) c9)
  refine lv_iconst (v := (-1)) hx hb dX11_lend_40 (by decide) ?_
  rw [hQ9]
  exact re_i () hx hb hr hlocks rfl (hP.sub [] rfl) (hD.sub [] rfl rfl) hS dX11_lend_41
abbrev cX11_back : ByteArray := prog_13_method_71_code
def yX11_back : MethodName := ⟨RX11, "back", "(I)I"⟩
theorem t1826 : Cond.code yX11_back cX11_back 2 (some .int) ∈ GW := gw_mem 1940 (by decide +kernel) (by decide +kernel)
theorem dX11_back_0 : decode cX11_back 0 = .ok (.aload_n 0, 1) := by decide +kernel
theorem dX11_back_1 : decode cX11_back 1 = .ok (.iconst 0, 1) := by decide +kernel
theorem dX11_back_2 : decode cX11_back 2 = .ok (.putfield 1, 3) := by decide +kernel
theorem dX11_back_5 : decode cX11_back 5 = .ok (.aload_n 0, 1) := by decide +kernel
theorem dX11_back_6 : decode cX11_back 6 = .ok (.iload_n 1, 1) := by decide +kernel
theorem dX11_back_7 : decode cX11_back 7 = .ok (.invokevirtual 250, 3) := by decide +kernel
theorem dX11_back_10 : decode cX11_back 10 = .ok (.ifCond .eq 14, 3) := by decide +kernel
theorem dX11_back_24 : decode cX11_back 24 = .ok (.iconst (-1), 1) := by decide +kernel
theorem dX11_back_25 : decode cX11_back 25 = .ok (.ireturn, 1) := by decide +kernel
set_option maxHeartbeats 4000000 in
set_option maxRecDepth 100000 in
theorem m_back (l : Launch) (dC : Nat → ClassId) (dI : Nat → Nat → Nat) (cy : Nat → ClassId) (sz : Nat) (am : Nat → Nat) (mi : Nat → Nat → Int32) (n0 : Int32) (hn : NowOk (mi 2)) : Met l yX11_back (wl yX11_back cX11_back 2 (some .int)) ({ frames := 2, cells := 0, slots := 0, locals := 128 }) (Pw (dC, dI) vwCl cy [(am 0, .inr (12, [.int 0, .ref (am 1), .int 0, .int 0, .int 0, .int 0, .int 0, .int 0, .int 0, .int 0, .int 0, .int 0, .long 0, .int 0, .ref (am 2), .ref (am 3), .ref (am 4), .ref (am 5), .ref (am 6), .ref (am 7), .ref (am 8), .ref (am 9), .ref (am 10), .ref (am 11), .int 0, .int (-1), .ref (am 12), .ref (am 13), .ref (am 14), .int 0, .ref (am 15), .ref (am 16), .int 0, .int 0, .int 0, .ref (am 17), .int 0, .int 0, .ref (am 18), .ref (am 19), .int 0, .int 0, .ref (am 20), .int 0, .int 0, .int 0, .int 0])), (am 2, .inl (cy 0, 575, .inl (mi 2)))] sz [.ref (am 0), .int n0] nE) (Qi (dC, dI) vwCl (fun (r : Int32) (u : Unit) => r = (-1)) (fun (u : Unit) => []) (va_A [(am 0, .inr (12, [.int 0, .ref (am 1), .int 0, .int 0, .int 0, .int 0, .int 0, .int 0, .int 0, .int 0, .int 0, .int 0, .long 0, .int 0, .ref (am 2), .ref (am 3), .ref (am 4), .ref (am 5), .ref (am 6), .ref (am 7), .ref (am 8), .ref (am 9), .ref (am 10), .ref (am 11), .int 0, .int (-1), .ref (am 12), .ref (am 13), .ref (am 14), .int 0, .ref (am 15), .ref (am 16), .int 0, .int 0, .int 0, .ref (am 17), .int 0, .int 0, .ref (am 18), .ref (am 19), .int 0, .int 0, .ref (am 20), .int 0, .int 0, .int 0, .int 0])), (am 2, .inl (cy 0, 575, .inl (mi 2)))] sz)) 0 0 (va_A [(am 0, .inr (12, [.int 0, .ref (am 1), .int 0, .int 0, .int 0, .int 0, .int 0, .int 0, .int 0, .int 0, .int 0, .int 0, .long 0, .int 0, .ref (am 2), .ref (am 3), .ref (am 4), .ref (am 5), .ref (am 6), .ref (am 7), .ref (am 8), .ref (am 9), .ref (am 10), .ref (am 11), .int 0, .int (-1), .ref (am 12), .ref (am 13), .ref (am 14), .int 0, .ref (am 15), .ref (am 16), .int 0, .int 0, .int 0, .ref (am 17), .int 0, .int 0, .ref (am 18), .ref (am 19), .int 0, .int 0, .ref (am 20), .int 0, .int 0, .int 0, .int 0])), (am 2, .inl (cy 0, 575, .inl (mi 2)))] sz) := by
  refine mw (Qc := Qi (dC, dI) vwCl (fun (r : Int32) (u : Unit) => r = (-1)) (fun (u : Unit) => [])) RX11 rfl (by decide +kernel) (Nat.le_of_ble_eq_true rfl) ?_
  intro p e s m below meth c A hx hb hr hlocks av9 hav hts hown hnm hml hK hP hD hA hS hE hAe Q9 hQ9 ls hl
  have hl : lv_has ls 2 [(0, .ref (am 0)), (1, .int n0)] := hl
  refine lv_aload_n hx hb dX11_back_0 rfl (lv_at hl 0 rfl) ?_
  refine lv_iconst (v := 0) hx hb dX11_back_1 (by decide) ?_
  refine pf_X11_1 hx hb hts hown hK hP hD hS 0 rfl rfl rfl (Nat.le_of_ble_eq_true rfl) dX11_back_2 (fun H locs hP hD hS => ?_)
  have hP : va_P (dC, dI) vwCl [(am 0, .inr (12, [.int 0, .ref (am 1), .int 0, .int 0, .int 0, .int 0, .int 0, .int 0, .int 0, .int 0, .int 0, .int 0, .long 0, .int 0, .ref (am 2), .ref (am 3), .ref (am 4), .ref (am 5), .ref (am 6), .ref (am 7), .ref (am 8), .ref (am 9), .ref (am 10), .ref (am 11), .int 0, .int (-1), .ref (am 12), .ref (am 13), .ref (am 14), .int 0, .ref (am 15), .ref (am 16), .int 0, .int 0, .int 0, .ref (am 17), .int 0, .int 0, .ref (am 18), .ref (am 19), .int 0, .int 0, .ref (am 20), .int 0, .int 0, .int 0, .int 0])), (am 2, .inl (cy 0, 575, .inl (mi 2)))] H := hP
  have hD : va_D A [(am 0, .inr (12, [.int 0, .ref (am 1), .int 0, .int 0, .int 0, .int 0, .int 0, .int 0, .int 0, .int 0, .int 0, .int 0, .long 0, .int 0, .ref (am 2), .ref (am 3), .ref (am 4), .ref (am 5), .ref (am 6), .ref (am 7), .ref (am 8), .ref (am 9), .ref (am 10), .ref (am 11), .int 0, .int (-1), .ref (am 12), .ref (am 13), .ref (am 14), .int 0, .ref (am 15), .ref (am 16), .int 0, .int 0, .int 0, .ref (am 17), .int 0, .int 0, .ref (am 18), .ref (am 19), .int 0, .int 0, .ref (am 20), .int 0, .int 0, .int 0, .int 0])), (am 2, .inl (cy 0, 575, .inl (mi 2)))] := hD
  refine lv_aload_n hx hb dX11_back_5 rfl (lv_at hl 0 rfl) ?_
  refine lv_iload_n hx hb dX11_back_6 rfl (lv_at hl 1 rfl) ?_
  refine jr_i (rVr (As := [.int n0]) (rest := []) (ci := 12) ⟨hx, hb, hml, hown, hts⟩ (m_isMan l dC dI cy am mi n0 hn) (cw_X11_250 hts rfl rfl ⟨Nat.le_of_ble_eq_true rfl, Nat.le_of_ble_eq_true rfl⟩) hP hK [0, 1] rfl rfl rfl rfl hl.1 rfl (Nat.le_of_ble_eq_true rfl) dX11_back_7 ⟨Nat.le_of_ble_eq_true rfl, Nat.le_of_ble_eq_true rfl⟩) hP hS (fun r_1 H locs hp_2 hP hS => ?_)
  refine as_i 0 hp_2 ?_
  refine lv_if_eq (tgt := 24) hx hb dX11_back_10 (by decide) (fun _ => ?_) (fun c9 => absurd (by decide) c9)
  refine lv_iconst (v := (-1)) hx hb dX11_back_24 (by decide) ?_
  rw [hQ9]
  exact re_i () hx hb hr hlocks rfl (hP.sub [] rfl) (hD.sub [] rfl rfl) hS dX11_back_25
abbrev cX11_borrow : ByteArray := prog_13_method_72_code
def yX11_borrow : MethodName := ⟨RX11, "borrow", "(III)I"⟩
theorem t1830 : Cond.code yX11_borrow cX11_borrow 4 (some .int) ∈ GW := gw_mem 1944 (by decide +kernel) (by decide +kernel)
theorem dX11_borrow_0 : decode cX11_borrow 0 = .ok (.aload_n 0, 1) := by decide +kernel
theorem dX11_borrow_1 : decode cX11_borrow 1 = .ok (.iconst 0, 1) := by decide +kernel
theorem dX11_borrow_2 : decode cX11_borrow 2 = .ok (.putfield 1, 3) := by decide +kernel
theorem dX11_borrow_5 : decode cX11_borrow 5 = .ok (.aload_n 0, 1) := by decide +kernel
theorem dX11_borrow_6 : decode cX11_borrow 6 = .ok (.iload_n 1, 1) := by decide +kernel
theorem dX11_borrow_7 : decode cX11_borrow 7 = .ok (.invokevirtual 250, 3) := by decide +kernel
theorem dX11_borrow_10 : decode cX11_borrow 10 = .ok (.ifCond .eq 32, 3) := by decide +kernel
theorem dX11_borrow_42 : decode cX11_borrow 42 = .ok (.iconst (-1), 1) := by decide +kernel
theorem dX11_borrow_43 : decode cX11_borrow 43 = .ok (.ireturn, 1) := by decide +kernel
set_option maxHeartbeats 4000000 in
set_option maxRecDepth 100000 in
theorem m_borrow (l : Launch) (dC : Nat → ClassId) (dI : Nat → Nat → Nat) (cy : Nat → ClassId) (sz : Nat) (am : Nat → Nat) (mi : Nat → Nat → Int32) (n0 : Int32) (n1 : Int32) (n2 : Int32) (hn : NowOk (mi 2)) : Met l yX11_borrow (wl yX11_borrow cX11_borrow 4 (some .int)) ({ frames := 2, cells := 0, slots := 0, locals := 128 }) (Pw (dC, dI) vwCl cy [(am 0, .inr (12, [.int 0, .ref (am 1), .int 0, .int 0, .int 0, .int 0, .int 0, .int 0, .int 0, .int 0, .int 0, .int 0, .long 0, .int 0, .ref (am 2), .ref (am 3), .ref (am 4), .ref (am 5), .ref (am 6), .ref (am 7), .ref (am 8), .ref (am 9), .ref (am 10), .ref (am 11), .int 0, .int (-1), .ref (am 12), .ref (am 13), .ref (am 14), .int 0, .ref (am 15), .ref (am 16), .int 0, .int 0, .int 0, .ref (am 17), .int 0, .int 0, .ref (am 18), .ref (am 19), .int 0, .int 0, .ref (am 20), .int 0, .int 0, .int 0, .int 0])), (am 2, .inl (cy 0, 575, .inl (mi 2)))] sz [.ref (am 0), .int n0, .int n1, .int n2] nE) (Qi (dC, dI) vwCl (fun (r : Int32) (u : Unit) => r = (-1)) (fun (u : Unit) => []) (va_A [(am 0, .inr (12, [.int 0, .ref (am 1), .int 0, .int 0, .int 0, .int 0, .int 0, .int 0, .int 0, .int 0, .int 0, .int 0, .long 0, .int 0, .ref (am 2), .ref (am 3), .ref (am 4), .ref (am 5), .ref (am 6), .ref (am 7), .ref (am 8), .ref (am 9), .ref (am 10), .ref (am 11), .int 0, .int (-1), .ref (am 12), .ref (am 13), .ref (am 14), .int 0, .ref (am 15), .ref (am 16), .int 0, .int 0, .int 0, .ref (am 17), .int 0, .int 0, .ref (am 18), .ref (am 19), .int 0, .int 0, .ref (am 20), .int 0, .int 0, .int 0, .int 0])), (am 2, .inl (cy 0, 575, .inl (mi 2)))] sz)) 0 0 (va_A [(am 0, .inr (12, [.int 0, .ref (am 1), .int 0, .int 0, .int 0, .int 0, .int 0, .int 0, .int 0, .int 0, .int 0, .int 0, .long 0, .int 0, .ref (am 2), .ref (am 3), .ref (am 4), .ref (am 5), .ref (am 6), .ref (am 7), .ref (am 8), .ref (am 9), .ref (am 10), .ref (am 11), .int 0, .int (-1), .ref (am 12), .ref (am 13), .ref (am 14), .int 0, .ref (am 15), .ref (am 16), .int 0, .int 0, .int 0, .ref (am 17), .int 0, .int 0, .ref (am 18), .ref (am 19), .int 0, .int 0, .ref (am 20), .int 0, .int 0, .int 0, .int 0])), (am 2, .inl (cy 0, 575, .inl (mi 2)))] sz) := by
  refine mw (Qc := Qi (dC, dI) vwCl (fun (r : Int32) (u : Unit) => r = (-1)) (fun (u : Unit) => [])) RX11 rfl (by decide +kernel) (Nat.le_of_ble_eq_true rfl) ?_
  intro p e s m below meth c A hx hb hr hlocks av9 hav hts hown hnm hml hK hP hD hA hS hE hAe Q9 hQ9 ls hl
  have hl : lv_has ls 4 [(0, .ref (am 0)), (1, .int n0), (2, .int n1), (3, .int n2)] := hl
  refine lv_aload_n hx hb dX11_borrow_0 rfl (lv_at hl 0 rfl) ?_
  refine lv_iconst (v := 0) hx hb dX11_borrow_1 (by decide) ?_
  refine pf_X11_1 hx hb hts hown hK hP hD hS 0 rfl rfl rfl (Nat.le_of_ble_eq_true rfl) dX11_borrow_2 (fun H locs hP hD hS => ?_)
  have hP : va_P (dC, dI) vwCl [(am 0, .inr (12, [.int 0, .ref (am 1), .int 0, .int 0, .int 0, .int 0, .int 0, .int 0, .int 0, .int 0, .int 0, .int 0, .long 0, .int 0, .ref (am 2), .ref (am 3), .ref (am 4), .ref (am 5), .ref (am 6), .ref (am 7), .ref (am 8), .ref (am 9), .ref (am 10), .ref (am 11), .int 0, .int (-1), .ref (am 12), .ref (am 13), .ref (am 14), .int 0, .ref (am 15), .ref (am 16), .int 0, .int 0, .int 0, .ref (am 17), .int 0, .int 0, .ref (am 18), .ref (am 19), .int 0, .int 0, .ref (am 20), .int 0, .int 0, .int 0, .int 0])), (am 2, .inl (cy 0, 575, .inl (mi 2)))] H := hP
  have hD : va_D A [(am 0, .inr (12, [.int 0, .ref (am 1), .int 0, .int 0, .int 0, .int 0, .int 0, .int 0, .int 0, .int 0, .int 0, .int 0, .long 0, .int 0, .ref (am 2), .ref (am 3), .ref (am 4), .ref (am 5), .ref (am 6), .ref (am 7), .ref (am 8), .ref (am 9), .ref (am 10), .ref (am 11), .int 0, .int (-1), .ref (am 12), .ref (am 13), .ref (am 14), .int 0, .ref (am 15), .ref (am 16), .int 0, .int 0, .int 0, .ref (am 17), .int 0, .int 0, .ref (am 18), .ref (am 19), .int 0, .int 0, .ref (am 20), .int 0, .int 0, .int 0, .int 0])), (am 2, .inl (cy 0, 575, .inl (mi 2)))] := hD
  refine lv_aload_n hx hb dX11_borrow_5 rfl (lv_at hl 0 rfl) ?_
  refine lv_iload_n hx hb dX11_borrow_6 rfl (lv_at hl 1 rfl) ?_
  refine jr_i (rVr (As := [.int n0]) (rest := []) (ci := 12) ⟨hx, hb, hml, hown, hts⟩ (m_isMan l dC dI cy am mi n0 hn) (cw_X11_250 hts rfl rfl ⟨Nat.le_of_ble_eq_true rfl, Nat.le_of_ble_eq_true rfl⟩) hP hK [0, 1] rfl rfl rfl rfl hl.1 rfl (Nat.le_of_ble_eq_true rfl) dX11_borrow_7 ⟨Nat.le_of_ble_eq_true rfl, Nat.le_of_ble_eq_true rfl⟩) hP hS (fun r_1 H locs hp_2 hP hS => ?_)
  refine as_i 0 hp_2 ?_
  refine lv_if_eq (tgt := 42) hx hb dX11_borrow_10 (by decide) (fun _ => ?_) (fun c9 => absurd (by decide) c9)
  refine lv_iconst (v := (-1)) hx hb dX11_borrow_42 (by decide) ?_
  rw [hQ9]
  exact re_i () hx hb hr hlocks rfl (hP.sub [] rfl) (hD.sub [] rfl rfl) hS dX11_borrow_43
abbrev cX11_pay : ByteArray := prog_13_method_73_code
def yX11_pay : MethodName := ⟨RX11, "pay", "(III)I"⟩
theorem t1834 : Cond.code yX11_pay cX11_pay 4 (some .int) ∈ GW := gw_mem 1948 (by decide +kernel) (by decide +kernel)
theorem dX11_pay_0 : decode cX11_pay 0 = .ok (.aload_n 0, 1) := by decide +kernel
theorem dX11_pay_1 : decode cX11_pay 1 = .ok (.iconst 0, 1) := by decide +kernel
theorem dX11_pay_2 : decode cX11_pay 2 = .ok (.putfield 1, 3) := by decide +kernel
theorem dX11_pay_5 : decode cX11_pay 5 = .ok (.aload_n 0, 1) := by decide +kernel
theorem dX11_pay_6 : decode cX11_pay 6 = .ok (.iload_n 1, 1) := by decide +kernel
theorem dX11_pay_7 : decode cX11_pay 7 = .ok (.invokevirtual 250, 3) := by decide +kernel
theorem dX11_pay_10 : decode cX11_pay 10 = .ok (.ifCond .eq 32, 3) := by decide +kernel
theorem dX11_pay_42 : decode cX11_pay 42 = .ok (.iconst (-1), 1) := by decide +kernel
theorem dX11_pay_43 : decode cX11_pay 43 = .ok (.ireturn, 1) := by decide +kernel
set_option maxHeartbeats 4000000 in
set_option maxRecDepth 100000 in
theorem m_pay (l : Launch) (dC : Nat → ClassId) (dI : Nat → Nat → Nat) (cy : Nat → ClassId) (sz : Nat) (am : Nat → Nat) (mi : Nat → Nat → Int32) (n0 : Int32) (n1 : Int32) (n2 : Int32) (hn : NowOk (mi 2)) : Met l yX11_pay (wl yX11_pay cX11_pay 4 (some .int)) ({ frames := 2, cells := 0, slots := 0, locals := 128 }) (Pw (dC, dI) vwCl cy [(am 0, .inr (12, [.int 0, .ref (am 1), .int 0, .int 0, .int 0, .int 0, .int 0, .int 0, .int 0, .int 0, .int 0, .int 0, .long 0, .int 0, .ref (am 2), .ref (am 3), .ref (am 4), .ref (am 5), .ref (am 6), .ref (am 7), .ref (am 8), .ref (am 9), .ref (am 10), .ref (am 11), .int 0, .int (-1), .ref (am 12), .ref (am 13), .ref (am 14), .int 0, .ref (am 15), .ref (am 16), .int 0, .int 0, .int 0, .ref (am 17), .int 0, .int 0, .ref (am 18), .ref (am 19), .int 0, .int 0, .ref (am 20), .int 0, .int 0, .int 0, .int 0])), (am 2, .inl (cy 0, 575, .inl (mi 2)))] sz [.ref (am 0), .int n0, .int n1, .int n2] nE) (Qi (dC, dI) vwCl (fun (r : Int32) (u : Unit) => r = (-1)) (fun (u : Unit) => []) (va_A [(am 0, .inr (12, [.int 0, .ref (am 1), .int 0, .int 0, .int 0, .int 0, .int 0, .int 0, .int 0, .int 0, .int 0, .int 0, .long 0, .int 0, .ref (am 2), .ref (am 3), .ref (am 4), .ref (am 5), .ref (am 6), .ref (am 7), .ref (am 8), .ref (am 9), .ref (am 10), .ref (am 11), .int 0, .int (-1), .ref (am 12), .ref (am 13), .ref (am 14), .int 0, .ref (am 15), .ref (am 16), .int 0, .int 0, .int 0, .ref (am 17), .int 0, .int 0, .ref (am 18), .ref (am 19), .int 0, .int 0, .ref (am 20), .int 0, .int 0, .int 0, .int 0])), (am 2, .inl (cy 0, 575, .inl (mi 2)))] sz)) 0 0 (va_A [(am 0, .inr (12, [.int 0, .ref (am 1), .int 0, .int 0, .int 0, .int 0, .int 0, .int 0, .int 0, .int 0, .int 0, .int 0, .long 0, .int 0, .ref (am 2), .ref (am 3), .ref (am 4), .ref (am 5), .ref (am 6), .ref (am 7), .ref (am 8), .ref (am 9), .ref (am 10), .ref (am 11), .int 0, .int (-1), .ref (am 12), .ref (am 13), .ref (am 14), .int 0, .ref (am 15), .ref (am 16), .int 0, .int 0, .int 0, .ref (am 17), .int 0, .int 0, .ref (am 18), .ref (am 19), .int 0, .int 0, .ref (am 20), .int 0, .int 0, .int 0, .int 0])), (am 2, .inl (cy 0, 575, .inl (mi 2)))] sz) := by
  refine mw (Qc := Qi (dC, dI) vwCl (fun (r : Int32) (u : Unit) => r = (-1)) (fun (u : Unit) => [])) RX11 rfl (by decide +kernel) (Nat.le_of_ble_eq_true rfl) ?_
  intro p e s m below meth c A hx hb hr hlocks av9 hav hts hown hnm hml hK hP hD hA hS hE hAe Q9 hQ9 ls hl
  have hl : lv_has ls 4 [(0, .ref (am 0)), (1, .int n0), (2, .int n1), (3, .int n2)] := hl
  refine lv_aload_n hx hb dX11_pay_0 rfl (lv_at hl 0 rfl) ?_
  refine lv_iconst (v := 0) hx hb dX11_pay_1 (by decide) ?_
  refine pf_X11_1 hx hb hts hown hK hP hD hS 0 rfl rfl rfl (Nat.le_of_ble_eq_true rfl) dX11_pay_2 (fun H locs hP hD hS => ?_)
  have hP : va_P (dC, dI) vwCl [(am 0, .inr (12, [.int 0, .ref (am 1), .int 0, .int 0, .int 0, .int 0, .int 0, .int 0, .int 0, .int 0, .int 0, .int 0, .long 0, .int 0, .ref (am 2), .ref (am 3), .ref (am 4), .ref (am 5), .ref (am 6), .ref (am 7), .ref (am 8), .ref (am 9), .ref (am 10), .ref (am 11), .int 0, .int (-1), .ref (am 12), .ref (am 13), .ref (am 14), .int 0, .ref (am 15), .ref (am 16), .int 0, .int 0, .int 0, .ref (am 17), .int 0, .int 0, .ref (am 18), .ref (am 19), .int 0, .int 0, .ref (am 20), .int 0, .int 0, .int 0, .int 0])), (am 2, .inl (cy 0, 575, .inl (mi 2)))] H := hP
  have hD : va_D A [(am 0, .inr (12, [.int 0, .ref (am 1), .int 0, .int 0, .int 0, .int 0, .int 0, .int 0, .int 0, .int 0, .int 0, .int 0, .long 0, .int 0, .ref (am 2), .ref (am 3), .ref (am 4), .ref (am 5), .ref (am 6), .ref (am 7), .ref (am 8), .ref (am 9), .ref (am 10), .ref (am 11), .int 0, .int (-1), .ref (am 12), .ref (am 13), .ref (am 14), .int 0, .ref (am 15), .ref (am 16), .int 0, .int 0, .int 0, .ref (am 17), .int 0, .int 0, .ref (am 18), .ref (am 19), .int 0, .int 0, .ref (am 20), .int 0, .int 0, .int 0, .int 0])), (am 2, .inl (cy 0, 575, .inl (mi 2)))] := hD
  refine lv_aload_n hx hb dX11_pay_5 rfl (lv_at hl 0 rfl) ?_
  refine lv_iload_n hx hb dX11_pay_6 rfl (lv_at hl 1 rfl) ?_
  refine jr_i (rVr (As := [.int n0]) (rest := []) (ci := 12) ⟨hx, hb, hml, hown, hts⟩ (m_isMan l dC dI cy am mi n0 hn) (cw_X11_250 hts rfl rfl ⟨Nat.le_of_ble_eq_true rfl, Nat.le_of_ble_eq_true rfl⟩) hP hK [0, 1] rfl rfl rfl rfl hl.1 rfl (Nat.le_of_ble_eq_true rfl) dX11_pay_7 ⟨Nat.le_of_ble_eq_true rfl, Nat.le_of_ble_eq_true rfl⟩) hP hS (fun r_1 H locs hp_2 hP hS => ?_)
  refine as_i 0 hp_2 ?_
  refine lv_if_eq (tgt := 42) hx hb dX11_pay_10 (by decide) (fun _ => ?_) (fun c9 => absurd (by decide) c9)
  refine lv_iconst (v := (-1)) hx hb dX11_pay_42 (by decide) ?_
  rw [hQ9]
  exact re_i () hx hb hr hlocks rfl (hP.sub [] rfl) (hD.sub [] rfl rfl) hS dX11_pay_43
abbrev cX11_sit : ByteArray := prog_13_method_74_code
def yX11_sit : MethodName := ⟨RX11, "sit", "(I)I"⟩
theorem t1838 : Cond.code yX11_sit cX11_sit 2 (some .int) ∈ GW := gw_mem 1952 (by decide +kernel) (by decide +kernel)
theorem dX11_sit_0 : decode cX11_sit 0 = .ok (.aload_n 0, 1) := by decide +kernel
theorem dX11_sit_1 : decode cX11_sit 1 = .ok (.iconst 0, 1) := by decide +kernel
theorem dX11_sit_2 : decode cX11_sit 2 = .ok (.putfield 1, 3) := by decide +kernel
theorem dX11_sit_5 : decode cX11_sit 5 = .ok (.aload_n 0, 1) := by decide +kernel
theorem dX11_sit_6 : decode cX11_sit 6 = .ok (.iload_n 1, 1) := by decide +kernel
theorem dX11_sit_7 : decode cX11_sit 7 = .ok (.invokevirtual 250, 3) := by decide +kernel
theorem dX11_sit_10 : decode cX11_sit 10 = .ok (.ifCond .eq 14, 3) := by decide +kernel
theorem dX11_sit_24 : decode cX11_sit 24 = .ok (.iconst (-1), 1) := by decide +kernel
theorem dX11_sit_25 : decode cX11_sit 25 = .ok (.ireturn, 1) := by decide +kernel
set_option maxHeartbeats 4000000 in
set_option maxRecDepth 100000 in
theorem m_sit (l : Launch) (dC : Nat → ClassId) (dI : Nat → Nat → Nat) (cy : Nat → ClassId) (sz : Nat) (am : Nat → Nat) (mi : Nat → Nat → Int32) (n0 : Int32) (hn : NowOk (mi 2)) : Met l yX11_sit (wl yX11_sit cX11_sit 2 (some .int)) ({ frames := 2, cells := 0, slots := 0, locals := 128 }) (Pw (dC, dI) vwCl cy [(am 0, .inr (12, [.int 0, .ref (am 1), .int 0, .int 0, .int 0, .int 0, .int 0, .int 0, .int 0, .int 0, .int 0, .int 0, .long 0, .int 0, .ref (am 2), .ref (am 3), .ref (am 4), .ref (am 5), .ref (am 6), .ref (am 7), .ref (am 8), .ref (am 9), .ref (am 10), .ref (am 11), .int 0, .int (-1), .ref (am 12), .ref (am 13), .ref (am 14), .int 0, .ref (am 15), .ref (am 16), .int 0, .int 0, .int 0, .ref (am 17), .int 0, .int 0, .ref (am 18), .ref (am 19), .int 0, .int 0, .ref (am 20), .int 0, .int 0, .int 0, .int 0])), (am 2, .inl (cy 0, 575, .inl (mi 2)))] sz [.ref (am 0), .int n0] nE) (Qi (dC, dI) vwCl (fun (r : Int32) (u : Unit) => r = (-1)) (fun (u : Unit) => []) (va_A [(am 0, .inr (12, [.int 0, .ref (am 1), .int 0, .int 0, .int 0, .int 0, .int 0, .int 0, .int 0, .int 0, .int 0, .int 0, .long 0, .int 0, .ref (am 2), .ref (am 3), .ref (am 4), .ref (am 5), .ref (am 6), .ref (am 7), .ref (am 8), .ref (am 9), .ref (am 10), .ref (am 11), .int 0, .int (-1), .ref (am 12), .ref (am 13), .ref (am 14), .int 0, .ref (am 15), .ref (am 16), .int 0, .int 0, .int 0, .ref (am 17), .int 0, .int 0, .ref (am 18), .ref (am 19), .int 0, .int 0, .ref (am 20), .int 0, .int 0, .int 0, .int 0])), (am 2, .inl (cy 0, 575, .inl (mi 2)))] sz)) 0 0 (va_A [(am 0, .inr (12, [.int 0, .ref (am 1), .int 0, .int 0, .int 0, .int 0, .int 0, .int 0, .int 0, .int 0, .int 0, .int 0, .long 0, .int 0, .ref (am 2), .ref (am 3), .ref (am 4), .ref (am 5), .ref (am 6), .ref (am 7), .ref (am 8), .ref (am 9), .ref (am 10), .ref (am 11), .int 0, .int (-1), .ref (am 12), .ref (am 13), .ref (am 14), .int 0, .ref (am 15), .ref (am 16), .int 0, .int 0, .int 0, .ref (am 17), .int 0, .int 0, .ref (am 18), .ref (am 19), .int 0, .int 0, .ref (am 20), .int 0, .int 0, .int 0, .int 0])), (am 2, .inl (cy 0, 575, .inl (mi 2)))] sz) := by
  refine mw (Qc := Qi (dC, dI) vwCl (fun (r : Int32) (u : Unit) => r = (-1)) (fun (u : Unit) => [])) RX11 rfl (by decide +kernel) (Nat.le_of_ble_eq_true rfl) ?_
  intro p e s m below meth c A hx hb hr hlocks av9 hav hts hown hnm hml hK hP hD hA hS hE hAe Q9 hQ9 ls hl
  have hl : lv_has ls 2 [(0, .ref (am 0)), (1, .int n0)] := hl
  refine lv_aload_n hx hb dX11_sit_0 rfl (lv_at hl 0 rfl) ?_
  refine lv_iconst (v := 0) hx hb dX11_sit_1 (by decide) ?_
  refine pf_X11_1 hx hb hts hown hK hP hD hS 0 rfl rfl rfl (Nat.le_of_ble_eq_true rfl) dX11_sit_2 (fun H locs hP hD hS => ?_)
  have hP : va_P (dC, dI) vwCl [(am 0, .inr (12, [.int 0, .ref (am 1), .int 0, .int 0, .int 0, .int 0, .int 0, .int 0, .int 0, .int 0, .int 0, .int 0, .long 0, .int 0, .ref (am 2), .ref (am 3), .ref (am 4), .ref (am 5), .ref (am 6), .ref (am 7), .ref (am 8), .ref (am 9), .ref (am 10), .ref (am 11), .int 0, .int (-1), .ref (am 12), .ref (am 13), .ref (am 14), .int 0, .ref (am 15), .ref (am 16), .int 0, .int 0, .int 0, .ref (am 17), .int 0, .int 0, .ref (am 18), .ref (am 19), .int 0, .int 0, .ref (am 20), .int 0, .int 0, .int 0, .int 0])), (am 2, .inl (cy 0, 575, .inl (mi 2)))] H := hP
  have hD : va_D A [(am 0, .inr (12, [.int 0, .ref (am 1), .int 0, .int 0, .int 0, .int 0, .int 0, .int 0, .int 0, .int 0, .int 0, .int 0, .long 0, .int 0, .ref (am 2), .ref (am 3), .ref (am 4), .ref (am 5), .ref (am 6), .ref (am 7), .ref (am 8), .ref (am 9), .ref (am 10), .ref (am 11), .int 0, .int (-1), .ref (am 12), .ref (am 13), .ref (am 14), .int 0, .ref (am 15), .ref (am 16), .int 0, .int 0, .int 0, .ref (am 17), .int 0, .int 0, .ref (am 18), .ref (am 19), .int 0, .int 0, .ref (am 20), .int 0, .int 0, .int 0, .int 0])), (am 2, .inl (cy 0, 575, .inl (mi 2)))] := hD
  refine lv_aload_n hx hb dX11_sit_5 rfl (lv_at hl 0 rfl) ?_
  refine lv_iload_n hx hb dX11_sit_6 rfl (lv_at hl 1 rfl) ?_
  refine jr_i (rVr (As := [.int n0]) (rest := []) (ci := 12) ⟨hx, hb, hml, hown, hts⟩ (m_isMan l dC dI cy am mi n0 hn) (cw_X11_250 hts rfl rfl ⟨Nat.le_of_ble_eq_true rfl, Nat.le_of_ble_eq_true rfl⟩) hP hK [0, 1] rfl rfl rfl rfl hl.1 rfl (Nat.le_of_ble_eq_true rfl) dX11_sit_7 ⟨Nat.le_of_ble_eq_true rfl, Nat.le_of_ble_eq_true rfl⟩) hP hS (fun r_1 H locs hp_2 hP hS => ?_)
  refine as_i 0 hp_2 ?_
  refine lv_if_eq (tgt := 24) hx hb dX11_sit_10 (by decide) (fun _ => ?_) (fun c9 => absurd (by decide) c9)
  refine lv_iconst (v := (-1)) hx hb dX11_sit_24 (by decide) ?_
  rw [hQ9]
  exact re_i () hx hb hr hlocks rfl (hP.sub [] rfl) (hD.sub [] rfl rfl) hS dX11_sit_25
abbrev cX11_family : ByteArray := prog_13_method_79_code
def yX11_family : MethodName := ⟨RX11, "family", "(I)I"⟩
theorem t1861 : Cond.code yX11_family cX11_family 5 (some .int) ∈ GW := gw_mem 1975 (by decide +kernel) (by decide +kernel)
theorem dX11_family_0 : decode cX11_family 0 = .ok (.aload_n 0, 1) := by decide +kernel
theorem dX11_family_1 : decode cX11_family 1 = .ok (.iconst 0, 1) := by decide +kernel
theorem dX11_family_2 : decode cX11_family 2 = .ok (.putfield 1, 3) := by decide +kernel
theorem dX11_family_5 : decode cX11_family 5 = .ok (.aload_n 0, 1) := by decide +kernel
theorem dX11_family_6 : decode cX11_family 6 = .ok (.iload_n 1, 1) := by decide +kernel
theorem dX11_family_7 : decode cX11_family 7 = .ok (.invokevirtual 250, 3) := by decide +kernel
theorem dX11_family_10 : decode cX11_family 10 = .ok (.ifCond .ne 5, 3) := by decide +kernel
theorem dX11_family_13 : decode cX11_family 13 = .ok (.iconst (-1), 1) := by decide +kernel
theorem dX11_family_14 : decode cX11_family 14 = .ok (.ireturn, 1) := by decide +kernel
set_option maxHeartbeats 4000000 in
set_option maxRecDepth 100000 in
theorem m_family (l : Launch) (dC : Nat → ClassId) (dI : Nat → Nat → Nat) (cy : Nat → ClassId) (sz : Nat) (am : Nat → Nat) (mi : Nat → Nat → Int32) (n0 : Int32) (hn : NowOk (mi 2)) : Met l yX11_family (wl yX11_family cX11_family 5 (some .int)) ({ frames := 2, cells := 0, slots := 0, locals := 128 }) (Pw (dC, dI) vwCl cy [(am 0, .inr (12, [.int 0, .ref (am 1), .int 0, .int 0, .int 0, .int 0, .int 0, .int 0, .int 0, .int 0, .int 0, .int 0, .long 0, .int 0, .ref (am 2), .ref (am 3), .ref (am 4), .ref (am 5), .ref (am 6), .ref (am 7), .ref (am 8), .ref (am 9), .ref (am 10), .ref (am 11), .int 0, .int (-1), .ref (am 12), .ref (am 13), .ref (am 14), .int 0, .ref (am 15), .ref (am 16), .int 0, .int 0, .int 0, .ref (am 17), .int 0, .int 0, .ref (am 18), .ref (am 19), .int 0, .int 0, .ref (am 20), .int 0, .int 0, .int 0, .int 0])), (am 2, .inl (cy 0, 575, .inl (mi 2)))] sz [.ref (am 0), .int n0] nE) (Qi (dC, dI) vwCl (fun (r : Int32) (u : Unit) => r = (-1)) (fun (u : Unit) => []) (va_A [(am 0, .inr (12, [.int 0, .ref (am 1), .int 0, .int 0, .int 0, .int 0, .int 0, .int 0, .int 0, .int 0, .int 0, .int 0, .long 0, .int 0, .ref (am 2), .ref (am 3), .ref (am 4), .ref (am 5), .ref (am 6), .ref (am 7), .ref (am 8), .ref (am 9), .ref (am 10), .ref (am 11), .int 0, .int (-1), .ref (am 12), .ref (am 13), .ref (am 14), .int 0, .ref (am 15), .ref (am 16), .int 0, .int 0, .int 0, .ref (am 17), .int 0, .int 0, .ref (am 18), .ref (am 19), .int 0, .int 0, .ref (am 20), .int 0, .int 0, .int 0, .int 0])), (am 2, .inl (cy 0, 575, .inl (mi 2)))] sz)) 0 0 (va_A [(am 0, .inr (12, [.int 0, .ref (am 1), .int 0, .int 0, .int 0, .int 0, .int 0, .int 0, .int 0, .int 0, .int 0, .int 0, .long 0, .int 0, .ref (am 2), .ref (am 3), .ref (am 4), .ref (am 5), .ref (am 6), .ref (am 7), .ref (am 8), .ref (am 9), .ref (am 10), .ref (am 11), .int 0, .int (-1), .ref (am 12), .ref (am 13), .ref (am 14), .int 0, .ref (am 15), .ref (am 16), .int 0, .int 0, .int 0, .ref (am 17), .int 0, .int 0, .ref (am 18), .ref (am 19), .int 0, .int 0, .ref (am 20), .int 0, .int 0, .int 0, .int 0])), (am 2, .inl (cy 0, 575, .inl (mi 2)))] sz) := by
  refine mw (Qc := Qi (dC, dI) vwCl (fun (r : Int32) (u : Unit) => r = (-1)) (fun (u : Unit) => [])) RX11 rfl (by decide +kernel) (Nat.le_of_ble_eq_true rfl) ?_
  intro p e s m below meth c A hx hb hr hlocks av9 hav hts hown hnm hml hK hP hD hA hS hE hAe Q9 hQ9 ls hl
  have hl : lv_has ls 5 [(0, .ref (am 0)), (1, .int n0)] := hl
  refine lv_aload_n hx hb dX11_family_0 rfl (lv_at hl 0 rfl) ?_
  refine lv_iconst (v := 0) hx hb dX11_family_1 (by decide) ?_
  refine pf_X11_1 hx hb hts hown hK hP hD hS 0 rfl rfl rfl (Nat.le_of_ble_eq_true rfl) dX11_family_2 (fun H locs hP hD hS => ?_)
  have hP : va_P (dC, dI) vwCl [(am 0, .inr (12, [.int 0, .ref (am 1), .int 0, .int 0, .int 0, .int 0, .int 0, .int 0, .int 0, .int 0, .int 0, .int 0, .long 0, .int 0, .ref (am 2), .ref (am 3), .ref (am 4), .ref (am 5), .ref (am 6), .ref (am 7), .ref (am 8), .ref (am 9), .ref (am 10), .ref (am 11), .int 0, .int (-1), .ref (am 12), .ref (am 13), .ref (am 14), .int 0, .ref (am 15), .ref (am 16), .int 0, .int 0, .int 0, .ref (am 17), .int 0, .int 0, .ref (am 18), .ref (am 19), .int 0, .int 0, .ref (am 20), .int 0, .int 0, .int 0, .int 0])), (am 2, .inl (cy 0, 575, .inl (mi 2)))] H := hP
  have hD : va_D A [(am 0, .inr (12, [.int 0, .ref (am 1), .int 0, .int 0, .int 0, .int 0, .int 0, .int 0, .int 0, .int 0, .int 0, .int 0, .long 0, .int 0, .ref (am 2), .ref (am 3), .ref (am 4), .ref (am 5), .ref (am 6), .ref (am 7), .ref (am 8), .ref (am 9), .ref (am 10), .ref (am 11), .int 0, .int (-1), .ref (am 12), .ref (am 13), .ref (am 14), .int 0, .ref (am 15), .ref (am 16), .int 0, .int 0, .int 0, .ref (am 17), .int 0, .int 0, .ref (am 18), .ref (am 19), .int 0, .int 0, .ref (am 20), .int 0, .int 0, .int 0, .int 0])), (am 2, .inl (cy 0, 575, .inl (mi 2)))] := hD
  refine lv_aload_n hx hb dX11_family_5 rfl (lv_at hl 0 rfl) ?_
  refine lv_iload_n hx hb dX11_family_6 rfl (lv_at hl 1 rfl) ?_
  refine jr_i (rVr (As := [.int n0]) (rest := []) (ci := 12) ⟨hx, hb, hml, hown, hts⟩ (m_isMan l dC dI cy am mi n0 hn) (cw_X11_250 hts rfl rfl ⟨Nat.le_of_ble_eq_true rfl, Nat.le_of_ble_eq_true rfl⟩) hP hK [0, 1] rfl rfl rfl rfl hl.1 rfl (Nat.le_of_ble_eq_true rfl) dX11_family_7 ⟨Nat.le_of_ble_eq_true rfl, Nat.le_of_ble_eq_true rfl⟩) hP hS (fun r_1 H locs hp_2 hP hS => ?_)
  refine as_i 0 hp_2 ?_
  refine lv_if_ne (tgt := 15) hx hb dX11_family_10 (by decide) (fun c9 => absurd c9 (by decide)) (fun _ => ?_)
  refine lv_iconst (v := (-1)) hx hb dX11_family_13 (by decide) ?_
  rw [hQ9]
  exact re_i () hx hb hr hlocks rfl (hP.sub [] rfl) (hD.sub [] rfl rfl) hS dX11_family_14
abbrev cX11_help : ByteArray := prog_13_method_83_code
def yX11_help : MethodName := ⟨RX11, "help", "(I)I"⟩
theorem t1873 : Cond.code yX11_help cX11_help 7 (some .int) ∈ GW := gw_mem 1987 (by decide +kernel) (by decide +kernel)
theorem dX11_help_0 : decode cX11_help 0 = .ok (.aload_n 0, 1) := by decide +kernel
theorem dX11_help_1 : decode cX11_help 1 = .ok (.iconst 0, 1) := by decide +kernel
theorem dX11_help_2 : decode cX11_help 2 = .ok (.putfield 1, 3) := by decide +kernel
theorem dX11_help_5 : decode cX11_help 5 = .ok (.aload_n 0, 1) := by decide +kernel
theorem dX11_help_6 : decode cX11_help 6 = .ok (.iload_n 1, 1) := by decide +kernel
theorem dX11_help_7 : decode cX11_help 7 = .ok (.invokevirtual 250, 3) := by decide +kernel
theorem dX11_help_10 : decode cX11_help 10 = .ok (.ifCond .ne 5, 3) := by decide +kernel
theorem dX11_help_13 : decode cX11_help 13 = .ok (.iconst (-1), 1) := by decide +kernel
theorem dX11_help_14 : decode cX11_help 14 = .ok (.ireturn, 1) := by decide +kernel
set_option maxHeartbeats 4000000 in
set_option maxRecDepth 100000 in
theorem m_help (l : Launch) (dC : Nat → ClassId) (dI : Nat → Nat → Nat) (cy : Nat → ClassId) (sz : Nat) (am : Nat → Nat) (mi : Nat → Nat → Int32) (n0 : Int32) (hn : NowOk (mi 2)) : Met l yX11_help (wl yX11_help cX11_help 7 (some .int)) ({ frames := 2, cells := 0, slots := 0, locals := 128 }) (Pw (dC, dI) vwCl cy [(am 0, .inr (12, [.int 0, .ref (am 1), .int 0, .int 0, .int 0, .int 0, .int 0, .int 0, .int 0, .int 0, .int 0, .int 0, .long 0, .int 0, .ref (am 2), .ref (am 3), .ref (am 4), .ref (am 5), .ref (am 6), .ref (am 7), .ref (am 8), .ref (am 9), .ref (am 10), .ref (am 11), .int 0, .int (-1), .ref (am 12), .ref (am 13), .ref (am 14), .int 0, .ref (am 15), .ref (am 16), .int 0, .int 0, .int 0, .ref (am 17), .int 0, .int 0, .ref (am 18), .ref (am 19), .int 0, .int 0, .ref (am 20), .int 0, .int 0, .int 0, .int 0])), (am 2, .inl (cy 0, 575, .inl (mi 2)))] sz [.ref (am 0), .int n0] nE) (Qi (dC, dI) vwCl (fun (r : Int32) (u : Unit) => r = (-1)) (fun (u : Unit) => []) (va_A [(am 0, .inr (12, [.int 0, .ref (am 1), .int 0, .int 0, .int 0, .int 0, .int 0, .int 0, .int 0, .int 0, .int 0, .int 0, .long 0, .int 0, .ref (am 2), .ref (am 3), .ref (am 4), .ref (am 5), .ref (am 6), .ref (am 7), .ref (am 8), .ref (am 9), .ref (am 10), .ref (am 11), .int 0, .int (-1), .ref (am 12), .ref (am 13), .ref (am 14), .int 0, .ref (am 15), .ref (am 16), .int 0, .int 0, .int 0, .ref (am 17), .int 0, .int 0, .ref (am 18), .ref (am 19), .int 0, .int 0, .ref (am 20), .int 0, .int 0, .int 0, .int 0])), (am 2, .inl (cy 0, 575, .inl (mi 2)))] sz)) 0 0 (va_A [(am 0, .inr (12, [.int 0, .ref (am 1), .int 0, .int 0, .int 0, .int 0, .int 0, .int 0, .int 0, .int 0, .int 0, .int 0, .long 0, .int 0, .ref (am 2), .ref (am 3), .ref (am 4), .ref (am 5), .ref (am 6), .ref (am 7), .ref (am 8), .ref (am 9), .ref (am 10), .ref (am 11), .int 0, .int (-1), .ref (am 12), .ref (am 13), .ref (am 14), .int 0, .ref (am 15), .ref (am 16), .int 0, .int 0, .int 0, .ref (am 17), .int 0, .int 0, .ref (am 18), .ref (am 19), .int 0, .int 0, .ref (am 20), .int 0, .int 0, .int 0, .int 0])), (am 2, .inl (cy 0, 575, .inl (mi 2)))] sz) := by
  refine mw (Qc := Qi (dC, dI) vwCl (fun (r : Int32) (u : Unit) => r = (-1)) (fun (u : Unit) => [])) RX11 rfl (by decide +kernel) (Nat.le_of_ble_eq_true rfl) ?_
  intro p e s m below meth c A hx hb hr hlocks av9 hav hts hown hnm hml hK hP hD hA hS hE hAe Q9 hQ9 ls hl
  have hl : lv_has ls 7 [(0, .ref (am 0)), (1, .int n0)] := hl
  refine lv_aload_n hx hb dX11_help_0 rfl (lv_at hl 0 rfl) ?_
  refine lv_iconst (v := 0) hx hb dX11_help_1 (by decide) ?_
  refine pf_X11_1 hx hb hts hown hK hP hD hS 0 rfl rfl rfl (Nat.le_of_ble_eq_true rfl) dX11_help_2 (fun H locs hP hD hS => ?_)
  have hP : va_P (dC, dI) vwCl [(am 0, .inr (12, [.int 0, .ref (am 1), .int 0, .int 0, .int 0, .int 0, .int 0, .int 0, .int 0, .int 0, .int 0, .int 0, .long 0, .int 0, .ref (am 2), .ref (am 3), .ref (am 4), .ref (am 5), .ref (am 6), .ref (am 7), .ref (am 8), .ref (am 9), .ref (am 10), .ref (am 11), .int 0, .int (-1), .ref (am 12), .ref (am 13), .ref (am 14), .int 0, .ref (am 15), .ref (am 16), .int 0, .int 0, .int 0, .ref (am 17), .int 0, .int 0, .ref (am 18), .ref (am 19), .int 0, .int 0, .ref (am 20), .int 0, .int 0, .int 0, .int 0])), (am 2, .inl (cy 0, 575, .inl (mi 2)))] H := hP
  have hD : va_D A [(am 0, .inr (12, [.int 0, .ref (am 1), .int 0, .int 0, .int 0, .int 0, .int 0, .int 0, .int 0, .int 0, .int 0, .int 0, .long 0, .int 0, .ref (am 2), .ref (am 3), .ref (am 4), .ref (am 5), .ref (am 6), .ref (am 7), .ref (am 8), .ref (am 9), .ref (am 10), .ref (am 11), .int 0, .int (-1), .ref (am 12), .ref (am 13), .ref (am 14), .int 0, .ref (am 15), .ref (am 16), .int 0, .int 0, .int 0, .ref (am 17), .int 0, .int 0, .ref (am 18), .ref (am 19), .int 0, .int 0, .ref (am 20), .int 0, .int 0, .int 0, .int 0])), (am 2, .inl (cy 0, 575, .inl (mi 2)))] := hD
  refine lv_aload_n hx hb dX11_help_5 rfl (lv_at hl 0 rfl) ?_
  refine lv_iload_n hx hb dX11_help_6 rfl (lv_at hl 1 rfl) ?_
  refine jr_i (rVr (As := [.int n0]) (rest := []) (ci := 12) ⟨hx, hb, hml, hown, hts⟩ (m_isMan l dC dI cy am mi n0 hn) (cw_X11_250 hts rfl rfl ⟨Nat.le_of_ble_eq_true rfl, Nat.le_of_ble_eq_true rfl⟩) hP hK [0, 1] rfl rfl rfl rfl hl.1 rfl (Nat.le_of_ble_eq_true rfl) dX11_help_7 ⟨Nat.le_of_ble_eq_true rfl, Nat.le_of_ble_eq_true rfl⟩) hP hS (fun r_1 H locs hp_2 hP hS => ?_)
  refine as_i 0 hp_2 ?_
  refine lv_if_ne (tgt := 15) hx hb dX11_help_10 (by decide) (fun c9 => absurd c9 (by decide)) (fun _ => ?_)
  refine lv_iconst (v := (-1)) hx hb dX11_help_13 (by decide) ?_
  rw [hQ9]
  exact re_i () hx hb hr hlocks rfl (hP.sub [] rfl) (hD.sub [] rfl rfl) hS dX11_help_14
abbrev cX11_career : ByteArray := prog_13_method_91_code
def yX11_career : MethodName := ⟨RX11, "career", "(II)I"⟩
theorem t1909 : Cond.code yX11_career cX11_career 3 (some .int) ∈ GW := gw_mem 2023 (by decide +kernel) (by decide +kernel)
theorem dX11_career_0 : decode cX11_career 0 = .ok (.aload_n 0, 1) := by decide +kernel
theorem dX11_career_1 : decode cX11_career 1 = .ok (.iconst 0, 1) := by decide +kernel
theorem dX11_career_2 : decode cX11_career 2 = .ok (.putfield 1, 3) := by decide +kernel
theorem dX11_career_5 : decode cX11_career 5 = .ok (.aload_n 0, 1) := by decide +kernel
theorem dX11_career_6 : decode cX11_career 6 = .ok (.iload_n 1, 1) := by decide +kernel
theorem dX11_career_7 : decode cX11_career 7 = .ok (.invokevirtual 250, 3) := by decide +kernel
theorem dX11_career_10 : decode cX11_career 10 = .ok (.ifCond .eq 27, 3) := by decide +kernel
theorem dX11_career_37 : decode cX11_career 37 = .ok (.iconst (-1), 1) := by decide +kernel
theorem dX11_career_38 : decode cX11_career 38 = .ok (.ireturn, 1) := by decide +kernel
set_option maxHeartbeats 4000000 in
set_option maxRecDepth 100000 in
theorem m_career (l : Launch) (dC : Nat → ClassId) (dI : Nat → Nat → Nat) (cy : Nat → ClassId) (sz : Nat) (am : Nat → Nat) (mi : Nat → Nat → Int32) (n0 : Int32) (n1 : Int32) (hn : NowOk (mi 2)) : Met l yX11_career (wl yX11_career cX11_career 3 (some .int)) ({ frames := 2, cells := 0, slots := 0, locals := 128 }) (Pw (dC, dI) vwCl cy [(am 0, .inr (12, [.int 0, .ref (am 1), .int 0, .int 0, .int 0, .int 0, .int 0, .int 0, .int 0, .int 0, .int 0, .int 0, .long 0, .int 0, .ref (am 2), .ref (am 3), .ref (am 4), .ref (am 5), .ref (am 6), .ref (am 7), .ref (am 8), .ref (am 9), .ref (am 10), .ref (am 11), .int 0, .int (-1), .ref (am 12), .ref (am 13), .ref (am 14), .int 0, .ref (am 15), .ref (am 16), .int 0, .int 0, .int 0, .ref (am 17), .int 0, .int 0, .ref (am 18), .ref (am 19), .int 0, .int 0, .ref (am 20), .int 0, .int 0, .int 0, .int 0])), (am 2, .inl (cy 0, 575, .inl (mi 2)))] sz [.ref (am 0), .int n0, .int n1] nE) (Qi (dC, dI) vwCl (fun (r : Int32) (u : Unit) => r = (-1)) (fun (u : Unit) => []) (va_A [(am 0, .inr (12, [.int 0, .ref (am 1), .int 0, .int 0, .int 0, .int 0, .int 0, .int 0, .int 0, .int 0, .int 0, .int 0, .long 0, .int 0, .ref (am 2), .ref (am 3), .ref (am 4), .ref (am 5), .ref (am 6), .ref (am 7), .ref (am 8), .ref (am 9), .ref (am 10), .ref (am 11), .int 0, .int (-1), .ref (am 12), .ref (am 13), .ref (am 14), .int 0, .ref (am 15), .ref (am 16), .int 0, .int 0, .int 0, .ref (am 17), .int 0, .int 0, .ref (am 18), .ref (am 19), .int 0, .int 0, .ref (am 20), .int 0, .int 0, .int 0, .int 0])), (am 2, .inl (cy 0, 575, .inl (mi 2)))] sz)) 0 0 (va_A [(am 0, .inr (12, [.int 0, .ref (am 1), .int 0, .int 0, .int 0, .int 0, .int 0, .int 0, .int 0, .int 0, .int 0, .int 0, .long 0, .int 0, .ref (am 2), .ref (am 3), .ref (am 4), .ref (am 5), .ref (am 6), .ref (am 7), .ref (am 8), .ref (am 9), .ref (am 10), .ref (am 11), .int 0, .int (-1), .ref (am 12), .ref (am 13), .ref (am 14), .int 0, .ref (am 15), .ref (am 16), .int 0, .int 0, .int 0, .ref (am 17), .int 0, .int 0, .ref (am 18), .ref (am 19), .int 0, .int 0, .ref (am 20), .int 0, .int 0, .int 0, .int 0])), (am 2, .inl (cy 0, 575, .inl (mi 2)))] sz) := by
  refine mw (Qc := Qi (dC, dI) vwCl (fun (r : Int32) (u : Unit) => r = (-1)) (fun (u : Unit) => [])) RX11 rfl (by decide +kernel) (Nat.le_of_ble_eq_true rfl) ?_
  intro p e s m below meth c A hx hb hr hlocks av9 hav hts hown hnm hml hK hP hD hA hS hE hAe Q9 hQ9 ls hl
  have hl : lv_has ls 3 [(0, .ref (am 0)), (1, .int n0), (2, .int n1)] := hl
  refine lv_aload_n hx hb dX11_career_0 rfl (lv_at hl 0 rfl) ?_
  refine lv_iconst (v := 0) hx hb dX11_career_1 (by decide) ?_
  refine pf_X11_1 hx hb hts hown hK hP hD hS 0 rfl rfl rfl (Nat.le_of_ble_eq_true rfl) dX11_career_2 (fun H locs hP hD hS => ?_)
  have hP : va_P (dC, dI) vwCl [(am 0, .inr (12, [.int 0, .ref (am 1), .int 0, .int 0, .int 0, .int 0, .int 0, .int 0, .int 0, .int 0, .int 0, .int 0, .long 0, .int 0, .ref (am 2), .ref (am 3), .ref (am 4), .ref (am 5), .ref (am 6), .ref (am 7), .ref (am 8), .ref (am 9), .ref (am 10), .ref (am 11), .int 0, .int (-1), .ref (am 12), .ref (am 13), .ref (am 14), .int 0, .ref (am 15), .ref (am 16), .int 0, .int 0, .int 0, .ref (am 17), .int 0, .int 0, .ref (am 18), .ref (am 19), .int 0, .int 0, .ref (am 20), .int 0, .int 0, .int 0, .int 0])), (am 2, .inl (cy 0, 575, .inl (mi 2)))] H := hP
  have hD : va_D A [(am 0, .inr (12, [.int 0, .ref (am 1), .int 0, .int 0, .int 0, .int 0, .int 0, .int 0, .int 0, .int 0, .int 0, .int 0, .long 0, .int 0, .ref (am 2), .ref (am 3), .ref (am 4), .ref (am 5), .ref (am 6), .ref (am 7), .ref (am 8), .ref (am 9), .ref (am 10), .ref (am 11), .int 0, .int (-1), .ref (am 12), .ref (am 13), .ref (am 14), .int 0, .ref (am 15), .ref (am 16), .int 0, .int 0, .int 0, .ref (am 17), .int 0, .int 0, .ref (am 18), .ref (am 19), .int 0, .int 0, .ref (am 20), .int 0, .int 0, .int 0, .int 0])), (am 2, .inl (cy 0, 575, .inl (mi 2)))] := hD
  refine lv_aload_n hx hb dX11_career_5 rfl (lv_at hl 0 rfl) ?_
  refine lv_iload_n hx hb dX11_career_6 rfl (lv_at hl 1 rfl) ?_
  refine jr_i (rVr (As := [.int n0]) (rest := []) (ci := 12) ⟨hx, hb, hml, hown, hts⟩ (m_isMan l dC dI cy am mi n0 hn) (cw_X11_250 hts rfl rfl ⟨Nat.le_of_ble_eq_true rfl, Nat.le_of_ble_eq_true rfl⟩) hP hK [0, 1] rfl rfl rfl rfl hl.1 rfl (Nat.le_of_ble_eq_true rfl) dX11_career_7 ⟨Nat.le_of_ble_eq_true rfl, Nat.le_of_ble_eq_true rfl⟩) hP hS (fun r_1 H locs hp_2 hP hS => ?_)
  refine as_i 0 hp_2 ?_
  refine lv_if_eq (tgt := 37) hx hb dX11_career_10 (by decide) (fun _ => ?_) (fun c9 => absurd (by decide) c9)
  refine lv_iconst (v := (-1)) hx hb dX11_career_37 (by decide) ?_
  rw [hQ9]
  exact re_i () hx hb hr hlocks rfl (hP.sub [] rfl) (hD.sub [] rfl rfl) hS dX11_career_38
abbrev cX11_hide : ByteArray := prog_13_method_93_code
def yX11_hide : MethodName := ⟨RX11, "hide", "(I)I"⟩
theorem t1921 : Cond.code yX11_hide cX11_hide 7 (some .int) ∈ GW := gw_mem 2035 (by decide +kernel) (by decide +kernel)
theorem dX11_hide_0 : decode cX11_hide 0 = .ok (.aload_n 0, 1) := by decide +kernel
theorem dX11_hide_1 : decode cX11_hide 1 = .ok (.iconst 0, 1) := by decide +kernel
theorem dX11_hide_2 : decode cX11_hide 2 = .ok (.putfield 1, 3) := by decide +kernel
theorem dX11_hide_5 : decode cX11_hide 5 = .ok (.aload_n 0, 1) := by decide +kernel
theorem dX11_hide_6 : decode cX11_hide 6 = .ok (.iload_n 1, 1) := by decide +kernel
theorem dX11_hide_7 : decode cX11_hide 7 = .ok (.invokevirtual 250, 3) := by decide +kernel
theorem dX11_hide_10 : decode cX11_hide 10 = .ok (.ifCond .ne 5, 3) := by decide +kernel
theorem dX11_hide_13 : decode cX11_hide 13 = .ok (.iconst (-1), 1) := by decide +kernel
theorem dX11_hide_14 : decode cX11_hide 14 = .ok (.ireturn, 1) := by decide +kernel
set_option maxHeartbeats 4000000 in
set_option maxRecDepth 100000 in
theorem m_hide (l : Launch) (dC : Nat → ClassId) (dI : Nat → Nat → Nat) (cy : Nat → ClassId) (sz : Nat) (am : Nat → Nat) (mi : Nat → Nat → Int32) (n0 : Int32) (hn : NowOk (mi 2)) : Met l yX11_hide (wl yX11_hide cX11_hide 7 (some .int)) ({ frames := 2, cells := 0, slots := 0, locals := 128 }) (Pw (dC, dI) vwCl cy [(am 0, .inr (12, [.int 0, .ref (am 1), .int 0, .int 0, .int 0, .int 0, .int 0, .int 0, .int 0, .int 0, .int 0, .int 0, .long 0, .int 0, .ref (am 2), .ref (am 3), .ref (am 4), .ref (am 5), .ref (am 6), .ref (am 7), .ref (am 8), .ref (am 9), .ref (am 10), .ref (am 11), .int 0, .int (-1), .ref (am 12), .ref (am 13), .ref (am 14), .int 0, .ref (am 15), .ref (am 16), .int 0, .int 0, .int 0, .ref (am 17), .int 0, .int 0, .ref (am 18), .ref (am 19), .int 0, .int 0, .ref (am 20), .int 0, .int 0, .int 0, .int 0])), (am 2, .inl (cy 0, 575, .inl (mi 2)))] sz [.ref (am 0), .int n0] nE) (Qi (dC, dI) vwCl (fun (r : Int32) (u : Unit) => r = (-1)) (fun (u : Unit) => []) (va_A [(am 0, .inr (12, [.int 0, .ref (am 1), .int 0, .int 0, .int 0, .int 0, .int 0, .int 0, .int 0, .int 0, .int 0, .int 0, .long 0, .int 0, .ref (am 2), .ref (am 3), .ref (am 4), .ref (am 5), .ref (am 6), .ref (am 7), .ref (am 8), .ref (am 9), .ref (am 10), .ref (am 11), .int 0, .int (-1), .ref (am 12), .ref (am 13), .ref (am 14), .int 0, .ref (am 15), .ref (am 16), .int 0, .int 0, .int 0, .ref (am 17), .int 0, .int 0, .ref (am 18), .ref (am 19), .int 0, .int 0, .ref (am 20), .int 0, .int 0, .int 0, .int 0])), (am 2, .inl (cy 0, 575, .inl (mi 2)))] sz)) 0 0 (va_A [(am 0, .inr (12, [.int 0, .ref (am 1), .int 0, .int 0, .int 0, .int 0, .int 0, .int 0, .int 0, .int 0, .int 0, .int 0, .long 0, .int 0, .ref (am 2), .ref (am 3), .ref (am 4), .ref (am 5), .ref (am 6), .ref (am 7), .ref (am 8), .ref (am 9), .ref (am 10), .ref (am 11), .int 0, .int (-1), .ref (am 12), .ref (am 13), .ref (am 14), .int 0, .ref (am 15), .ref (am 16), .int 0, .int 0, .int 0, .ref (am 17), .int 0, .int 0, .ref (am 18), .ref (am 19), .int 0, .int 0, .ref (am 20), .int 0, .int 0, .int 0, .int 0])), (am 2, .inl (cy 0, 575, .inl (mi 2)))] sz) := by
  refine mw (Qc := Qi (dC, dI) vwCl (fun (r : Int32) (u : Unit) => r = (-1)) (fun (u : Unit) => [])) RX11 rfl (by decide +kernel) (Nat.le_of_ble_eq_true rfl) ?_
  intro p e s m below meth c A hx hb hr hlocks av9 hav hts hown hnm hml hK hP hD hA hS hE hAe Q9 hQ9 ls hl
  have hl : lv_has ls 7 [(0, .ref (am 0)), (1, .int n0)] := hl
  refine lv_aload_n hx hb dX11_hide_0 rfl (lv_at hl 0 rfl) ?_
  refine lv_iconst (v := 0) hx hb dX11_hide_1 (by decide) ?_
  refine pf_X11_1 hx hb hts hown hK hP hD hS 0 rfl rfl rfl (Nat.le_of_ble_eq_true rfl) dX11_hide_2 (fun H locs hP hD hS => ?_)
  have hP : va_P (dC, dI) vwCl [(am 0, .inr (12, [.int 0, .ref (am 1), .int 0, .int 0, .int 0, .int 0, .int 0, .int 0, .int 0, .int 0, .int 0, .int 0, .long 0, .int 0, .ref (am 2), .ref (am 3), .ref (am 4), .ref (am 5), .ref (am 6), .ref (am 7), .ref (am 8), .ref (am 9), .ref (am 10), .ref (am 11), .int 0, .int (-1), .ref (am 12), .ref (am 13), .ref (am 14), .int 0, .ref (am 15), .ref (am 16), .int 0, .int 0, .int 0, .ref (am 17), .int 0, .int 0, .ref (am 18), .ref (am 19), .int 0, .int 0, .ref (am 20), .int 0, .int 0, .int 0, .int 0])), (am 2, .inl (cy 0, 575, .inl (mi 2)))] H := hP
  have hD : va_D A [(am 0, .inr (12, [.int 0, .ref (am 1), .int 0, .int 0, .int 0, .int 0, .int 0, .int 0, .int 0, .int 0, .int 0, .int 0, .long 0, .int 0, .ref (am 2), .ref (am 3), .ref (am 4), .ref (am 5), .ref (am 6), .ref (am 7), .ref (am 8), .ref (am 9), .ref (am 10), .ref (am 11), .int 0, .int (-1), .ref (am 12), .ref (am 13), .ref (am 14), .int 0, .ref (am 15), .ref (am 16), .int 0, .int 0, .int 0, .ref (am 17), .int 0, .int 0, .ref (am 18), .ref (am 19), .int 0, .int 0, .ref (am 20), .int 0, .int 0, .int 0, .int 0])), (am 2, .inl (cy 0, 575, .inl (mi 2)))] := hD
  refine lv_aload_n hx hb dX11_hide_5 rfl (lv_at hl 0 rfl) ?_
  refine lv_iload_n hx hb dX11_hide_6 rfl (lv_at hl 1 rfl) ?_
  refine jr_i (rVr (As := [.int n0]) (rest := []) (ci := 12) ⟨hx, hb, hml, hown, hts⟩ (m_isMan l dC dI cy am mi n0 hn) (cw_X11_250 hts rfl rfl ⟨Nat.le_of_ble_eq_true rfl, Nat.le_of_ble_eq_true rfl⟩) hP hK [0, 1] rfl rfl rfl rfl hl.1 rfl (Nat.le_of_ble_eq_true rfl) dX11_hide_7 ⟨Nat.le_of_ble_eq_true rfl, Nat.le_of_ble_eq_true rfl⟩) hP hS (fun r_1 H locs hp_2 hP hS => ?_)
  refine as_i 0 hp_2 ?_
  refine lv_if_ne (tgt := 15) hx hb dX11_hide_10 (by decide) (fun c9 => absurd c9 (by decide)) (fun _ => ?_)
  refine lv_iconst (v := (-1)) hx hb dX11_hide_13 (by decide) ?_
  rw [hQ9]
  exact re_i () hx hb hr hlocks rfl (hP.sub [] rfl) (hD.sub [] rfl rfl) hS dX11_hide_14
abbrev cX11_caption : ByteArray := prog_13_method_99_code
def yX11_caption : MethodName := ⟨RX11, "caption", "(I)I"⟩
theorem t1929 : Cond.code yX11_caption cX11_caption 2 (some .int) ∈ GW := gw_mem 2043 (by decide +kernel) (by decide +kernel)
theorem dX11_caption_0 : decode cX11_caption 0 = .ok (.aload_n 0, 1) := by decide +kernel
theorem dX11_caption_1 : decode cX11_caption 1 = .ok (.iconst 0, 1) := by decide +kernel
theorem dX11_caption_2 : decode cX11_caption 2 = .ok (.putfield 1, 3) := by decide +kernel
theorem dX11_caption_5 : decode cX11_caption 5 = .ok (.aload_n 0, 1) := by decide +kernel
theorem dX11_caption_6 : decode cX11_caption 6 = .ok (.iload_n 1, 1) := by decide +kernel
theorem dX11_caption_7 : decode cX11_caption 7 = .ok (.invokevirtual 250, 3) := by decide +kernel
theorem dX11_caption_10 : decode cX11_caption 10 = .ok (.ifCond .ne 5, 3) := by decide +kernel
theorem dX11_caption_13 : decode cX11_caption 13 = .ok (.iconst (-1), 1) := by decide +kernel
theorem dX11_caption_14 : decode cX11_caption 14 = .ok (.ireturn, 1) := by decide +kernel
set_option maxHeartbeats 4000000 in
set_option maxRecDepth 100000 in
theorem m_caption (l : Launch) (dC : Nat → ClassId) (dI : Nat → Nat → Nat) (cy : Nat → ClassId) (sz : Nat) (am : Nat → Nat) (mi : Nat → Nat → Int32) (n0 : Int32) (hn : NowOk (mi 2)) : Met l yX11_caption (wl yX11_caption cX11_caption 2 (some .int)) ({ frames := 2, cells := 0, slots := 0, locals := 128 }) (Pw (dC, dI) vwCl cy [(am 0, .inr (12, [.int 0, .ref (am 1), .int 0, .int 0, .int 0, .int 0, .int 0, .int 0, .int 0, .int 0, .int 0, .int 0, .long 0, .int 0, .ref (am 2), .ref (am 3), .ref (am 4), .ref (am 5), .ref (am 6), .ref (am 7), .ref (am 8), .ref (am 9), .ref (am 10), .ref (am 11), .int 0, .int (-1), .ref (am 12), .ref (am 13), .ref (am 14), .int 0, .ref (am 15), .ref (am 16), .int 0, .int 0, .int 0, .ref (am 17), .int 0, .int 0, .ref (am 18), .ref (am 19), .int 0, .int 0, .ref (am 20), .int 0, .int 0, .int 0, .int 0])), (am 2, .inl (cy 0, 575, .inl (mi 2)))] sz [.ref (am 0), .int n0] nE) (Qi (dC, dI) vwCl (fun (r : Int32) (u : Unit) => r = (-1)) (fun (u : Unit) => []) (va_A [(am 0, .inr (12, [.int 0, .ref (am 1), .int 0, .int 0, .int 0, .int 0, .int 0, .int 0, .int 0, .int 0, .int 0, .int 0, .long 0, .int 0, .ref (am 2), .ref (am 3), .ref (am 4), .ref (am 5), .ref (am 6), .ref (am 7), .ref (am 8), .ref (am 9), .ref (am 10), .ref (am 11), .int 0, .int (-1), .ref (am 12), .ref (am 13), .ref (am 14), .int 0, .ref (am 15), .ref (am 16), .int 0, .int 0, .int 0, .ref (am 17), .int 0, .int 0, .ref (am 18), .ref (am 19), .int 0, .int 0, .ref (am 20), .int 0, .int 0, .int 0, .int 0])), (am 2, .inl (cy 0, 575, .inl (mi 2)))] sz)) 0 0 (va_A [(am 0, .inr (12, [.int 0, .ref (am 1), .int 0, .int 0, .int 0, .int 0, .int 0, .int 0, .int 0, .int 0, .int 0, .int 0, .long 0, .int 0, .ref (am 2), .ref (am 3), .ref (am 4), .ref (am 5), .ref (am 6), .ref (am 7), .ref (am 8), .ref (am 9), .ref (am 10), .ref (am 11), .int 0, .int (-1), .ref (am 12), .ref (am 13), .ref (am 14), .int 0, .ref (am 15), .ref (am 16), .int 0, .int 0, .int 0, .ref (am 17), .int 0, .int 0, .ref (am 18), .ref (am 19), .int 0, .int 0, .ref (am 20), .int 0, .int 0, .int 0, .int 0])), (am 2, .inl (cy 0, 575, .inl (mi 2)))] sz) := by
  refine mw (Qc := Qi (dC, dI) vwCl (fun (r : Int32) (u : Unit) => r = (-1)) (fun (u : Unit) => [])) RX11 rfl (by decide +kernel) (Nat.le_of_ble_eq_true rfl) ?_
  intro p e s m below meth c A hx hb hr hlocks av9 hav hts hown hnm hml hK hP hD hA hS hE hAe Q9 hQ9 ls hl
  have hl : lv_has ls 2 [(0, .ref (am 0)), (1, .int n0)] := hl
  refine lv_aload_n hx hb dX11_caption_0 rfl (lv_at hl 0 rfl) ?_
  refine lv_iconst (v := 0) hx hb dX11_caption_1 (by decide) ?_
  refine pf_X11_1 hx hb hts hown hK hP hD hS 0 rfl rfl rfl (Nat.le_of_ble_eq_true rfl) dX11_caption_2 (fun H locs hP hD hS => ?_)
  have hP : va_P (dC, dI) vwCl [(am 0, .inr (12, [.int 0, .ref (am 1), .int 0, .int 0, .int 0, .int 0, .int 0, .int 0, .int 0, .int 0, .int 0, .int 0, .long 0, .int 0, .ref (am 2), .ref (am 3), .ref (am 4), .ref (am 5), .ref (am 6), .ref (am 7), .ref (am 8), .ref (am 9), .ref (am 10), .ref (am 11), .int 0, .int (-1), .ref (am 12), .ref (am 13), .ref (am 14), .int 0, .ref (am 15), .ref (am 16), .int 0, .int 0, .int 0, .ref (am 17), .int 0, .int 0, .ref (am 18), .ref (am 19), .int 0, .int 0, .ref (am 20), .int 0, .int 0, .int 0, .int 0])), (am 2, .inl (cy 0, 575, .inl (mi 2)))] H := hP
  have hD : va_D A [(am 0, .inr (12, [.int 0, .ref (am 1), .int 0, .int 0, .int 0, .int 0, .int 0, .int 0, .int 0, .int 0, .int 0, .int 0, .long 0, .int 0, .ref (am 2), .ref (am 3), .ref (am 4), .ref (am 5), .ref (am 6), .ref (am 7), .ref (am 8), .ref (am 9), .ref (am 10), .ref (am 11), .int 0, .int (-1), .ref (am 12), .ref (am 13), .ref (am 14), .int 0, .ref (am 15), .ref (am 16), .int 0, .int 0, .int 0, .ref (am 17), .int 0, .int 0, .ref (am 18), .ref (am 19), .int 0, .int 0, .ref (am 20), .int 0, .int 0, .int 0, .int 0])), (am 2, .inl (cy 0, 575, .inl (mi 2)))] := hD
  refine lv_aload_n hx hb dX11_caption_5 rfl (lv_at hl 0 rfl) ?_
  refine lv_iload_n hx hb dX11_caption_6 rfl (lv_at hl 1 rfl) ?_
  refine jr_i (rVr (As := [.int n0]) (rest := []) (ci := 12) ⟨hx, hb, hml, hown, hts⟩ (m_isMan l dC dI cy am mi n0 hn) (cw_X11_250 hts rfl rfl ⟨Nat.le_of_ble_eq_true rfl, Nat.le_of_ble_eq_true rfl⟩) hP hK [0, 1] rfl rfl rfl rfl hl.1 rfl (Nat.le_of_ble_eq_true rfl) dX11_caption_7 ⟨Nat.le_of_ble_eq_true rfl, Nat.le_of_ble_eq_true rfl⟩) hP hS (fun r_1 H locs hp_2 hP hS => ?_)
  refine as_i 0 hp_2 ?_
  refine lv_if_ne (tgt := 15) hx hb dX11_caption_10 (by decide) (fun c9 => absurd c9 (by decide)) (fun _ => ?_)
  refine lv_iconst (v := (-1)) hx hb dX11_caption_13 (by decide) ?_
  rw [hQ9]
  exact re_i () hx hb hr hlocks rfl (hP.sub [] rfl) (hD.sub [] rfl rfl) hS dX11_caption_14
abbrev cX11_odds : ByteArray := prog_13_method_107_code
def yX11_odds : MethodName := ⟨RX11, "odds", "(III)I"⟩
theorem t1970 : Cond.code yX11_odds cX11_odds 6 (some .int) ∈ GW := gw_mem 2084 (by decide +kernel) (by decide +kernel)
theorem dX11_odds_0 : decode cX11_odds 0 = .ok (.aload_n 0, 1) := by decide +kernel
theorem dX11_odds_1 : decode cX11_odds 1 = .ok (.iconst 0, 1) := by decide +kernel
theorem dX11_odds_2 : decode cX11_odds 2 = .ok (.putfield 1, 3) := by decide +kernel
theorem dX11_odds_5 : decode cX11_odds 5 = .ok (.aload_n 0, 1) := by decide +kernel
theorem dX11_odds_6 : decode cX11_odds 6 = .ok (.iload_n 1, 1) := by decide +kernel
theorem dX11_odds_7 : decode cX11_odds 7 = .ok (.invokevirtual 250, 3) := by decide +kernel
theorem dX11_odds_10 : decode cX11_odds 10 = .ok (.ifCond .eq 13, 3) := by decide +kernel
theorem dX11_odds_23 : decode cX11_odds 23 = .ok (.iconst (-1), 1) := by decide +kernel
theorem dX11_odds_24 : decode cX11_odds 24 = .ok (.ireturn, 1) := by decide +kernel
set_option maxHeartbeats 4000000 in
set_option maxRecDepth 100000 in
theorem m_odds (l : Launch) (dC : Nat → ClassId) (dI : Nat → Nat → Nat) (cy : Nat → ClassId) (sz : Nat) (am : Nat → Nat) (mi : Nat → Nat → Int32) (n0 : Int32) (n1 : Int32) (n2 : Int32) (hn : NowOk (mi 2)) : Met l yX11_odds (wl yX11_odds cX11_odds 6 (some .int)) ({ frames := 2, cells := 0, slots := 0, locals := 128 }) (Pw (dC, dI) vwCl cy [(am 0, .inr (12, [.int 0, .ref (am 1), .int 0, .int 0, .int 0, .int 0, .int 0, .int 0, .int 0, .int 0, .int 0, .int 0, .long 0, .int 0, .ref (am 2), .ref (am 3), .ref (am 4), .ref (am 5), .ref (am 6), .ref (am 7), .ref (am 8), .ref (am 9), .ref (am 10), .ref (am 11), .int 0, .int (-1), .ref (am 12), .ref (am 13), .ref (am 14), .int 0, .ref (am 15), .ref (am 16), .int 0, .int 0, .int 0, .ref (am 17), .int 0, .int 0, .ref (am 18), .ref (am 19), .int 0, .int 0, .ref (am 20), .int 0, .int 0, .int 0, .int 0])), (am 2, .inl (cy 0, 575, .inl (mi 2)))] sz [.ref (am 0), .int n0, .int n1, .int n2] nE) (Qi (dC, dI) vwCl (fun (r : Int32) (u : Unit) => r = (-1)) (fun (u : Unit) => []) (va_A [(am 0, .inr (12, [.int 0, .ref (am 1), .int 0, .int 0, .int 0, .int 0, .int 0, .int 0, .int 0, .int 0, .int 0, .int 0, .long 0, .int 0, .ref (am 2), .ref (am 3), .ref (am 4), .ref (am 5), .ref (am 6), .ref (am 7), .ref (am 8), .ref (am 9), .ref (am 10), .ref (am 11), .int 0, .int (-1), .ref (am 12), .ref (am 13), .ref (am 14), .int 0, .ref (am 15), .ref (am 16), .int 0, .int 0, .int 0, .ref (am 17), .int 0, .int 0, .ref (am 18), .ref (am 19), .int 0, .int 0, .ref (am 20), .int 0, .int 0, .int 0, .int 0])), (am 2, .inl (cy 0, 575, .inl (mi 2)))] sz)) 0 0 (va_A [(am 0, .inr (12, [.int 0, .ref (am 1), .int 0, .int 0, .int 0, .int 0, .int 0, .int 0, .int 0, .int 0, .int 0, .int 0, .long 0, .int 0, .ref (am 2), .ref (am 3), .ref (am 4), .ref (am 5), .ref (am 6), .ref (am 7), .ref (am 8), .ref (am 9), .ref (am 10), .ref (am 11), .int 0, .int (-1), .ref (am 12), .ref (am 13), .ref (am 14), .int 0, .ref (am 15), .ref (am 16), .int 0, .int 0, .int 0, .ref (am 17), .int 0, .int 0, .ref (am 18), .ref (am 19), .int 0, .int 0, .ref (am 20), .int 0, .int 0, .int 0, .int 0])), (am 2, .inl (cy 0, 575, .inl (mi 2)))] sz) := by
  refine mw (Qc := Qi (dC, dI) vwCl (fun (r : Int32) (u : Unit) => r = (-1)) (fun (u : Unit) => [])) RX11 rfl (by decide +kernel) (Nat.le_of_ble_eq_true rfl) ?_
  intro p e s m below meth c A hx hb hr hlocks av9 hav hts hown hnm hml hK hP hD hA hS hE hAe Q9 hQ9 ls hl
  have hl : lv_has ls 6 [(0, .ref (am 0)), (1, .int n0), (2, .int n1), (3, .int n2)] := hl
  refine lv_aload_n hx hb dX11_odds_0 rfl (lv_at hl 0 rfl) ?_
  refine lv_iconst (v := 0) hx hb dX11_odds_1 (by decide) ?_
  refine pf_X11_1 hx hb hts hown hK hP hD hS 0 rfl rfl rfl (Nat.le_of_ble_eq_true rfl) dX11_odds_2 (fun H locs hP hD hS => ?_)
  have hP : va_P (dC, dI) vwCl [(am 0, .inr (12, [.int 0, .ref (am 1), .int 0, .int 0, .int 0, .int 0, .int 0, .int 0, .int 0, .int 0, .int 0, .int 0, .long 0, .int 0, .ref (am 2), .ref (am 3), .ref (am 4), .ref (am 5), .ref (am 6), .ref (am 7), .ref (am 8), .ref (am 9), .ref (am 10), .ref (am 11), .int 0, .int (-1), .ref (am 12), .ref (am 13), .ref (am 14), .int 0, .ref (am 15), .ref (am 16), .int 0, .int 0, .int 0, .ref (am 17), .int 0, .int 0, .ref (am 18), .ref (am 19), .int 0, .int 0, .ref (am 20), .int 0, .int 0, .int 0, .int 0])), (am 2, .inl (cy 0, 575, .inl (mi 2)))] H := hP
  have hD : va_D A [(am 0, .inr (12, [.int 0, .ref (am 1), .int 0, .int 0, .int 0, .int 0, .int 0, .int 0, .int 0, .int 0, .int 0, .int 0, .long 0, .int 0, .ref (am 2), .ref (am 3), .ref (am 4), .ref (am 5), .ref (am 6), .ref (am 7), .ref (am 8), .ref (am 9), .ref (am 10), .ref (am 11), .int 0, .int (-1), .ref (am 12), .ref (am 13), .ref (am 14), .int 0, .ref (am 15), .ref (am 16), .int 0, .int 0, .int 0, .ref (am 17), .int 0, .int 0, .ref (am 18), .ref (am 19), .int 0, .int 0, .ref (am 20), .int 0, .int 0, .int 0, .int 0])), (am 2, .inl (cy 0, 575, .inl (mi 2)))] := hD
  refine lv_aload_n hx hb dX11_odds_5 rfl (lv_at hl 0 rfl) ?_
  refine lv_iload_n hx hb dX11_odds_6 rfl (lv_at hl 1 rfl) ?_
  refine jr_i (rVr (As := [.int n0]) (rest := []) (ci := 12) ⟨hx, hb, hml, hown, hts⟩ (m_isMan l dC dI cy am mi n0 hn) (cw_X11_250 hts rfl rfl ⟨Nat.le_of_ble_eq_true rfl, Nat.le_of_ble_eq_true rfl⟩) hP hK [0, 1] rfl rfl rfl rfl hl.1 rfl (Nat.le_of_ble_eq_true rfl) dX11_odds_7 ⟨Nat.le_of_ble_eq_true rfl, Nat.le_of_ble_eq_true rfl⟩) hP hS (fun r_1 H locs hp_2 hP hS => ?_)
  refine as_i 0 hp_2 ?_
  refine lv_if_eq (tgt := 23) hx hb dX11_odds_10 (by decide) (fun _ => ?_) (fun c9 => absurd (by decide) c9)
  refine lv_iconst (v := (-1)) hx hb dX11_odds_23 (by decide) ?_
  rw [hQ9]
  exact re_i () hx hb hr hlocks rfl (hP.sub [] rfl) (hD.sub [] rfl rfl) hS dX11_odds_24
abbrev cX11_fault : ByteArray := prog_13_method_42_code
def yX11_fault : MethodName := ⟨RX11, "fault", "()I"⟩
theorem t1706 : Cond.code yX11_fault cX11_fault 1 (some .int) ∈ GW := gw_mem 1820 (by decide +kernel) (by decide +kernel)
theorem dX11_fault_0 : decode cX11_fault 0 = .ok (.aload_n 0, 1) := by decide +kernel
theorem dX11_fault_1 : decode cX11_fault 1 = .ok (.iconst 0, 1) := by decide +kernel
theorem dX11_fault_2 : decode cX11_fault 2 = .ok (.putfield 1, 3) := by decide +kernel
theorem dX11_fault_5 : decode cX11_fault 5 = .ok (.aload_n 0, 1) := by decide +kernel
theorem dX11_fault_6 : decode cX11_fault 6 = .ok (.getfield 66, 3) := by decide +kernel
theorem t1456 : Cond.fieldLink RX11 66 "LikenessPoundModel" "fault" "I" ∈ GW := gw_mem 1570 (by decide +kernel) (by decide +kernel)
theorem gf_X11_66 {p : Program} {l : Launch} {e : Env} {R : Room} {s : State} {m : MethodId} {args : Array Value} {below : List Frame} {meth : Method} {c : Code} {H : Heap} {locs : List Loc} {cells slots : Nat} {Q : State → Prop} {cc : ByteArray} {pc : Nat} {ls : Array Slot} {rest : List Value} {D : va_G} {a : Nat} {tys : List (ClassId × FieldType)} {ws : va_W} (hx : p.tables.exec = Jvm.exec) (hb : c.code = cc) (hts : ∀ w ∈ GW, w.before args s = true) (hown : s.vm.findClass RX11 = some m.cls) (hK : va_K D vwCl tys s) (hP : va_P D vwCl ws H) (q0 : Nat) {fs : List Value} (he : ws[q0]? = some (a, .inr (12, fs))) {v : Value} (hv : fs[10]? = some v) (hdg : decode cc pc = .ok (.getfield 66, 3)) (kk : W p l e R s m args below meth c H locs cells slots Q (F0 m (pc + 3) ls (v :: rest))) : W p l e R s m args below meth c H locs cells slots Q (F0 m pc ls (.ref a :: rest)) := va_get (C := RX11) (T := TX11) (N := 47) (ci := 12) hx hb hts inX11 hown hK hP q0 he rfl 10 (by decide) (hts _ t1456) (fun _ h => h) hv hdg kk
theorem dX11_fault_9 : decode cX11_fault 9 = .ok (.ireturn, 1) := by decide +kernel
set_option maxHeartbeats 4000000 in
set_option maxRecDepth 100000 in
theorem m_fault (l : Launch) (dC : Nat → ClassId) (dI : Nat → Nat → Nat) (cy : Nat → ClassId) (sz : Nat) (am : Nat → Nat)  : Met l yX11_fault (wl yX11_fault cX11_fault 1 (some .int)) ({ frames := 0, cells := 0, slots := 0, locals := 0 }) (Pw (dC, dI) vwCl cy [(am 0, .inr (12, [.int 0, .ref (am 1), .int 0, .int 0, .int 0, .int 0, .int 0, .int 0, .int 0, .int 0, .int 0, .int 0, .long 0, .int 0, .ref (am 2), .ref (am 3), .ref (am 4), .ref (am 5), .ref (am 6), .ref (am 7), .ref (am 8), .ref (am 9), .ref (am 10), .ref (am 11), .int 0, .int (-1), .ref (am 12), .ref (am 13), .ref (am 14), .int 0, .ref (am 15), .ref (am 16), .int 0, .int 0, .int 0, .ref (am 17), .int 0, .int 0, .ref (am 18), .ref (am 19), .int 0, .int 0, .ref (am 20), .int 0, .int 0, .int 0, .int 0]))] sz [.ref (am 0)] nE) (Qi (dC, dI) vwCl (fun (r : Int32) (u : Unit) => r = 0) (fun (u : Unit) => []) (va_A [(am 0, .inr (12, [.int 0, .ref (am 1), .int 0, .int 0, .int 0, .int 0, .int 0, .int 0, .int 0, .int 0, .int 0, .int 0, .long 0, .int 0, .ref (am 2), .ref (am 3), .ref (am 4), .ref (am 5), .ref (am 6), .ref (am 7), .ref (am 8), .ref (am 9), .ref (am 10), .ref (am 11), .int 0, .int (-1), .ref (am 12), .ref (am 13), .ref (am 14), .int 0, .ref (am 15), .ref (am 16), .int 0, .int 0, .int 0, .ref (am 17), .int 0, .int 0, .ref (am 18), .ref (am 19), .int 0, .int 0, .ref (am 20), .int 0, .int 0, .int 0, .int 0]))] sz)) 0 0 (va_A [(am 0, .inr (12, [.int 0, .ref (am 1), .int 0, .int 0, .int 0, .int 0, .int 0, .int 0, .int 0, .int 0, .int 0, .int 0, .long 0, .int 0, .ref (am 2), .ref (am 3), .ref (am 4), .ref (am 5), .ref (am 6), .ref (am 7), .ref (am 8), .ref (am 9), .ref (am 10), .ref (am 11), .int 0, .int (-1), .ref (am 12), .ref (am 13), .ref (am 14), .int 0, .ref (am 15), .ref (am 16), .int 0, .int 0, .int 0, .ref (am 17), .int 0, .int 0, .ref (am 18), .ref (am 19), .int 0, .int 0, .ref (am 20), .int 0, .int 0, .int 0, .int 0]))] sz) := by
  refine mw (Qc := Qi (dC, dI) vwCl (fun (r : Int32) (u : Unit) => r = 0) (fun (u : Unit) => [])) RX11 rfl (by decide +kernel) (Nat.le_of_ble_eq_true rfl) ?_
  intro p e s m below meth c A hx hb hr hlocks av9 hav hts hown hnm hml hK hP hD hA hS hE hAe Q9 hQ9 ls hl
  have hl : lv_has ls 1 [(0, .ref (am 0))] := hl
  refine lv_aload_n hx hb dX11_fault_0 rfl (lv_at hl 0 rfl) ?_
  refine lv_iconst (v := 0) hx hb dX11_fault_1 (by decide) ?_
  refine pf_X11_1 hx hb hts hown hK hP hD hS 0 rfl rfl rfl (Nat.le_of_ble_eq_true rfl) dX11_fault_2 (fun H locs hP hD hS => ?_)
  have hP : va_P (dC, dI) vwCl [(am 0, .inr (12, [.int 0, .ref (am 1), .int 0, .int 0, .int 0, .int 0, .int 0, .int 0, .int 0, .int 0, .int 0, .int 0, .long 0, .int 0, .ref (am 2), .ref (am 3), .ref (am 4), .ref (am 5), .ref (am 6), .ref (am 7), .ref (am 8), .ref (am 9), .ref (am 10), .ref (am 11), .int 0, .int (-1), .ref (am 12), .ref (am 13), .ref (am 14), .int 0, .ref (am 15), .ref (am 16), .int 0, .int 0, .int 0, .ref (am 17), .int 0, .int 0, .ref (am 18), .ref (am 19), .int 0, .int 0, .ref (am 20), .int 0, .int 0, .int 0, .int 0]))] H := hP
  have hD : va_D A [(am 0, .inr (12, [.int 0, .ref (am 1), .int 0, .int 0, .int 0, .int 0, .int 0, .int 0, .int 0, .int 0, .int 0, .int 0, .long 0, .int 0, .ref (am 2), .ref (am 3), .ref (am 4), .ref (am 5), .ref (am 6), .ref (am 7), .ref (am 8), .ref (am 9), .ref (am 10), .ref (am 11), .int 0, .int (-1), .ref (am 12), .ref (am 13), .ref (am 14), .int 0, .ref (am 15), .ref (am 16), .int 0, .int 0, .int 0, .ref (am 17), .int 0, .int 0, .ref (am 18), .ref (am 19), .int 0, .int 0, .ref (am 20), .int 0, .int 0, .int 0, .int 0]))] := hD
  refine lv_aload_n hx hb dX11_fault_5 rfl (lv_at hl 0 rfl) ?_
  refine gf_X11_66 hx hb hts hown hK hP 0 rfl rfl dX11_fault_6 ?_
  rw [hQ9]
  exact re_i () hx hb hr hlocks rfl (hP.sub [] rfl) (hD.sub [] rfl rfl) hS dX11_fault_9
abbrev cX11_helping : ByteArray := prog_13_method_84_code
def yX11_helping : MethodName := ⟨RX11, "helping", "()I"⟩
theorem t1884 : Cond.code yX11_helping cX11_helping 1 (some .int) ∈ GW := gw_mem 1998 (by decide +kernel) (by decide +kernel)
theorem dX11_helping_0 : decode cX11_helping 0 = .ok (.aload_n 0, 1) := by decide +kernel
theorem dX11_helping_1 : decode cX11_helping 1 = .ok (.iconst 0, 1) := by decide +kernel
theorem dX11_helping_2 : decode cX11_helping 2 = .ok (.putfield 1, 3) := by decide +kernel
theorem dX11_helping_5 : decode cX11_helping 5 = .ok (.aload_n 0, 1) := by decide +kernel
theorem dX11_helping_6 : decode cX11_helping 6 = .ok (.getfield 130, 3) := by decide +kernel
theorem t1471 : Cond.fieldLink RX11 130 "LikenessPoundModel" "helping" "I" ∈ GW := gw_mem 1585 (by decide +kernel) (by decide +kernel)
theorem gf_X11_130 {p : Program} {l : Launch} {e : Env} {R : Room} {s : State} {m : MethodId} {args : Array Value} {below : List Frame} {meth : Method} {c : Code} {H : Heap} {locs : List Loc} {cells slots : Nat} {Q : State → Prop} {cc : ByteArray} {pc : Nat} {ls : Array Slot} {rest : List Value} {D : va_G} {a : Nat} {tys : List (ClassId × FieldType)} {ws : va_W} (hx : p.tables.exec = Jvm.exec) (hb : c.code = cc) (hts : ∀ w ∈ GW, w.before args s = true) (hown : s.vm.findClass RX11 = some m.cls) (hK : va_K D vwCl tys s) (hP : va_P D vwCl ws H) (q0 : Nat) {fs : List Value} (he : ws[q0]? = some (a, .inr (12, fs))) {v : Value} (hv : fs[25]? = some v) (hdg : decode cc pc = .ok (.getfield 130, 3)) (kk : W p l e R s m args below meth c H locs cells slots Q (F0 m (pc + 3) ls (v :: rest))) : W p l e R s m args below meth c H locs cells slots Q (F0 m pc ls (.ref a :: rest)) := va_get (C := RX11) (T := TX11) (N := 47) (ci := 12) hx hb hts inX11 hown hK hP q0 he rfl 25 (by decide) (hts _ t1471) (fun _ h => h) hv hdg kk
theorem dX11_helping_9 : decode cX11_helping 9 = .ok (.ireturn, 1) := by decide +kernel
set_option maxHeartbeats 4000000 in
set_option maxRecDepth 100000 in
theorem m_helping (l : Launch) (dC : Nat → ClassId) (dI : Nat → Nat → Nat) (cy : Nat → ClassId) (sz : Nat) (am : Nat → Nat)  : Met l yX11_helping (wl yX11_helping cX11_helping 1 (some .int)) ({ frames := 0, cells := 0, slots := 0, locals := 0 }) (Pw (dC, dI) vwCl cy [(am 0, .inr (12, [.int 0, .ref (am 1), .int 0, .int 0, .int 0, .int 0, .int 0, .int 0, .int 0, .int 0, .int 0, .int 0, .long 0, .int 0, .ref (am 2), .ref (am 3), .ref (am 4), .ref (am 5), .ref (am 6), .ref (am 7), .ref (am 8), .ref (am 9), .ref (am 10), .ref (am 11), .int 0, .int (-1), .ref (am 12), .ref (am 13), .ref (am 14), .int 0, .ref (am 15), .ref (am 16), .int 0, .int 0, .int 0, .ref (am 17), .int 0, .int 0, .ref (am 18), .ref (am 19), .int 0, .int 0, .ref (am 20), .int 0, .int 0, .int 0, .int 0]))] sz [.ref (am 0)] nE) (Qi (dC, dI) vwCl (fun (r : Int32) (u : Unit) => r = (-1)) (fun (u : Unit) => []) (va_A [(am 0, .inr (12, [.int 0, .ref (am 1), .int 0, .int 0, .int 0, .int 0, .int 0, .int 0, .int 0, .int 0, .int 0, .int 0, .long 0, .int 0, .ref (am 2), .ref (am 3), .ref (am 4), .ref (am 5), .ref (am 6), .ref (am 7), .ref (am 8), .ref (am 9), .ref (am 10), .ref (am 11), .int 0, .int (-1), .ref (am 12), .ref (am 13), .ref (am 14), .int 0, .ref (am 15), .ref (am 16), .int 0, .int 0, .int 0, .ref (am 17), .int 0, .int 0, .ref (am 18), .ref (am 19), .int 0, .int 0, .ref (am 20), .int 0, .int 0, .int 0, .int 0]))] sz)) 0 0 (va_A [(am 0, .inr (12, [.int 0, .ref (am 1), .int 0, .int 0, .int 0, .int 0, .int 0, .int 0, .int 0, .int 0, .int 0, .int 0, .long 0, .int 0, .ref (am 2), .ref (am 3), .ref (am 4), .ref (am 5), .ref (am 6), .ref (am 7), .ref (am 8), .ref (am 9), .ref (am 10), .ref (am 11), .int 0, .int (-1), .ref (am 12), .ref (am 13), .ref (am 14), .int 0, .ref (am 15), .ref (am 16), .int 0, .int 0, .int 0, .ref (am 17), .int 0, .int 0, .ref (am 18), .ref (am 19), .int 0, .int 0, .ref (am 20), .int 0, .int 0, .int 0, .int 0]))] sz) := by
  refine mw (Qc := Qi (dC, dI) vwCl (fun (r : Int32) (u : Unit) => r = (-1)) (fun (u : Unit) => [])) RX11 rfl (by decide +kernel) (Nat.le_of_ble_eq_true rfl) ?_
  intro p e s m below meth c A hx hb hr hlocks av9 hav hts hown hnm hml hK hP hD hA hS hE hAe Q9 hQ9 ls hl
  have hl : lv_has ls 1 [(0, .ref (am 0))] := hl
  refine lv_aload_n hx hb dX11_helping_0 rfl (lv_at hl 0 rfl) ?_
  refine lv_iconst (v := 0) hx hb dX11_helping_1 (by decide) ?_
  refine pf_X11_1 hx hb hts hown hK hP hD hS 0 rfl rfl rfl (Nat.le_of_ble_eq_true rfl) dX11_helping_2 (fun H locs hP hD hS => ?_)
  have hP : va_P (dC, dI) vwCl [(am 0, .inr (12, [.int 0, .ref (am 1), .int 0, .int 0, .int 0, .int 0, .int 0, .int 0, .int 0, .int 0, .int 0, .int 0, .long 0, .int 0, .ref (am 2), .ref (am 3), .ref (am 4), .ref (am 5), .ref (am 6), .ref (am 7), .ref (am 8), .ref (am 9), .ref (am 10), .ref (am 11), .int 0, .int (-1), .ref (am 12), .ref (am 13), .ref (am 14), .int 0, .ref (am 15), .ref (am 16), .int 0, .int 0, .int 0, .ref (am 17), .int 0, .int 0, .ref (am 18), .ref (am 19), .int 0, .int 0, .ref (am 20), .int 0, .int 0, .int 0, .int 0]))] H := hP
  have hD : va_D A [(am 0, .inr (12, [.int 0, .ref (am 1), .int 0, .int 0, .int 0, .int 0, .int 0, .int 0, .int 0, .int 0, .int 0, .int 0, .long 0, .int 0, .ref (am 2), .ref (am 3), .ref (am 4), .ref (am 5), .ref (am 6), .ref (am 7), .ref (am 8), .ref (am 9), .ref (am 10), .ref (am 11), .int 0, .int (-1), .ref (am 12), .ref (am 13), .ref (am 14), .int 0, .ref (am 15), .ref (am 16), .int 0, .int 0, .int 0, .ref (am 17), .int 0, .int 0, .ref (am 18), .ref (am 19), .int 0, .int 0, .ref (am 20), .int 0, .int 0, .int 0, .int 0]))] := hD
  refine lv_aload_n hx hb dX11_helping_5 rfl (lv_at hl 0 rfl) ?_
  refine gf_X11_130 hx hb hts hown hK hP 0 rfl rfl dX11_helping_6 ?_
  rw [hQ9]
  exact re_i () hx hb hr hlocks rfl (hP.sub [] rfl) (hD.sub [] rfl rfl) hS dX11_helping_9
abbrev cX11_mayBe : ByteArray := prog_13_method_89_code
def yX11_mayBe : MethodName := ⟨RX11, "mayBe", "(I)I"⟩
theorem t1905 : Cond.code yX11_mayBe cX11_mayBe 2 (some .int) ∈ GW := gw_mem 2019 (by decide +kernel) (by decide +kernel)
theorem dX11_mayBe_0 : decode cX11_mayBe 0 = .ok (.aload_n 0, 1) := by decide +kernel
theorem dX11_mayBe_1 : decode cX11_mayBe 1 = .ok (.iconst 0, 1) := by decide +kernel
theorem dX11_mayBe_2 : decode cX11_mayBe 2 = .ok (.putfield 1, 3) := by decide +kernel
theorem dX11_mayBe_5 : decode cX11_mayBe 5 = .ok (.iload_n 1, 1) := by decide +kernel
theorem dX11_mayBe_6 : decode cX11_mayBe 6 = .ok (.iconst 0, 1) := by decide +kernel
theorem dX11_mayBe_7 : decode cX11_mayBe 7 = .ok (.aload_n 0, 1) := by decide +kernel
theorem dX11_mayBe_8 : decode cX11_mayBe 8 = .ok (.getfield 319, 3) := by decide +kernel
theorem t1475 : Cond.fieldLink RX11 319 "LikenessPoundModel" "maybeMany" "I" ∈ GW := gw_mem 1589 (by decide +kernel) (by decide +kernel)
theorem gf_X11_319 {p : Program} {l : Launch} {e : Env} {R : Room} {s : State} {m : MethodId} {args : Array Value} {below : List Frame} {meth : Method} {c : Code} {H : Heap} {locs : List Loc} {cells slots : Nat} {Q : State → Prop} {cc : ByteArray} {pc : Nat} {ls : Array Slot} {rest : List Value} {D : va_G} {a : Nat} {tys : List (ClassId × FieldType)} {ws : va_W} (hx : p.tables.exec = Jvm.exec) (hb : c.code = cc) (hts : ∀ w ∈ GW, w.before args s = true) (hown : s.vm.findClass RX11 = some m.cls) (hK : va_K D vwCl tys s) (hP : va_P D vwCl ws H) (q0 : Nat) {fs : List Value} (he : ws[q0]? = some (a, .inr (12, fs))) {v : Value} (hv : fs[29]? = some v) (hdg : decode cc pc = .ok (.getfield 319, 3)) (kk : W p l e R s m args below meth c H locs cells slots Q (F0 m (pc + 3) ls (v :: rest))) : W p l e R s m args below meth c H locs cells slots Q (F0 m pc ls (.ref a :: rest)) := va_get (C := RX11) (T := TX11) (N := 47) (ci := 12) hx hb hts inX11 hown hK hP q0 he rfl 29 (by decide) (hts _ t1475) (fun _ h => h) hv hdg kk
theorem dX11_mayBe_11 : decode cX11_mayBe 11 = .ok (.iconst 1, 1) := by decide +kernel
theorem dX11_mayBe_12 : decode cX11_mayBe 12 = .ok (.isub, 1) := by decide +kernel
theorem dX11_mayBe_13 : decode cX11_mayBe 13 = .ok (.invokestatic 75, 3) := by decide +kernel
theorem dX11_mayBe_16 : decode cX11_mayBe 16 = .ok (.ifCond .eq 12, 3) := by decide +kernel
theorem dX11_mayBe_28 : decode cX11_mayBe 28 = .ok (.iconst (-1), 1) := by decide +kernel
theorem dX11_mayBe_29 : decode cX11_mayBe 29 = .ok (.ireturn, 1) := by decide +kernel
set_option maxHeartbeats 4000000 in
set_option maxRecDepth 100000 in
theorem m_mayBe (l : Launch) (dC : Nat → ClassId) (dI : Nat → Nat → Nat) (cy : Nat → ClassId) (sz : Nat) (am : Nat → Nat) (n0 : Int32)  : Met l yX11_mayBe (wl yX11_mayBe cX11_mayBe 2 (some .int)) ({ frames := 1, cells := 0, slots := 0, locals := 64 }) (Pw (dC, dI) vwCl cy [(am 0, .inr (12, [.int 0, .ref (am 1), .int 0, .int 0, .int 0, .int 0, .int 0, .int 0, .int 0, .int 0, .int 0, .int 0, .long 0, .int 0, .ref (am 2), .ref (am 3), .ref (am 4), .ref (am 5), .ref (am 6), .ref (am 7), .ref (am 8), .ref (am 9), .ref (am 10), .ref (am 11), .int 0, .int (-1), .ref (am 12), .ref (am 13), .ref (am 14), .int 0, .ref (am 15), .ref (am 16), .int 0, .int 0, .int 0, .ref (am 17), .int 0, .int 0, .ref (am 18), .ref (am 19), .int 0, .int 0, .ref (am 20), .int 0, .int 0, .int 0, .int 0]))] sz [.ref (am 0), .int n0] nE) (Qi (dC, dI) vwCl (fun (r : Int32) (u : Unit) => r = (-1)) (fun (u : Unit) => []) (va_A [(am 0, .inr (12, [.int 0, .ref (am 1), .int 0, .int 0, .int 0, .int 0, .int 0, .int 0, .int 0, .int 0, .int 0, .int 0, .long 0, .int 0, .ref (am 2), .ref (am 3), .ref (am 4), .ref (am 5), .ref (am 6), .ref (am 7), .ref (am 8), .ref (am 9), .ref (am 10), .ref (am 11), .int 0, .int (-1), .ref (am 12), .ref (am 13), .ref (am 14), .int 0, .ref (am 15), .ref (am 16), .int 0, .int 0, .int 0, .ref (am 17), .int 0, .int 0, .ref (am 18), .ref (am 19), .int 0, .int 0, .ref (am 20), .int 0, .int 0, .int 0, .int 0]))] sz)) 0 0 (va_A [(am 0, .inr (12, [.int 0, .ref (am 1), .int 0, .int 0, .int 0, .int 0, .int 0, .int 0, .int 0, .int 0, .int 0, .int 0, .long 0, .int 0, .ref (am 2), .ref (am 3), .ref (am 4), .ref (am 5), .ref (am 6), .ref (am 7), .ref (am 8), .ref (am 9), .ref (am 10), .ref (am 11), .int 0, .int (-1), .ref (am 12), .ref (am 13), .ref (am 14), .int 0, .ref (am 15), .ref (am 16), .int 0, .int 0, .int 0, .ref (am 17), .int 0, .int 0, .ref (am 18), .ref (am 19), .int 0, .int 0, .ref (am 20), .int 0, .int 0, .int 0, .int 0]))] sz) := by
  refine mw (Qc := Qi (dC, dI) vwCl (fun (r : Int32) (u : Unit) => r = (-1)) (fun (u : Unit) => [])) RX11 rfl (by decide +kernel) (Nat.le_of_ble_eq_true rfl) ?_
  intro p e s m below meth c A hx hb hr hlocks av9 hav hts hown hnm hml hK hP hD hA hS hE hAe Q9 hQ9 ls hl
  have hl : lv_has ls 2 [(0, .ref (am 0)), (1, .int n0)] := hl
  refine lv_aload_n hx hb dX11_mayBe_0 rfl (lv_at hl 0 rfl) ?_
  refine lv_iconst (v := 0) hx hb dX11_mayBe_1 (by decide) ?_
  refine pf_X11_1 hx hb hts hown hK hP hD hS 0 rfl rfl rfl (Nat.le_of_ble_eq_true rfl) dX11_mayBe_2 (fun H locs hP hD hS => ?_)
  have hP : va_P (dC, dI) vwCl [(am 0, .inr (12, [.int 0, .ref (am 1), .int 0, .int 0, .int 0, .int 0, .int 0, .int 0, .int 0, .int 0, .int 0, .int 0, .long 0, .int 0, .ref (am 2), .ref (am 3), .ref (am 4), .ref (am 5), .ref (am 6), .ref (am 7), .ref (am 8), .ref (am 9), .ref (am 10), .ref (am 11), .int 0, .int (-1), .ref (am 12), .ref (am 13), .ref (am 14), .int 0, .ref (am 15), .ref (am 16), .int 0, .int 0, .int 0, .ref (am 17), .int 0, .int 0, .ref (am 18), .ref (am 19), .int 0, .int 0, .ref (am 20), .int 0, .int 0, .int 0, .int 0]))] H := hP
  have hD : va_D A [(am 0, .inr (12, [.int 0, .ref (am 1), .int 0, .int 0, .int 0, .int 0, .int 0, .int 0, .int 0, .int 0, .int 0, .int 0, .long 0, .int 0, .ref (am 2), .ref (am 3), .ref (am 4), .ref (am 5), .ref (am 6), .ref (am 7), .ref (am 8), .ref (am 9), .ref (am 10), .ref (am 11), .int 0, .int (-1), .ref (am 12), .ref (am 13), .ref (am 14), .int 0, .ref (am 15), .ref (am 16), .int 0, .int 0, .int 0, .ref (am 17), .int 0, .int 0, .ref (am 18), .ref (am 19), .int 0, .int 0, .ref (am 20), .int 0, .int 0, .int 0, .int 0]))] := hD
  refine lv_iload_n hx hb dX11_mayBe_5 rfl (lv_at hl 1 rfl) ?_
  refine lv_iconst (v := 0) hx hb dX11_mayBe_6 (by decide) ?_
  refine lv_aload_n hx hb dX11_mayBe_7 rfl (lv_at hl 0 rfl) ?_
  refine gf_X11_319 hx hb hts hown hK hP 0 rfl rfl dX11_mayBe_8 ?_
  refine lv_iconst (v := 1) hx hb dX11_mayBe_11 (by decide) ?_
  refine lv_isub hx hb dX11_mayBe_12 ?_
  refine as_i (-1) (by decide) ?_
  refine jr_i (rSr (As := [.int n0, .int 0, .int (-1)]) (rest := []) ⟨hx, hb, hml, hown, hts⟩ (m_isIn_no l dC dI cy n0 ) (cw_X11_75 hts rfl rfl ⟨Nat.le_of_ble_eq_true rfl, Nat.le_of_ble_eq_true rfl⟩) hP hK [] rfl rfl hl.1 rfl (Nat.le_of_ble_eq_true rfl) dX11_mayBe_13 ⟨Nat.le_of_ble_eq_true rfl, Nat.le_of_ble_eq_true rfl⟩) hP hS (fun r_1 H locs hp_2 hP hS => ?_)
  refine as_i 0 hp_2 ?_
  refine lv_if_eq (tgt := 28) hx hb dX11_mayBe_16 (by decide) (fun _ => ?_) (fun c9 => absurd (by decide) c9)
  refine lv_iconst (v := (-1)) hx hb dX11_mayBe_28 (by decide) ?_
  rw [hQ9]
  exact re_i () hx hb hr hlocks rfl (hP.sub [] rfl) (hD.sub [] rfl rfl) hS dX11_mayBe_29
abbrev cX11_careerOf : ByteArray := prog_13_method_92_code
def yX11_careerOf : MethodName := ⟨RX11, "careerOf", "(I)I"⟩
theorem t1917 : Cond.code yX11_careerOf cX11_careerOf 2 (some .int) ∈ GW := gw_mem 2031 (by decide +kernel) (by decide +kernel)
theorem dX11_careerOf_0 : decode cX11_careerOf 0 = .ok (.aload_n 0, 1) := by decide +kernel
theorem dX11_careerOf_1 : decode cX11_careerOf 1 = .ok (.iconst 0, 1) := by decide +kernel
theorem dX11_careerOf_2 : decode cX11_careerOf 2 = .ok (.putfield 1, 3) := by decide +kernel
theorem dX11_careerOf_5 : decode cX11_careerOf 5 = .ok (.iload_n 1, 1) := by decide +kernel
theorem dX11_careerOf_6 : decode cX11_careerOf 6 = .ok (.iconst 0, 1) := by decide +kernel
theorem dX11_careerOf_7 : decode cX11_careerOf 7 = .ok (.aload_n 0, 1) := by decide +kernel
theorem dX11_careerOf_8 : decode cX11_careerOf 8 = .ok (.getfield 328, 3) := by decide +kernel
theorem t1480 : Cond.fieldLink RX11 328 "LikenessPoundModel" "careerMany" "I" ∈ GW := gw_mem 1594 (by decide +kernel) (by decide +kernel)
theorem gf_X11_328 {p : Program} {l : Launch} {e : Env} {R : Room} {s : State} {m : MethodId} {args : Array Value} {below : List Frame} {meth : Method} {c : Code} {H : Heap} {locs : List Loc} {cells slots : Nat} {Q : State → Prop} {cc : ByteArray} {pc : Nat} {ls : Array Slot} {rest : List Value} {D : va_G} {a : Nat} {tys : List (ClassId × FieldType)} {ws : va_W} (hx : p.tables.exec = Jvm.exec) (hb : c.code = cc) (hts : ∀ w ∈ GW, w.before args s = true) (hown : s.vm.findClass RX11 = some m.cls) (hK : va_K D vwCl tys s) (hP : va_P D vwCl ws H) (q0 : Nat) {fs : List Value} (he : ws[q0]? = some (a, .inr (12, fs))) {v : Value} (hv : fs[34]? = some v) (hdg : decode cc pc = .ok (.getfield 328, 3)) (kk : W p l e R s m args below meth c H locs cells slots Q (F0 m (pc + 3) ls (v :: rest))) : W p l e R s m args below meth c H locs cells slots Q (F0 m pc ls (.ref a :: rest)) := va_get (C := RX11) (T := TX11) (N := 47) (ci := 12) hx hb hts inX11 hown hK hP q0 he rfl 34 (by decide) (hts _ t1480) (fun _ h => h) hv hdg kk
theorem dX11_careerOf_11 : decode cX11_careerOf 11 = .ok (.iconst 1, 1) := by decide +kernel
theorem dX11_careerOf_12 : decode cX11_careerOf 12 = .ok (.isub, 1) := by decide +kernel
theorem dX11_careerOf_13 : decode cX11_careerOf 13 = .ok (.invokestatic 75, 3) := by decide +kernel
theorem dX11_careerOf_16 : decode cX11_careerOf 16 = .ok (.ifCond .eq 12, 3) := by decide +kernel
theorem dX11_careerOf_28 : decode cX11_careerOf 28 = .ok (.iconst (-1), 1) := by decide +kernel
theorem dX11_careerOf_29 : decode cX11_careerOf 29 = .ok (.ireturn, 1) := by decide +kernel
set_option maxHeartbeats 4000000 in
set_option maxRecDepth 100000 in
theorem m_careerOf (l : Launch) (dC : Nat → ClassId) (dI : Nat → Nat → Nat) (cy : Nat → ClassId) (sz : Nat) (am : Nat → Nat) (n0 : Int32)  : Met l yX11_careerOf (wl yX11_careerOf cX11_careerOf 2 (some .int)) ({ frames := 1, cells := 0, slots := 0, locals := 64 }) (Pw (dC, dI) vwCl cy [(am 0, .inr (12, [.int 0, .ref (am 1), .int 0, .int 0, .int 0, .int 0, .int 0, .int 0, .int 0, .int 0, .int 0, .int 0, .long 0, .int 0, .ref (am 2), .ref (am 3), .ref (am 4), .ref (am 5), .ref (am 6), .ref (am 7), .ref (am 8), .ref (am 9), .ref (am 10), .ref (am 11), .int 0, .int (-1), .ref (am 12), .ref (am 13), .ref (am 14), .int 0, .ref (am 15), .ref (am 16), .int 0, .int 0, .int 0, .ref (am 17), .int 0, .int 0, .ref (am 18), .ref (am 19), .int 0, .int 0, .ref (am 20), .int 0, .int 0, .int 0, .int 0]))] sz [.ref (am 0), .int n0] nE) (Qi (dC, dI) vwCl (fun (r : Int32) (u : Unit) => r = (-1)) (fun (u : Unit) => []) (va_A [(am 0, .inr (12, [.int 0, .ref (am 1), .int 0, .int 0, .int 0, .int 0, .int 0, .int 0, .int 0, .int 0, .int 0, .int 0, .long 0, .int 0, .ref (am 2), .ref (am 3), .ref (am 4), .ref (am 5), .ref (am 6), .ref (am 7), .ref (am 8), .ref (am 9), .ref (am 10), .ref (am 11), .int 0, .int (-1), .ref (am 12), .ref (am 13), .ref (am 14), .int 0, .ref (am 15), .ref (am 16), .int 0, .int 0, .int 0, .ref (am 17), .int 0, .int 0, .ref (am 18), .ref (am 19), .int 0, .int 0, .ref (am 20), .int 0, .int 0, .int 0, .int 0]))] sz)) 0 0 (va_A [(am 0, .inr (12, [.int 0, .ref (am 1), .int 0, .int 0, .int 0, .int 0, .int 0, .int 0, .int 0, .int 0, .int 0, .int 0, .long 0, .int 0, .ref (am 2), .ref (am 3), .ref (am 4), .ref (am 5), .ref (am 6), .ref (am 7), .ref (am 8), .ref (am 9), .ref (am 10), .ref (am 11), .int 0, .int (-1), .ref (am 12), .ref (am 13), .ref (am 14), .int 0, .ref (am 15), .ref (am 16), .int 0, .int 0, .int 0, .ref (am 17), .int 0, .int 0, .ref (am 18), .ref (am 19), .int 0, .int 0, .ref (am 20), .int 0, .int 0, .int 0, .int 0]))] sz) := by
  refine mw (Qc := Qi (dC, dI) vwCl (fun (r : Int32) (u : Unit) => r = (-1)) (fun (u : Unit) => [])) RX11 rfl (by decide +kernel) (Nat.le_of_ble_eq_true rfl) ?_
  intro p e s m below meth c A hx hb hr hlocks av9 hav hts hown hnm hml hK hP hD hA hS hE hAe Q9 hQ9 ls hl
  have hl : lv_has ls 2 [(0, .ref (am 0)), (1, .int n0)] := hl
  refine lv_aload_n hx hb dX11_careerOf_0 rfl (lv_at hl 0 rfl) ?_
  refine lv_iconst (v := 0) hx hb dX11_careerOf_1 (by decide) ?_
  refine pf_X11_1 hx hb hts hown hK hP hD hS 0 rfl rfl rfl (Nat.le_of_ble_eq_true rfl) dX11_careerOf_2 (fun H locs hP hD hS => ?_)
  have hP : va_P (dC, dI) vwCl [(am 0, .inr (12, [.int 0, .ref (am 1), .int 0, .int 0, .int 0, .int 0, .int 0, .int 0, .int 0, .int 0, .int 0, .int 0, .long 0, .int 0, .ref (am 2), .ref (am 3), .ref (am 4), .ref (am 5), .ref (am 6), .ref (am 7), .ref (am 8), .ref (am 9), .ref (am 10), .ref (am 11), .int 0, .int (-1), .ref (am 12), .ref (am 13), .ref (am 14), .int 0, .ref (am 15), .ref (am 16), .int 0, .int 0, .int 0, .ref (am 17), .int 0, .int 0, .ref (am 18), .ref (am 19), .int 0, .int 0, .ref (am 20), .int 0, .int 0, .int 0, .int 0]))] H := hP
  have hD : va_D A [(am 0, .inr (12, [.int 0, .ref (am 1), .int 0, .int 0, .int 0, .int 0, .int 0, .int 0, .int 0, .int 0, .int 0, .int 0, .long 0, .int 0, .ref (am 2), .ref (am 3), .ref (am 4), .ref (am 5), .ref (am 6), .ref (am 7), .ref (am 8), .ref (am 9), .ref (am 10), .ref (am 11), .int 0, .int (-1), .ref (am 12), .ref (am 13), .ref (am 14), .int 0, .ref (am 15), .ref (am 16), .int 0, .int 0, .int 0, .ref (am 17), .int 0, .int 0, .ref (am 18), .ref (am 19), .int 0, .int 0, .ref (am 20), .int 0, .int 0, .int 0, .int 0]))] := hD
  refine lv_iload_n hx hb dX11_careerOf_5 rfl (lv_at hl 1 rfl) ?_
  refine lv_iconst (v := 0) hx hb dX11_careerOf_6 (by decide) ?_
  refine lv_aload_n hx hb dX11_careerOf_7 rfl (lv_at hl 0 rfl) ?_
  refine gf_X11_328 hx hb hts hown hK hP 0 rfl rfl dX11_careerOf_8 ?_
  refine lv_iconst (v := 1) hx hb dX11_careerOf_11 (by decide) ?_
  refine lv_isub hx hb dX11_careerOf_12 ?_
  refine as_i (-1) (by decide) ?_
  refine jr_i (rSr (As := [.int n0, .int 0, .int (-1)]) (rest := []) ⟨hx, hb, hml, hown, hts⟩ (m_isIn_no l dC dI cy n0 ) (cw_X11_75 hts rfl rfl ⟨Nat.le_of_ble_eq_true rfl, Nat.le_of_ble_eq_true rfl⟩) hP hK [] rfl rfl hl.1 rfl (Nat.le_of_ble_eq_true rfl) dX11_careerOf_13 ⟨Nat.le_of_ble_eq_true rfl, Nat.le_of_ble_eq_true rfl⟩) hP hS (fun r_1 H locs hp_2 hP hS => ?_)
  refine as_i 0 hp_2 ?_
  refine lv_if_eq (tgt := 28) hx hb dX11_careerOf_16 (by decide) (fun _ => ?_) (fun c9 => absurd (by decide) c9)
  refine lv_iconst (v := (-1)) hx hb dX11_careerOf_28 (by decide) ?_
  rw [hQ9]
  exact re_i () hx hb hr hlocks rfl (hP.sub [] rfl) (hD.sub [] rfl rfl) hS dX11_careerOf_29
abbrev cX11_byteAt : ByteArray := prog_13_method_100_code
def yX11_byteAt : MethodName := ⟨RX11, "byteAt", "(I)I"⟩
theorem t1949 : Cond.code yX11_byteAt cX11_byteAt 2 (some .int) ∈ GW := gw_mem 2063 (by decide +kernel) (by decide +kernel)
theorem dX11_byteAt_0 : decode cX11_byteAt 0 = .ok (.aload_n 0, 1) := by decide +kernel
theorem dX11_byteAt_1 : decode cX11_byteAt 1 = .ok (.iconst 0, 1) := by decide +kernel
theorem dX11_byteAt_2 : decode cX11_byteAt 2 = .ok (.putfield 1, 3) := by decide +kernel
theorem dX11_byteAt_5 : decode cX11_byteAt 5 = .ok (.iload_n 1, 1) := by decide +kernel
theorem dX11_byteAt_6 : decode cX11_byteAt 6 = .ok (.iconst 0, 1) := by decide +kernel
theorem dX11_byteAt_7 : decode cX11_byteAt 7 = .ok (.aload_n 0, 1) := by decide +kernel
theorem dX11_byteAt_8 : decode cX11_byteAt 8 = .ok (.getfield 335, 3) := by decide +kernel
theorem t1482 : Cond.fieldLink RX11 335 "LikenessPoundModel" "texts" "I" ∈ GW := gw_mem 1596 (by decide +kernel) (by decide +kernel)
theorem gf_X11_335 {p : Program} {l : Launch} {e : Env} {R : Room} {s : State} {m : MethodId} {args : Array Value} {below : List Frame} {meth : Method} {c : Code} {H : Heap} {locs : List Loc} {cells slots : Nat} {Q : State → Prop} {cc : ByteArray} {pc : Nat} {ls : Array Slot} {rest : List Value} {D : va_G} {a : Nat} {tys : List (ClassId × FieldType)} {ws : va_W} (hx : p.tables.exec = Jvm.exec) (hb : c.code = cc) (hts : ∀ w ∈ GW, w.before args s = true) (hown : s.vm.findClass RX11 = some m.cls) (hK : va_K D vwCl tys s) (hP : va_P D vwCl ws H) (q0 : Nat) {fs : List Value} (he : ws[q0]? = some (a, .inr (12, fs))) {v : Value} (hv : fs[36]? = some v) (hdg : decode cc pc = .ok (.getfield 335, 3)) (kk : W p l e R s m args below meth c H locs cells slots Q (F0 m (pc + 3) ls (v :: rest))) : W p l e R s m args below meth c H locs cells slots Q (F0 m pc ls (.ref a :: rest)) := va_get (C := RX11) (T := TX11) (N := 47) (ci := 12) hx hb hts inX11 hown hK hP q0 he rfl 36 (by decide) (hts _ t1482) (fun _ h => h) hv hdg kk
theorem dX11_byteAt_11 : decode cX11_byteAt 11 = .ok (.iconst 1, 1) := by decide +kernel
theorem dX11_byteAt_12 : decode cX11_byteAt 12 = .ok (.isub, 1) := by decide +kernel
theorem dX11_byteAt_13 : decode cX11_byteAt 13 = .ok (.invokestatic 75, 3) := by decide +kernel
theorem dX11_byteAt_16 : decode cX11_byteAt 16 = .ok (.ifCond .eq 12, 3) := by decide +kernel
theorem dX11_byteAt_28 : decode cX11_byteAt 28 = .ok (.iconst (-1), 1) := by decide +kernel
theorem dX11_byteAt_29 : decode cX11_byteAt 29 = .ok (.ireturn, 1) := by decide +kernel
set_option maxHeartbeats 4000000 in
set_option maxRecDepth 100000 in
theorem m_byteAt (l : Launch) (dC : Nat → ClassId) (dI : Nat → Nat → Nat) (cy : Nat → ClassId) (sz : Nat) (am : Nat → Nat) (n0 : Int32)  : Met l yX11_byteAt (wl yX11_byteAt cX11_byteAt 2 (some .int)) ({ frames := 1, cells := 0, slots := 0, locals := 64 }) (Pw (dC, dI) vwCl cy [(am 0, .inr (12, [.int 0, .ref (am 1), .int 0, .int 0, .int 0, .int 0, .int 0, .int 0, .int 0, .int 0, .int 0, .int 0, .long 0, .int 0, .ref (am 2), .ref (am 3), .ref (am 4), .ref (am 5), .ref (am 6), .ref (am 7), .ref (am 8), .ref (am 9), .ref (am 10), .ref (am 11), .int 0, .int (-1), .ref (am 12), .ref (am 13), .ref (am 14), .int 0, .ref (am 15), .ref (am 16), .int 0, .int 0, .int 0, .ref (am 17), .int 0, .int 0, .ref (am 18), .ref (am 19), .int 0, .int 0, .ref (am 20), .int 0, .int 0, .int 0, .int 0]))] sz [.ref (am 0), .int n0] nE) (Qi (dC, dI) vwCl (fun (r : Int32) (u : Unit) => r = (-1)) (fun (u : Unit) => []) (va_A [(am 0, .inr (12, [.int 0, .ref (am 1), .int 0, .int 0, .int 0, .int 0, .int 0, .int 0, .int 0, .int 0, .int 0, .int 0, .long 0, .int 0, .ref (am 2), .ref (am 3), .ref (am 4), .ref (am 5), .ref (am 6), .ref (am 7), .ref (am 8), .ref (am 9), .ref (am 10), .ref (am 11), .int 0, .int (-1), .ref (am 12), .ref (am 13), .ref (am 14), .int 0, .ref (am 15), .ref (am 16), .int 0, .int 0, .int 0, .ref (am 17), .int 0, .int 0, .ref (am 18), .ref (am 19), .int 0, .int 0, .ref (am 20), .int 0, .int 0, .int 0, .int 0]))] sz)) 0 0 (va_A [(am 0, .inr (12, [.int 0, .ref (am 1), .int 0, .int 0, .int 0, .int 0, .int 0, .int 0, .int 0, .int 0, .int 0, .int 0, .long 0, .int 0, .ref (am 2), .ref (am 3), .ref (am 4), .ref (am 5), .ref (am 6), .ref (am 7), .ref (am 8), .ref (am 9), .ref (am 10), .ref (am 11), .int 0, .int (-1), .ref (am 12), .ref (am 13), .ref (am 14), .int 0, .ref (am 15), .ref (am 16), .int 0, .int 0, .int 0, .ref (am 17), .int 0, .int 0, .ref (am 18), .ref (am 19), .int 0, .int 0, .ref (am 20), .int 0, .int 0, .int 0, .int 0]))] sz) := by
  refine mw (Qc := Qi (dC, dI) vwCl (fun (r : Int32) (u : Unit) => r = (-1)) (fun (u : Unit) => [])) RX11 rfl (by decide +kernel) (Nat.le_of_ble_eq_true rfl) ?_
  intro p e s m below meth c A hx hb hr hlocks av9 hav hts hown hnm hml hK hP hD hA hS hE hAe Q9 hQ9 ls hl
  have hl : lv_has ls 2 [(0, .ref (am 0)), (1, .int n0)] := hl
  refine lv_aload_n hx hb dX11_byteAt_0 rfl (lv_at hl 0 rfl) ?_
  refine lv_iconst (v := 0) hx hb dX11_byteAt_1 (by decide) ?_
  refine pf_X11_1 hx hb hts hown hK hP hD hS 0 rfl rfl rfl (Nat.le_of_ble_eq_true rfl) dX11_byteAt_2 (fun H locs hP hD hS => ?_)
  have hP : va_P (dC, dI) vwCl [(am 0, .inr (12, [.int 0, .ref (am 1), .int 0, .int 0, .int 0, .int 0, .int 0, .int 0, .int 0, .int 0, .int 0, .int 0, .long 0, .int 0, .ref (am 2), .ref (am 3), .ref (am 4), .ref (am 5), .ref (am 6), .ref (am 7), .ref (am 8), .ref (am 9), .ref (am 10), .ref (am 11), .int 0, .int (-1), .ref (am 12), .ref (am 13), .ref (am 14), .int 0, .ref (am 15), .ref (am 16), .int 0, .int 0, .int 0, .ref (am 17), .int 0, .int 0, .ref (am 18), .ref (am 19), .int 0, .int 0, .ref (am 20), .int 0, .int 0, .int 0, .int 0]))] H := hP
  have hD : va_D A [(am 0, .inr (12, [.int 0, .ref (am 1), .int 0, .int 0, .int 0, .int 0, .int 0, .int 0, .int 0, .int 0, .int 0, .int 0, .long 0, .int 0, .ref (am 2), .ref (am 3), .ref (am 4), .ref (am 5), .ref (am 6), .ref (am 7), .ref (am 8), .ref (am 9), .ref (am 10), .ref (am 11), .int 0, .int (-1), .ref (am 12), .ref (am 13), .ref (am 14), .int 0, .ref (am 15), .ref (am 16), .int 0, .int 0, .int 0, .ref (am 17), .int 0, .int 0, .ref (am 18), .ref (am 19), .int 0, .int 0, .ref (am 20), .int 0, .int 0, .int 0, .int 0]))] := hD
  refine lv_iload_n hx hb dX11_byteAt_5 rfl (lv_at hl 1 rfl) ?_
  refine lv_iconst (v := 0) hx hb dX11_byteAt_6 (by decide) ?_
  refine lv_aload_n hx hb dX11_byteAt_7 rfl (lv_at hl 0 rfl) ?_
  refine gf_X11_335 hx hb hts hown hK hP 0 rfl rfl dX11_byteAt_8 ?_
  refine lv_iconst (v := 1) hx hb dX11_byteAt_11 (by decide) ?_
  refine lv_isub hx hb dX11_byteAt_12 ?_
  refine as_i (-1) (by decide) ?_
  refine jr_i (rSr (As := [.int n0, .int 0, .int (-1)]) (rest := []) ⟨hx, hb, hml, hown, hts⟩ (m_isIn_no l dC dI cy n0 ) (cw_X11_75 hts rfl rfl ⟨Nat.le_of_ble_eq_true rfl, Nat.le_of_ble_eq_true rfl⟩) hP hK [] rfl rfl hl.1 rfl (Nat.le_of_ble_eq_true rfl) dX11_byteAt_13 ⟨Nat.le_of_ble_eq_true rfl, Nat.le_of_ble_eq_true rfl⟩) hP hS (fun r_1 H locs hp_2 hP hS => ?_)
  refine as_i 0 hp_2 ?_
  refine lv_if_eq (tgt := 28) hx hb dX11_byteAt_16 (by decide) (fun _ => ?_) (fun c9 => absurd (by decide) c9)
  refine lv_iconst (v := (-1)) hx hb dX11_byteAt_28 (by decide) ?_
  rw [hQ9]
  exact re_i () hx hb hr hlocks rfl (hP.sub [] rfl) (hD.sub [] rfl rfl) hS dX11_byteAt_29
abbrev cX11_told : ByteArray := prog_13_method_117_code
def yX11_told : MethodName := ⟨RX11, "told", "(I)I"⟩
theorem t2018 : Cond.code yX11_told cX11_told 2 (some .int) ∈ GW := gw_mem 2132 (by decide +kernel) (by decide +kernel)
theorem dX11_told_0 : decode cX11_told 0 = .ok (.aload_n 0, 1) := by decide +kernel
theorem dX11_told_1 : decode cX11_told 1 = .ok (.iconst 0, 1) := by decide +kernel
theorem dX11_told_2 : decode cX11_told 2 = .ok (.putfield 1, 3) := by decide +kernel
theorem dX11_told_5 : decode cX11_told 5 = .ok (.aload_n 0, 1) := by decide +kernel
theorem dX11_told_6 : decode cX11_told 6 = .ok (.getfield 394, 3) := by decide +kernel
theorem t1487 : Cond.fieldLink RX11 394 "LikenessPoundModel" "hasWritten" "Z" ∈ GW := gw_mem 1601 (by decide +kernel) (by decide +kernel)
theorem gf_X11_394 {p : Program} {l : Launch} {e : Env} {R : Room} {s : State} {m : MethodId} {args : Array Value} {below : List Frame} {meth : Method} {c : Code} {H : Heap} {locs : List Loc} {cells slots : Nat} {Q : State → Prop} {cc : ByteArray} {pc : Nat} {ls : Array Slot} {rest : List Value} {D : va_G} {a : Nat} {tys : List (ClassId × FieldType)} {ws : va_W} (hx : p.tables.exec = Jvm.exec) (hb : c.code = cc) (hts : ∀ w ∈ GW, w.before args s = true) (hown : s.vm.findClass RX11 = some m.cls) (hK : va_K D vwCl tys s) (hP : va_P D vwCl ws H) (q0 : Nat) {fs : List Value} (he : ws[q0]? = some (a, .inr (12, fs))) {v : Value} (hv : fs[41]? = some v) (hdg : decode cc pc = .ok (.getfield 394, 3)) (kk : W p l e R s m args below meth c H locs cells slots Q (F0 m (pc + 3) ls (v :: rest))) : W p l e R s m args below meth c H locs cells slots Q (F0 m pc ls (.ref a :: rest)) := va_get (C := RX11) (T := TX11) (N := 47) (ci := 12) hx hb hts inX11 hown hK hP q0 he rfl 41 (by decide) (hts _ t1487) (fun _ h => h) hv hdg kk
theorem dX11_told_9 : decode cX11_told 9 = .ok (.ifCond .eq 21, 3) := by decide +kernel
theorem dX11_told_30 : decode cX11_told 30 = .ok (.iconst (-1), 1) := by decide +kernel
theorem dX11_told_31 : decode cX11_told 31 = .ok (.ireturn, 1) := by decide +kernel
set_option maxHeartbeats 4000000 in
set_option maxRecDepth 100000 in
theorem m_told (l : Launch) (dC : Nat → ClassId) (dI : Nat → Nat → Nat) (cy : Nat → ClassId) (sz : Nat) (am : Nat → Nat) (n0 : Int32)  : Met l yX11_told (wl yX11_told cX11_told 2 (some .int)) ({ frames := 1, cells := 0, slots := 0, locals := 64 }) (Pw (dC, dI) vwCl cy [(am 0, .inr (12, [.int 0, .ref (am 1), .int 0, .int 0, .int 0, .int 0, .int 0, .int 0, .int 0, .int 0, .int 0, .int 0, .long 0, .int 0, .ref (am 2), .ref (am 3), .ref (am 4), .ref (am 5), .ref (am 6), .ref (am 7), .ref (am 8), .ref (am 9), .ref (am 10), .ref (am 11), .int 0, .int (-1), .ref (am 12), .ref (am 13), .ref (am 14), .int 0, .ref (am 15), .ref (am 16), .int 0, .int 0, .int 0, .ref (am 17), .int 0, .int 0, .ref (am 18), .ref (am 19), .int 0, .int 0, .ref (am 20), .int 0, .int 0, .int 0, .int 0]))] sz [.ref (am 0), .int n0] nE) (Qi (dC, dI) vwCl (fun (r : Int32) (u : Unit) => r = (-1)) (fun (u : Unit) => []) (va_A [(am 0, .inr (12, [.int 0, .ref (am 1), .int 0, .int 0, .int 0, .int 0, .int 0, .int 0, .int 0, .int 0, .int 0, .int 0, .long 0, .int 0, .ref (am 2), .ref (am 3), .ref (am 4), .ref (am 5), .ref (am 6), .ref (am 7), .ref (am 8), .ref (am 9), .ref (am 10), .ref (am 11), .int 0, .int (-1), .ref (am 12), .ref (am 13), .ref (am 14), .int 0, .ref (am 15), .ref (am 16), .int 0, .int 0, .int 0, .ref (am 17), .int 0, .int 0, .ref (am 18), .ref (am 19), .int 0, .int 0, .ref (am 20), .int 0, .int 0, .int 0, .int 0]))] sz)) 0 0 (va_A [(am 0, .inr (12, [.int 0, .ref (am 1), .int 0, .int 0, .int 0, .int 0, .int 0, .int 0, .int 0, .int 0, .int 0, .int 0, .long 0, .int 0, .ref (am 2), .ref (am 3), .ref (am 4), .ref (am 5), .ref (am 6), .ref (am 7), .ref (am 8), .ref (am 9), .ref (am 10), .ref (am 11), .int 0, .int (-1), .ref (am 12), .ref (am 13), .ref (am 14), .int 0, .ref (am 15), .ref (am 16), .int 0, .int 0, .int 0, .ref (am 17), .int 0, .int 0, .ref (am 18), .ref (am 19), .int 0, .int 0, .ref (am 20), .int 0, .int 0, .int 0, .int 0]))] sz) := by
  refine mw (Qc := Qi (dC, dI) vwCl (fun (r : Int32) (u : Unit) => r = (-1)) (fun (u : Unit) => [])) RX11 rfl (by decide +kernel) (Nat.le_of_ble_eq_true rfl) ?_
  intro p e s m below meth c A hx hb hr hlocks av9 hav hts hown hnm hml hK hP hD hA hS hE hAe Q9 hQ9 ls hl
  have hl : lv_has ls 2 [(0, .ref (am 0)), (1, .int n0)] := hl
  refine lv_aload_n hx hb dX11_told_0 rfl (lv_at hl 0 rfl) ?_
  refine lv_iconst (v := 0) hx hb dX11_told_1 (by decide) ?_
  refine pf_X11_1 hx hb hts hown hK hP hD hS 0 rfl rfl rfl (Nat.le_of_ble_eq_true rfl) dX11_told_2 (fun H locs hP hD hS => ?_)
  have hP : va_P (dC, dI) vwCl [(am 0, .inr (12, [.int 0, .ref (am 1), .int 0, .int 0, .int 0, .int 0, .int 0, .int 0, .int 0, .int 0, .int 0, .int 0, .long 0, .int 0, .ref (am 2), .ref (am 3), .ref (am 4), .ref (am 5), .ref (am 6), .ref (am 7), .ref (am 8), .ref (am 9), .ref (am 10), .ref (am 11), .int 0, .int (-1), .ref (am 12), .ref (am 13), .ref (am 14), .int 0, .ref (am 15), .ref (am 16), .int 0, .int 0, .int 0, .ref (am 17), .int 0, .int 0, .ref (am 18), .ref (am 19), .int 0, .int 0, .ref (am 20), .int 0, .int 0, .int 0, .int 0]))] H := hP
  have hD : va_D A [(am 0, .inr (12, [.int 0, .ref (am 1), .int 0, .int 0, .int 0, .int 0, .int 0, .int 0, .int 0, .int 0, .int 0, .int 0, .long 0, .int 0, .ref (am 2), .ref (am 3), .ref (am 4), .ref (am 5), .ref (am 6), .ref (am 7), .ref (am 8), .ref (am 9), .ref (am 10), .ref (am 11), .int 0, .int (-1), .ref (am 12), .ref (am 13), .ref (am 14), .int 0, .ref (am 15), .ref (am 16), .int 0, .int 0, .int 0, .ref (am 17), .int 0, .int 0, .ref (am 18), .ref (am 19), .int 0, .int 0, .ref (am 20), .int 0, .int 0, .int 0, .int 0]))] := hD
  refine lv_aload_n hx hb dX11_told_5 rfl (lv_at hl 0 rfl) ?_
  refine gf_X11_394 hx hb hts hown hK hP 0 rfl rfl dX11_told_6 ?_
  refine lv_if_eq (tgt := 30) hx hb dX11_told_9 (by decide) (fun _ => ?_) (fun c9 => absurd (by decide) c9)
  refine lv_iconst (v := (-1)) hx hb dX11_told_30 (by decide) ?_
  rw [hQ9]
  exact re_i () hx hb hr hlocks rfl (hP.sub [] rfl) (hD.sub [] rfl rfl) hS dX11_told_31
abbrev cX11_heaviest : ByteArray := prog_13_method_94_code
def yX11_heaviest : MethodName := ⟨RX11, "heaviest", "()I"⟩
theorem t1925 : Cond.code yX11_heaviest cX11_heaviest 3 (some .int) ∈ GW := gw_mem 2039 (by decide +kernel) (by decide +kernel)
theorem dX11_heaviest_0 : decode cX11_heaviest 0 = .ok (.aload_n 0, 1) := by decide +kernel
theorem dX11_heaviest_1 : decode cX11_heaviest 1 = .ok (.iconst 0, 1) := by decide +kernel
theorem dX11_heaviest_2 : decode cX11_heaviest 2 = .ok (.putfield 1, 3) := by decide +kernel
theorem dX11_heaviest_5 : decode cX11_heaviest 5 = .ok (.iconst (-1), 1) := by decide +kernel
theorem dX11_heaviest_6 : decode cX11_heaviest 6 = .ok (.istore_n 1, 1) := by decide +kernel
theorem dX11_heaviest_7 : decode cX11_heaviest 7 = .ok (.iconst 0, 1) := by decide +kernel
theorem dX11_heaviest_8 : decode cX11_heaviest 8 = .ok (.istore_n 2, 1) := by decide +kernel
theorem dX11_heaviest_9 : decode cX11_heaviest 9 = .ok (.iload_n 2, 1) := by decide +kernel
theorem dX11_heaviest_10 : decode cX11_heaviest 10 = .ok (.aload_n 0, 1) := by decide +kernel
theorem dX11_heaviest_11 : decode cX11_heaviest 11 = .ok (.getfield 98, 3) := by decide +kernel
theorem dX11_heaviest_14 : decode cX11_heaviest 14 = .ok (.iconst 0, 1) := by decide +kernel
theorem dX11_heaviest_15 : decode cX11_heaviest 15 = .ok (.iaload, 1) := by decide +kernel
theorem dX11_heaviest_16 : decode cX11_heaviest 16 = .ok (.if_icmp .ge 29, 3) := by decide +kernel
theorem dX11_heaviest_45 : decode cX11_heaviest 45 = .ok (.iload_n 1, 1) := by decide +kernel
theorem dX11_heaviest_46 : decode cX11_heaviest 46 = .ok (.ireturn, 1) := by decide +kernel
set_option maxHeartbeats 4000000 in
set_option maxRecDepth 100000 in
theorem m_heaviest (l : Launch) (dC : Nat → ClassId) (dI : Nat → Nat → Nat) (cy : Nat → ClassId) (sz : Nat) (am : Nat → Nat) (mi : Nat → Nat → Int32) (hn : NowOk (mi 2)) : Met l yX11_heaviest (wl yX11_heaviest cX11_heaviest 3 (some .int)) ({ frames := 1, cells := 0, slots := 0, locals := 64 }) (Pw (dC, dI) vwCl cy [(am 0, .inr (12, [.int 0, .ref (am 1), .int 0, .int 0, .int 0, .int 0, .int 0, .int 0, .int 0, .int 0, .int 0, .int 0, .long 0, .int 0, .ref (am 2), .ref (am 3), .ref (am 4), .ref (am 5), .ref (am 6), .ref (am 7), .ref (am 8), .ref (am 9), .ref (am 10), .ref (am 11), .int 0, .int (-1), .ref (am 12), .ref (am 13), .ref (am 14), .int 0, .ref (am 15), .ref (am 16), .int 0, .int 0, .int 0, .ref (am 17), .int 0, .int 0, .ref (am 18), .ref (am 19), .int 0, .int 0, .ref (am 20), .int 0, .int 0, .int 0, .int 0])), (am 2, .inl (cy 0, 575, .inl (mi 2)))] sz [.ref (am 0)] nE) (Qi (dC, dI) vwCl (fun (r : Int32) (u : Unit) => r = (-1)) (fun (u : Unit) => []) (va_A [(am 0, .inr (12, [.int 0, .ref (am 1), .int 0, .int 0, .int 0, .int 0, .int 0, .int 0, .int 0, .int 0, .int 0, .int 0, .long 0, .int 0, .ref (am 2), .ref (am 3), .ref (am 4), .ref (am 5), .ref (am 6), .ref (am 7), .ref (am 8), .ref (am 9), .ref (am 10), .ref (am 11), .int 0, .int (-1), .ref (am 12), .ref (am 13), .ref (am 14), .int 0, .ref (am 15), .ref (am 16), .int 0, .int 0, .int 0, .ref (am 17), .int 0, .int 0, .ref (am 18), .ref (am 19), .int 0, .int 0, .ref (am 20), .int 0, .int 0, .int 0, .int 0])), (am 2, .inl (cy 0, 575, .inl (mi 2)))] sz)) 0 0 (va_A [(am 0, .inr (12, [.int 0, .ref (am 1), .int 0, .int 0, .int 0, .int 0, .int 0, .int 0, .int 0, .int 0, .int 0, .int 0, .long 0, .int 0, .ref (am 2), .ref (am 3), .ref (am 4), .ref (am 5), .ref (am 6), .ref (am 7), .ref (am 8), .ref (am 9), .ref (am 10), .ref (am 11), .int 0, .int (-1), .ref (am 12), .ref (am 13), .ref (am 14), .int 0, .ref (am 15), .ref (am 16), .int 0, .int 0, .int 0, .ref (am 17), .int 0, .int 0, .ref (am 18), .ref (am 19), .int 0, .int 0, .ref (am 20), .int 0, .int 0, .int 0, .int 0])), (am 2, .inl (cy 0, 575, .inl (mi 2)))] sz) := by
  refine mw (Qc := Qi (dC, dI) vwCl (fun (r : Int32) (u : Unit) => r = (-1)) (fun (u : Unit) => [])) RX11 rfl (by decide +kernel) (Nat.le_of_ble_eq_true rfl) ?_
  intro p e s m below meth c A hx hb hr hlocks av9 hav hts hown hnm hml hK hP hD hA hS hE hAe Q9 hQ9 ls hl
  have hl : lv_has ls 3 [(0, .ref (am 0))] := hl
  refine lv_aload_n hx hb dX11_heaviest_0 rfl (lv_at hl 0 rfl) ?_
  refine lv_iconst (v := 0) hx hb dX11_heaviest_1 (by decide) ?_
  refine pf_X11_1 hx hb hts hown hK hP hD hS 0 rfl rfl rfl (Nat.le_of_ble_eq_true rfl) dX11_heaviest_2 (fun H locs hP hD hS => ?_)
  have hP : va_P (dC, dI) vwCl [(am 0, .inr (12, [.int 0, .ref (am 1), .int 0, .int 0, .int 0, .int 0, .int 0, .int 0, .int 0, .int 0, .int 0, .int 0, .long 0, .int 0, .ref (am 2), .ref (am 3), .ref (am 4), .ref (am 5), .ref (am 6), .ref (am 7), .ref (am 8), .ref (am 9), .ref (am 10), .ref (am 11), .int 0, .int (-1), .ref (am 12), .ref (am 13), .ref (am 14), .int 0, .ref (am 15), .ref (am 16), .int 0, .int 0, .int 0, .ref (am 17), .int 0, .int 0, .ref (am 18), .ref (am 19), .int 0, .int 0, .ref (am 20), .int 0, .int 0, .int 0, .int 0])), (am 2, .inl (cy 0, 575, .inl (mi 2)))] H := hP
  have hD : va_D A [(am 0, .inr (12, [.int 0, .ref (am 1), .int 0, .int 0, .int 0, .int 0, .int 0, .int 0, .int 0, .int 0, .int 0, .int 0, .long 0, .int 0, .ref (am 2), .ref (am 3), .ref (am 4), .ref (am 5), .ref (am 6), .ref (am 7), .ref (am 8), .ref (am 9), .ref (am 10), .ref (am 11), .int 0, .int (-1), .ref (am 12), .ref (am 13), .ref (am 14), .int 0, .ref (am 15), .ref (am 16), .int 0, .int 0, .int 0, .ref (am 17), .int 0, .int 0, .ref (am 18), .ref (am 19), .int 0, .int 0, .ref (am 20), .int 0, .int 0, .int 0, .int 0])), (am 2, .inl (cy 0, 575, .inl (mi 2)))] := hD
  refine lv_iconst (v := (-1)) hx hb dX11_heaviest_5 (by decide) ?_
  refine lv_istore_n (lv' := [(1, .int (-1)), (0, .ref (am 0))]) hx hb dX11_heaviest_6 rfl hl (by decide) rfl (fun ls hl => ?_)
  refine lv_iconst (v := 0) hx hb dX11_heaviest_7 (by decide) ?_
  refine lv_istore_n (lv' := [(2, .int 0), (1, .int (-1)), (0, .ref (am 0))]) hx hb dX11_heaviest_8 rfl hl (by decide) rfl (fun ls hl => ?_)
  refine lv_iload_n hx hb dX11_heaviest_9 rfl (lv_at hl 0 rfl) ?_
  refine lv_aload_n hx hb dX11_heaviest_10 rfl (lv_at hl 2 rfl) ?_
  refine gf_X11_98 hx hb hts hown hK hP 0 rfl rfl dX11_heaviest_11 ?_
  refine lv_iconst (v := 0) hx hb dX11_heaviest_14 (by decide) ?_
  refine va_iald hx hb hK hP 1 0 rfl rfl (vp_in_nI (n := 0) (N := 575) (by decide) (by decide)) dX11_heaviest_15 ?_
  refine as_i 0 ((congrArg (mi 2) (show (0 : Int32).toNatClampNeg = 0 from rfl)).trans hn.1) ?_
  refine lv_icmp_ge (tgt := 45) hx hb dX11_heaviest_16 (by decide) (fun _ => ?_) (fun c9 => absurd (by decide) c9)
  refine lv_iload_n hx hb dX11_heaviest_45 rfl (lv_at hl 1 rfl) ?_
  rw [hQ9]
  exact re_i () hx hb hr hlocks rfl (hP.sub [] rfl) (hD.sub [] rfl rfl) hS dX11_heaviest_46
abbrev cX11_drawn : ByteArray := prog_13_method_104_code
def yX11_drawn : MethodName := ⟨RX11, "drawn", "(II)I"⟩
theorem t1953 : Cond.code yX11_drawn cX11_drawn 3 (some .int) ∈ GW := gw_mem 2067 (by decide +kernel) (by decide +kernel)
theorem dX11_drawn_0 : decode cX11_drawn 0 = .ok (.aload_n 0, 1) := by decide +kernel
theorem dX11_drawn_1 : decode cX11_drawn 1 = .ok (.iconst 0, 1) := by decide +kernel
theorem dX11_drawn_2 : decode cX11_drawn 2 = .ok (.putfield 1, 3) := by decide +kernel
theorem dX11_drawn_5 : decode cX11_drawn 5 = .ok (.iload_n 1, 1) := by decide +kernel
theorem dX11_drawn_6 : decode cX11_drawn 6 = .ok (.iconst 1, 1) := by decide +kernel
theorem dX11_drawn_7 : decode cX11_drawn 7 = .ok (.bipush 30, 2) := by decide +kernel
theorem dX11_drawn_9 : decode cX11_drawn 9 = .ok (.invokestatic 75, 3) := by decide +kernel
theorem dX11_drawn_12 : decode cX11_drawn 12 = .ok (.ifCond .eq 12, 3) := by decide +kernel
theorem dX11_drawn_24 : decode cX11_drawn 24 = .ok (.iconst (-1), 1) := by decide +kernel
theorem dX11_drawn_25 : decode cX11_drawn 25 = .ok (.ireturn, 1) := by decide +kernel
theorem dX11_drawn_15 : decode cX11_drawn 15 = .ok (.aload_n 0, 1) := by decide +kernel
theorem dX11_drawn_16 : decode cX11_drawn 16 = .ok (.getfield 98, 3) := by decide +kernel
theorem dX11_drawn_19 : decode cX11_drawn 19 = .ok (.iconst 0, 1) := by decide +kernel
theorem dX11_drawn_20 : decode cX11_drawn 20 = .ok (.iaload, 1) := by decide +kernel
theorem dX11_drawn_21 : decode cX11_drawn 21 = .ok (.ifCond .ne 5, 3) := by decide +kernel
set_option maxHeartbeats 4000000 in
set_option maxRecDepth 100000 in
theorem m_drawn (l : Launch) (dC : Nat → ClassId) (dI : Nat → Nat → Nat) (cy : Nat → ClassId) (sz : Nat) (am : Nat → Nat) (mi : Nat → Nat → Int32) (n0 : Int32) (n1 : Int32) (hn : NowOk (mi 2)) : Met l yX11_drawn (wl yX11_drawn cX11_drawn 3 (some .int)) ({ frames := 1, cells := 0, slots := 0, locals := 64 }) (Pw (dC, dI) vwCl cy [(am 0, .inr (12, [.int 0, .ref (am 1), .int 0, .int 0, .int 0, .int 0, .int 0, .int 0, .int 0, .int 0, .int 0, .int 0, .long 0, .int 0, .ref (am 2), .ref (am 3), .ref (am 4), .ref (am 5), .ref (am 6), .ref (am 7), .ref (am 8), .ref (am 9), .ref (am 10), .ref (am 11), .int 0, .int (-1), .ref (am 12), .ref (am 13), .ref (am 14), .int 0, .ref (am 15), .ref (am 16), .int 0, .int 0, .int 0, .ref (am 17), .int 0, .int 0, .ref (am 18), .ref (am 19), .int 0, .int 0, .ref (am 20), .int 0, .int 0, .int 0, .int 0])), (am 2, .inl (cy 0, 575, .inl (mi 2)))] sz [.ref (am 0), .int n0, .int n1] nE) (Qi (dC, dI) vwCl (fun (r : Int32) (u : Unit) => r = (-1)) (fun (u : Unit) => []) (va_A [(am 0, .inr (12, [.int 0, .ref (am 1), .int 0, .int 0, .int 0, .int 0, .int 0, .int 0, .int 0, .int 0, .int 0, .int 0, .long 0, .int 0, .ref (am 2), .ref (am 3), .ref (am 4), .ref (am 5), .ref (am 6), .ref (am 7), .ref (am 8), .ref (am 9), .ref (am 10), .ref (am 11), .int 0, .int (-1), .ref (am 12), .ref (am 13), .ref (am 14), .int 0, .ref (am 15), .ref (am 16), .int 0, .int 0, .int 0, .ref (am 17), .int 0, .int 0, .ref (am 18), .ref (am 19), .int 0, .int 0, .ref (am 20), .int 0, .int 0, .int 0, .int 0])), (am 2, .inl (cy 0, 575, .inl (mi 2)))] sz)) 0 0 (va_A [(am 0, .inr (12, [.int 0, .ref (am 1), .int 0, .int 0, .int 0, .int 0, .int 0, .int 0, .int 0, .int 0, .int 0, .int 0, .long 0, .int 0, .ref (am 2), .ref (am 3), .ref (am 4), .ref (am 5), .ref (am 6), .ref (am 7), .ref (am 8), .ref (am 9), .ref (am 10), .ref (am 11), .int 0, .int (-1), .ref (am 12), .ref (am 13), .ref (am 14), .int 0, .ref (am 15), .ref (am 16), .int 0, .int 0, .int 0, .ref (am 17), .int 0, .int 0, .ref (am 18), .ref (am 19), .int 0, .int 0, .ref (am 20), .int 0, .int 0, .int 0, .int 0])), (am 2, .inl (cy 0, 575, .inl (mi 2)))] sz) := by
  refine mw (Qc := Qi (dC, dI) vwCl (fun (r : Int32) (u : Unit) => r = (-1)) (fun (u : Unit) => [])) RX11 rfl (by decide +kernel) (Nat.le_of_ble_eq_true rfl) ?_
  intro p e s m below meth c A hx hb hr hlocks av9 hav hts hown hnm hml hK hP hD hA hS hE hAe Q9 hQ9 ls hl
  have hl : lv_has ls 3 [(0, .ref (am 0)), (1, .int n0), (2, .int n1)] := hl
  refine lv_aload_n hx hb dX11_drawn_0 rfl (lv_at hl 0 rfl) ?_
  refine lv_iconst (v := 0) hx hb dX11_drawn_1 (by decide) ?_
  refine pf_X11_1 hx hb hts hown hK hP hD hS 0 rfl rfl rfl (Nat.le_of_ble_eq_true rfl) dX11_drawn_2 (fun H locs hP hD hS => ?_)
  have hP : va_P (dC, dI) vwCl [(am 0, .inr (12, [.int 0, .ref (am 1), .int 0, .int 0, .int 0, .int 0, .int 0, .int 0, .int 0, .int 0, .int 0, .int 0, .long 0, .int 0, .ref (am 2), .ref (am 3), .ref (am 4), .ref (am 5), .ref (am 6), .ref (am 7), .ref (am 8), .ref (am 9), .ref (am 10), .ref (am 11), .int 0, .int (-1), .ref (am 12), .ref (am 13), .ref (am 14), .int 0, .ref (am 15), .ref (am 16), .int 0, .int 0, .int 0, .ref (am 17), .int 0, .int 0, .ref (am 18), .ref (am 19), .int 0, .int 0, .ref (am 20), .int 0, .int 0, .int 0, .int 0])), (am 2, .inl (cy 0, 575, .inl (mi 2)))] H := hP
  have hD : va_D A [(am 0, .inr (12, [.int 0, .ref (am 1), .int 0, .int 0, .int 0, .int 0, .int 0, .int 0, .int 0, .int 0, .int 0, .int 0, .long 0, .int 0, .ref (am 2), .ref (am 3), .ref (am 4), .ref (am 5), .ref (am 6), .ref (am 7), .ref (am 8), .ref (am 9), .ref (am 10), .ref (am 11), .int 0, .int (-1), .ref (am 12), .ref (am 13), .ref (am 14), .int 0, .ref (am 15), .ref (am 16), .int 0, .int 0, .int 0, .ref (am 17), .int 0, .int 0, .ref (am 18), .ref (am 19), .int 0, .int 0, .ref (am 20), .int 0, .int 0, .int 0, .int 0])), (am 2, .inl (cy 0, 575, .inl (mi 2)))] := hD
  refine lv_iload_n hx hb dX11_drawn_5 rfl (lv_at hl 1 rfl) ?_
  refine lv_iconst (v := 1) hx hb dX11_drawn_6 (by decide) ?_
  refine lv_bipush (v := 30) hx hb dX11_drawn_7 (by decide) ?_
  refine jr_i (rSr (As := [.int n0, .int 1, .int 30]) (rest := []) ⟨hx, hb, hml, hown, hts⟩ (m_isIn l dC dI cy n0 1 30 ) (cw_X11_75 hts rfl rfl ⟨Nat.le_of_ble_eq_true rfl, Nat.le_of_ble_eq_true rfl⟩) hP hK [] rfl rfl hl.1 rfl (Nat.le_of_ble_eq_true rfl) dX11_drawn_9 ⟨Nat.le_of_ble_eq_true rfl, Nat.le_of_ble_eq_true rfl⟩) hP hS (fun r_1 H locs hp_2 hP hS => ?_)
  refine as_i (inF n0 1 30) hp_2 ?_
  refine lv_if_eq (tgt := 24) hx hb dX11_drawn_12 (by decide) (fun c_3 => ?_) (fun c_3 => ?_)
  · skip
    refine lv_iconst (v := (-1)) hx hb dX11_drawn_24 (by decide) ?_
    rw [hQ9]
    exact re_i () hx hb hr hlocks rfl (hP.sub [] rfl) (hD.sub [] rfl rfl) hS dX11_drawn_25
  · skip
    refine lv_aload_n hx hb dX11_drawn_15 rfl (lv_at hl 0 rfl) ?_
    refine gf_X11_98 hx hb hts hown hK hP 0 rfl rfl dX11_drawn_16 ?_
    refine lv_iconst (v := 0) hx hb dX11_drawn_19 (by decide) ?_
    refine va_iald hx hb hK hP 1 0 rfl rfl (vp_in_nI (n := 0) (N := 575) (by decide) (by decide)) dX11_drawn_20 ?_
    refine as_i 0 ((congrArg (mi 2) (show (0 : Int32).toNatClampNeg = 0 from rfl)).trans hn.1) ?_
    refine lv_if_ne (tgt := 26) hx hb dX11_drawn_21 (by decide) (fun c9 => absurd c9 (by decide)) (fun _ => ?_)
    refine lv_iconst (v := (-1)) hx hb dX11_drawn_24 (by decide) ?_
    rw [hQ9]
    exact re_i () hx hb hr hlocks rfl (hP.sub [] rfl) (hD.sub [] rfl rfl) hS dX11_drawn_25
abbrev cX11_said : ByteArray := prog_13_method_128_code
def yX11_said : MethodName := ⟨RX11, "said", "(I)I"⟩
theorem t2058 : Cond.code yX11_said cX11_said 4 (some .int) ∈ GW := gw_mem 2172 (by decide +kernel) (by decide +kernel)
theorem dX11_said_0 : decode cX11_said 0 = .ok (.aload_n 0, 1) := by decide +kernel
theorem dX11_said_1 : decode cX11_said 1 = .ok (.iconst 0, 1) := by decide +kernel
theorem dX11_said_2 : decode cX11_said 2 = .ok (.putfield 1, 3) := by decide +kernel
theorem dX11_said_5 : decode cX11_said 5 = .ok (.aload_n 0, 1) := by decide +kernel
theorem dX11_said_6 : decode cX11_said 6 = .ok (.getfield 98, 3) := by decide +kernel
theorem dX11_said_9 : decode cX11_said 9 = .ok (.sipush 333, 3) := by decide +kernel
theorem dX11_said_12 : decode cX11_said 12 = .ok (.iaload, 1) := by decide +kernel
theorem dX11_said_13 : decode cX11_said 13 = .ok (.ifCond .ne 5, 3) := by decide +kernel
theorem dX11_said_16 : decode cX11_said 16 = .ok (.iconst (-1), 1) := by decide +kernel
theorem dX11_said_17 : decode cX11_said 17 = .ok (.ireturn, 1) := by decide +kernel
set_option maxHeartbeats 4000000 in
set_option maxRecDepth 100000 in
theorem m_said (l : Launch) (dC : Nat → ClassId) (dI : Nat → Nat → Nat) (cy : Nat → ClassId) (sz : Nat) (am : Nat → Nat) (mi : Nat → Nat → Int32) (n0 : Int32) (hn : NowOk (mi 2)) : Met l yX11_said (wl yX11_said cX11_said 4 (some .int)) ({ frames := 1, cells := 0, slots := 0, locals := 64 }) (Pw (dC, dI) vwCl cy [(am 0, .inr (12, [.int 0, .ref (am 1), .int 0, .int 0, .int 0, .int 0, .int 0, .int 0, .int 0, .int 0, .int 0, .int 0, .long 0, .int 0, .ref (am 2), .ref (am 3), .ref (am 4), .ref (am 5), .ref (am 6), .ref (am 7), .ref (am 8), .ref (am 9), .ref (am 10), .ref (am 11), .int 0, .int (-1), .ref (am 12), .ref (am 13), .ref (am 14), .int 0, .ref (am 15), .ref (am 16), .int 0, .int 0, .int 0, .ref (am 17), .int 0, .int 0, .ref (am 18), .ref (am 19), .int 0, .int 0, .ref (am 20), .int 0, .int 0, .int 0, .int 0])), (am 2, .inl (cy 0, 575, .inl (mi 2)))] sz [.ref (am 0), .int n0] nE) (Qi (dC, dI) vwCl (fun (r : Int32) (u : Unit) => r = (-1)) (fun (u : Unit) => []) (va_A [(am 0, .inr (12, [.int 0, .ref (am 1), .int 0, .int 0, .int 0, .int 0, .int 0, .int 0, .int 0, .int 0, .int 0, .int 0, .long 0, .int 0, .ref (am 2), .ref (am 3), .ref (am 4), .ref (am 5), .ref (am 6), .ref (am 7), .ref (am 8), .ref (am 9), .ref (am 10), .ref (am 11), .int 0, .int (-1), .ref (am 12), .ref (am 13), .ref (am 14), .int 0, .ref (am 15), .ref (am 16), .int 0, .int 0, .int 0, .ref (am 17), .int 0, .int 0, .ref (am 18), .ref (am 19), .int 0, .int 0, .ref (am 20), .int 0, .int 0, .int 0, .int 0])), (am 2, .inl (cy 0, 575, .inl (mi 2)))] sz)) 0 0 (va_A [(am 0, .inr (12, [.int 0, .ref (am 1), .int 0, .int 0, .int 0, .int 0, .int 0, .int 0, .int 0, .int 0, .int 0, .int 0, .long 0, .int 0, .ref (am 2), .ref (am 3), .ref (am 4), .ref (am 5), .ref (am 6), .ref (am 7), .ref (am 8), .ref (am 9), .ref (am 10), .ref (am 11), .int 0, .int (-1), .ref (am 12), .ref (am 13), .ref (am 14), .int 0, .ref (am 15), .ref (am 16), .int 0, .int 0, .int 0, .ref (am 17), .int 0, .int 0, .ref (am 18), .ref (am 19), .int 0, .int 0, .ref (am 20), .int 0, .int 0, .int 0, .int 0])), (am 2, .inl (cy 0, 575, .inl (mi 2)))] sz) := by
  refine mw (Qc := Qi (dC, dI) vwCl (fun (r : Int32) (u : Unit) => r = (-1)) (fun (u : Unit) => [])) RX11 rfl (by decide +kernel) (Nat.le_of_ble_eq_true rfl) ?_
  intro p e s m below meth c A hx hb hr hlocks av9 hav hts hown hnm hml hK hP hD hA hS hE hAe Q9 hQ9 ls hl
  have hl : lv_has ls 4 [(0, .ref (am 0)), (1, .int n0)] := hl
  refine lv_aload_n hx hb dX11_said_0 rfl (lv_at hl 0 rfl) ?_
  refine lv_iconst (v := 0) hx hb dX11_said_1 (by decide) ?_
  refine pf_X11_1 hx hb hts hown hK hP hD hS 0 rfl rfl rfl (Nat.le_of_ble_eq_true rfl) dX11_said_2 (fun H locs hP hD hS => ?_)
  have hP : va_P (dC, dI) vwCl [(am 0, .inr (12, [.int 0, .ref (am 1), .int 0, .int 0, .int 0, .int 0, .int 0, .int 0, .int 0, .int 0, .int 0, .int 0, .long 0, .int 0, .ref (am 2), .ref (am 3), .ref (am 4), .ref (am 5), .ref (am 6), .ref (am 7), .ref (am 8), .ref (am 9), .ref (am 10), .ref (am 11), .int 0, .int (-1), .ref (am 12), .ref (am 13), .ref (am 14), .int 0, .ref (am 15), .ref (am 16), .int 0, .int 0, .int 0, .ref (am 17), .int 0, .int 0, .ref (am 18), .ref (am 19), .int 0, .int 0, .ref (am 20), .int 0, .int 0, .int 0, .int 0])), (am 2, .inl (cy 0, 575, .inl (mi 2)))] H := hP
  have hD : va_D A [(am 0, .inr (12, [.int 0, .ref (am 1), .int 0, .int 0, .int 0, .int 0, .int 0, .int 0, .int 0, .int 0, .int 0, .int 0, .long 0, .int 0, .ref (am 2), .ref (am 3), .ref (am 4), .ref (am 5), .ref (am 6), .ref (am 7), .ref (am 8), .ref (am 9), .ref (am 10), .ref (am 11), .int 0, .int (-1), .ref (am 12), .ref (am 13), .ref (am 14), .int 0, .ref (am 15), .ref (am 16), .int 0, .int 0, .int 0, .ref (am 17), .int 0, .int 0, .ref (am 18), .ref (am 19), .int 0, .int 0, .ref (am 20), .int 0, .int 0, .int 0, .int 0])), (am 2, .inl (cy 0, 575, .inl (mi 2)))] := hD
  refine lv_aload_n hx hb dX11_said_5 rfl (lv_at hl 0 rfl) ?_
  refine gf_X11_98 hx hb hts hown hK hP 0 rfl rfl dX11_said_6 ?_
  refine lv_sipush (v := 333) hx hb dX11_said_9 (by decide) ?_
  refine va_iald hx hb hK hP 1 0 rfl rfl (vp_in_nI (n := 333) (N := 575) (by decide) (by decide)) dX11_said_12 ?_
  refine as_i 0 ((congrArg (mi 2) (show (333 : Int32).toNatClampNeg = 333 from rfl)).trans hn.2.2.2.2.2.1) ?_
  refine lv_if_ne (tgt := 18) hx hb dX11_said_13 (by decide) (fun c9 => absurd c9 (by decide)) (fun _ => ?_)
  refine lv_iconst (v := (-1)) hx hb dX11_said_16 (by decide) ?_
  rw [hQ9]
  exact re_i () hx hb hr hlocks rfl (hP.sub [] rfl) (hD.sub [] rfl rfl) hS dX11_said_17
abbrev cX11_undo : ByteArray := prog_13_method_78_code
def yX11_undo : MethodName := ⟨RX11, "undo", "()I"⟩
theorem t1857 : Cond.code yX11_undo cX11_undo 2 (some .int) ∈ GW := gw_mem 1971 (by decide +kernel) (by decide +kernel)
theorem dX11_undo_0 : decode cX11_undo 0 = .ok (.aload_n 0, 1) := by decide +kernel
theorem dX11_undo_1 : decode cX11_undo 1 = .ok (.iconst 0, 1) := by decide +kernel
theorem dX11_undo_2 : decode cX11_undo 2 = .ok (.putfield 1, 3) := by decide +kernel
theorem dX11_undo_5 : decode cX11_undo 5 = .ok (.aload_n 0, 1) := by decide +kernel
theorem dX11_undo_6 : decode cX11_undo 6 = .ok (.getfield 225, 3) := by decide +kernel
theorem t1470 : Cond.fieldLink RX11 225 "LikenessPoundModel" "snapMany" "I" ∈ GW := gw_mem 1584 (by decide +kernel) (by decide +kernel)
theorem gf_X11_225 {p : Program} {l : Launch} {e : Env} {R : Room} {s : State} {m : MethodId} {args : Array Value} {below : List Frame} {meth : Method} {c : Code} {H : Heap} {locs : List Loc} {cells slots : Nat} {Q : State → Prop} {cc : ByteArray} {pc : Nat} {ls : Array Slot} {rest : List Value} {D : va_G} {a : Nat} {tys : List (ClassId × FieldType)} {ws : va_W} (hx : p.tables.exec = Jvm.exec) (hb : c.code = cc) (hts : ∀ w ∈ GW, w.before args s = true) (hown : s.vm.findClass RX11 = some m.cls) (hK : va_K D vwCl tys s) (hP : va_P D vwCl ws H) (q0 : Nat) {fs : List Value} (he : ws[q0]? = some (a, .inr (12, fs))) {v : Value} (hv : fs[24]? = some v) (hdg : decode cc pc = .ok (.getfield 225, 3)) (kk : W p l e R s m args below meth c H locs cells slots Q (F0 m (pc + 3) ls (v :: rest))) : W p l e R s m args below meth c H locs cells slots Q (F0 m pc ls (.ref a :: rest)) := va_get (C := RX11) (T := TX11) (N := 47) (ci := 12) hx hb hts inX11 hown hK hP q0 he rfl 24 (by decide) (hts _ t1470) (fun _ h => h) hv hdg kk
theorem dX11_undo_9 : decode cX11_undo 9 = .ok (.ifCond .ne 5, 3) := by decide +kernel
theorem dX11_undo_12 : decode cX11_undo 12 = .ok (.iconst (-1), 1) := by decide +kernel
theorem dX11_undo_13 : decode cX11_undo 13 = .ok (.ireturn, 1) := by decide +kernel
set_option maxHeartbeats 4000000 in
set_option maxRecDepth 100000 in
theorem m_undo (l : Launch) (dC : Nat → ClassId) (dI : Nat → Nat → Nat) (cy : Nat → ClassId) (sz : Nat) (am : Nat → Nat)  : Met l yX11_undo (wl yX11_undo cX11_undo 2 (some .int)) ({ frames := 1, cells := 0, slots := 0, locals := 64 }) (Pw (dC, dI) vwCl cy [(am 0, .inr (12, [.int 0, .ref (am 1), .int 0, .int 0, .int 0, .int 0, .int 0, .int 0, .int 0, .int 0, .int 0, .int 0, .long 0, .int 0, .ref (am 2), .ref (am 3), .ref (am 4), .ref (am 5), .ref (am 6), .ref (am 7), .ref (am 8), .ref (am 9), .ref (am 10), .ref (am 11), .int 0, .int (-1), .ref (am 12), .ref (am 13), .ref (am 14), .int 0, .ref (am 15), .ref (am 16), .int 0, .int 0, .int 0, .ref (am 17), .int 0, .int 0, .ref (am 18), .ref (am 19), .int 0, .int 0, .ref (am 20), .int 0, .int 0, .int 0, .int 0]))] sz [.ref (am 0)] nE) (Qi (dC, dI) vwCl (fun (r : Int32) (u : Unit) => r = (-1)) (fun (u : Unit) => []) (va_A [(am 0, .inr (12, [.int 0, .ref (am 1), .int 0, .int 0, .int 0, .int 0, .int 0, .int 0, .int 0, .int 0, .int 0, .int 0, .long 0, .int 0, .ref (am 2), .ref (am 3), .ref (am 4), .ref (am 5), .ref (am 6), .ref (am 7), .ref (am 8), .ref (am 9), .ref (am 10), .ref (am 11), .int 0, .int (-1), .ref (am 12), .ref (am 13), .ref (am 14), .int 0, .ref (am 15), .ref (am 16), .int 0, .int 0, .int 0, .ref (am 17), .int 0, .int 0, .ref (am 18), .ref (am 19), .int 0, .int 0, .ref (am 20), .int 0, .int 0, .int 0, .int 0]))] sz)) 0 0 (va_A [(am 0, .inr (12, [.int 0, .ref (am 1), .int 0, .int 0, .int 0, .int 0, .int 0, .int 0, .int 0, .int 0, .int 0, .int 0, .long 0, .int 0, .ref (am 2), .ref (am 3), .ref (am 4), .ref (am 5), .ref (am 6), .ref (am 7), .ref (am 8), .ref (am 9), .ref (am 10), .ref (am 11), .int 0, .int (-1), .ref (am 12), .ref (am 13), .ref (am 14), .int 0, .ref (am 15), .ref (am 16), .int 0, .int 0, .int 0, .ref (am 17), .int 0, .int 0, .ref (am 18), .ref (am 19), .int 0, .int 0, .ref (am 20), .int 0, .int 0, .int 0, .int 0]))] sz) := by
  refine mw (Qc := Qi (dC, dI) vwCl (fun (r : Int32) (u : Unit) => r = (-1)) (fun (u : Unit) => [])) RX11 rfl (by decide +kernel) (Nat.le_of_ble_eq_true rfl) ?_
  intro p e s m below meth c A hx hb hr hlocks av9 hav hts hown hnm hml hK hP hD hA hS hE hAe Q9 hQ9 ls hl
  have hl : lv_has ls 2 [(0, .ref (am 0))] := hl
  refine lv_aload_n hx hb dX11_undo_0 rfl (lv_at hl 0 rfl) ?_
  refine lv_iconst (v := 0) hx hb dX11_undo_1 (by decide) ?_
  refine pf_X11_1 hx hb hts hown hK hP hD hS 0 rfl rfl rfl (Nat.le_of_ble_eq_true rfl) dX11_undo_2 (fun H locs hP hD hS => ?_)
  have hP : va_P (dC, dI) vwCl [(am 0, .inr (12, [.int 0, .ref (am 1), .int 0, .int 0, .int 0, .int 0, .int 0, .int 0, .int 0, .int 0, .int 0, .int 0, .long 0, .int 0, .ref (am 2), .ref (am 3), .ref (am 4), .ref (am 5), .ref (am 6), .ref (am 7), .ref (am 8), .ref (am 9), .ref (am 10), .ref (am 11), .int 0, .int (-1), .ref (am 12), .ref (am 13), .ref (am 14), .int 0, .ref (am 15), .ref (am 16), .int 0, .int 0, .int 0, .ref (am 17), .int 0, .int 0, .ref (am 18), .ref (am 19), .int 0, .int 0, .ref (am 20), .int 0, .int 0, .int 0, .int 0]))] H := hP
  have hD : va_D A [(am 0, .inr (12, [.int 0, .ref (am 1), .int 0, .int 0, .int 0, .int 0, .int 0, .int 0, .int 0, .int 0, .int 0, .int 0, .long 0, .int 0, .ref (am 2), .ref (am 3), .ref (am 4), .ref (am 5), .ref (am 6), .ref (am 7), .ref (am 8), .ref (am 9), .ref (am 10), .ref (am 11), .int 0, .int (-1), .ref (am 12), .ref (am 13), .ref (am 14), .int 0, .ref (am 15), .ref (am 16), .int 0, .int 0, .int 0, .ref (am 17), .int 0, .int 0, .ref (am 18), .ref (am 19), .int 0, .int 0, .ref (am 20), .int 0, .int 0, .int 0, .int 0]))] := hD
  refine lv_aload_n hx hb dX11_undo_5 rfl (lv_at hl 0 rfl) ?_
  refine gf_X11_225 hx hb hts hown hK hP 0 rfl rfl dX11_undo_6 ?_
  refine lv_if_ne (tgt := 14) hx hb dX11_undo_9 (by decide) (fun c9 => absurd c9 (by decide)) (fun _ => ?_)
  refine lv_iconst (v := (-1)) hx hb dX11_undo_12 (by decide) ?_
  rw [hQ9]
  exact re_i () hx hb hr hlocks rfl (hP.sub [] rfl) (hD.sub [] rfl rfl) hS dX11_undo_13
abbrev cX11_count : ByteArray := prog_13_method_131_code
def yX11_count : MethodName := ⟨RX11, "count", "(I)I"⟩
theorem t2075 : Cond.code yX11_count cX11_count 2 (some .int) ∈ GW := gw_mem 2189 (by decide +kernel) (by decide +kernel)
theorem dX11_count_0 : decode cX11_count 0 = .ok (.aload_n 0, 1) := by decide +kernel
theorem dX11_count_1 : decode cX11_count 1 = .ok (.iconst 0, 1) := by decide +kernel
theorem dX11_count_2 : decode cX11_count 2 = .ok (.putfield 1, 3) := by decide +kernel
theorem dX11_count_5 : decode cX11_count 5 = .ok (.iload_n 1, 1) := by decide +kernel
theorem dX11_count_6 : decode cX11_count 6 = .ok (.tableswitch 67 0 4 #[34, 41, 48, 55, 62], 34) := by decide +kernel
theorem dX11_count_73 : decode cX11_count 73 = .ok (.iconst (-1), 1) := by decide +kernel
theorem dX11_count_74 : decode cX11_count 74 = .ok (.ireturn, 1) := by decide +kernel
theorem dX11_count_40 : decode cX11_count 40 = .ok (.aload_n 0, 1) := by decide +kernel
theorem dX11_count_41 : decode cX11_count 41 = .ok (.getfield 98, 3) := by decide +kernel
theorem dX11_count_44 : decode cX11_count 44 = .ok (.iconst 0, 1) := by decide +kernel
theorem dX11_count_45 : decode cX11_count 45 = .ok (.iaload, 1) := by decide +kernel
theorem dX11_count_46 : decode cX11_count 46 = .ok (.ireturn, 1) := by decide +kernel
theorem dX11_count_47 : decode cX11_count 47 = .ok (.aload_n 0, 1) := by decide +kernel
theorem dX11_count_48 : decode cX11_count 48 = .ok (.getfield 98, 3) := by decide +kernel
theorem dX11_count_51 : decode cX11_count 51 = .ok (.iconst 1, 1) := by decide +kernel
theorem dX11_count_52 : decode cX11_count 52 = .ok (.iaload, 1) := by decide +kernel
theorem dX11_count_53 : decode cX11_count 53 = .ok (.ireturn, 1) := by decide +kernel
theorem dX11_count_54 : decode cX11_count 54 = .ok (.aload_n 0, 1) := by decide +kernel
theorem dX11_count_55 : decode cX11_count 55 = .ok (.getfield 98, 3) := by decide +kernel
theorem dX11_count_58 : decode cX11_count 58 = .ok (.iconst 2, 1) := by decide +kernel
theorem dX11_count_59 : decode cX11_count 59 = .ok (.iaload, 1) := by decide +kernel
theorem dX11_count_60 : decode cX11_count 60 = .ok (.ireturn, 1) := by decide +kernel
theorem dX11_count_61 : decode cX11_count 61 = .ok (.aload_n 0, 1) := by decide +kernel
theorem dX11_count_62 : decode cX11_count 62 = .ok (.getfield 98, 3) := by decide +kernel
theorem dX11_count_65 : decode cX11_count 65 = .ok (.iconst 3, 1) := by decide +kernel
theorem dX11_count_66 : decode cX11_count 66 = .ok (.iaload, 1) := by decide +kernel
theorem dX11_count_67 : decode cX11_count 67 = .ok (.ireturn, 1) := by decide +kernel
theorem dX11_count_68 : decode cX11_count 68 = .ok (.aload_n 0, 1) := by decide +kernel
theorem dX11_count_69 : decode cX11_count 69 = .ok (.getfield 11, 3) := by decide +kernel
theorem t1448 : Cond.fieldLink RX11 11 "LikenessPoundModel" "taped" "I" ∈ GW := gw_mem 1562 (by decide +kernel) (by decide +kernel)
theorem gf_X11_11 {p : Program} {l : Launch} {e : Env} {R : Room} {s : State} {m : MethodId} {args : Array Value} {below : List Frame} {meth : Method} {c : Code} {H : Heap} {locs : List Loc} {cells slots : Nat} {Q : State → Prop} {cc : ByteArray} {pc : Nat} {ls : Array Slot} {rest : List Value} {D : va_G} {a : Nat} {tys : List (ClassId × FieldType)} {ws : va_W} (hx : p.tables.exec = Jvm.exec) (hb : c.code = cc) (hts : ∀ w ∈ GW, w.before args s = true) (hown : s.vm.findClass RX11 = some m.cls) (hK : va_K D vwCl tys s) (hP : va_P D vwCl ws H) (q0 : Nat) {fs : List Value} (he : ws[q0]? = some (a, .inr (12, fs))) {v : Value} (hv : fs[2]? = some v) (hdg : decode cc pc = .ok (.getfield 11, 3)) (kk : W p l e R s m args below meth c H locs cells slots Q (F0 m (pc + 3) ls (v :: rest))) : W p l e R s m args below meth c H locs cells slots Q (F0 m pc ls (.ref a :: rest)) := va_get (C := RX11) (T := TX11) (N := 47) (ci := 12) hx hb hts inX11 hown hK hP q0 he rfl 2 (by decide) (hts _ t1448) (fun _ h => h) hv hdg kk
theorem dX11_count_72 : decode cX11_count 72 = .ok (.ireturn, 1) := by decide +kernel
set_option maxHeartbeats 4000000 in
set_option maxRecDepth 100000 in
theorem m_count (l : Launch) (dC : Nat → ClassId) (dI : Nat → Nat → Nat) (cy : Nat → ClassId) (sz : Nat) (am : Nat → Nat) (mi : Nat → Nat → Int32) (n0 : Int32) (hn : NowOk (mi 2)) : Met l yX11_count (wl yX11_count cX11_count 2 (some .int)) ({ frames := 0, cells := 0, slots := 0, locals := 0 }) (Pw (dC, dI) vwCl cy [(am 0, .inr (12, [.int 0, .ref (am 1), .int 0, .int 0, .int 0, .int 0, .int 0, .int 0, .int 0, .int 0, .int 0, .int 0, .long 0, .int 0, .ref (am 2), .ref (am 3), .ref (am 4), .ref (am 5), .ref (am 6), .ref (am 7), .ref (am 8), .ref (am 9), .ref (am 10), .ref (am 11), .int 0, .int (-1), .ref (am 12), .ref (am 13), .ref (am 14), .int 0, .ref (am 15), .ref (am 16), .int 0, .int 0, .int 0, .ref (am 17), .int 0, .int 0, .ref (am 18), .ref (am 19), .int 0, .int 0, .ref (am 20), .int 0, .int 0, .int 0, .int 0])), (am 2, .inl (cy 0, 575, .inl (mi 2)))] sz [.ref (am 0), .int n0] nE) (Qi (dC, dI) vwCl (fun (r : Int32) (u : Unit) => r = cntF n0) (fun (u : Unit) => []) (va_A [(am 0, .inr (12, [.int 0, .ref (am 1), .int 0, .int 0, .int 0, .int 0, .int 0, .int 0, .int 0, .int 0, .int 0, .int 0, .long 0, .int 0, .ref (am 2), .ref (am 3), .ref (am 4), .ref (am 5), .ref (am 6), .ref (am 7), .ref (am 8), .ref (am 9), .ref (am 10), .ref (am 11), .int 0, .int (-1), .ref (am 12), .ref (am 13), .ref (am 14), .int 0, .ref (am 15), .ref (am 16), .int 0, .int 0, .int 0, .ref (am 17), .int 0, .int 0, .ref (am 18), .ref (am 19), .int 0, .int 0, .ref (am 20), .int 0, .int 0, .int 0, .int 0])), (am 2, .inl (cy 0, 575, .inl (mi 2)))] sz)) 0 0 (va_A [(am 0, .inr (12, [.int 0, .ref (am 1), .int 0, .int 0, .int 0, .int 0, .int 0, .int 0, .int 0, .int 0, .int 0, .int 0, .long 0, .int 0, .ref (am 2), .ref (am 3), .ref (am 4), .ref (am 5), .ref (am 6), .ref (am 7), .ref (am 8), .ref (am 9), .ref (am 10), .ref (am 11), .int 0, .int (-1), .ref (am 12), .ref (am 13), .ref (am 14), .int 0, .ref (am 15), .ref (am 16), .int 0, .int 0, .int 0, .ref (am 17), .int 0, .int 0, .ref (am 18), .ref (am 19), .int 0, .int 0, .ref (am 20), .int 0, .int 0, .int 0, .int 0])), (am 2, .inl (cy 0, 575, .inl (mi 2)))] sz) := by
  refine mw (Qc := Qi (dC, dI) vwCl (fun (r : Int32) (u : Unit) => r = cntF n0) (fun (u : Unit) => [])) RX11 rfl (by decide +kernel) (Nat.le_of_ble_eq_true rfl) ?_
  intro p e s m below meth c A hx hb hr hlocks av9 hav hts hown hnm hml hK hP hD hA hS hE hAe Q9 hQ9 ls hl
  have hl : lv_has ls 2 [(0, .ref (am 0)), (1, .int n0)] := hl
  refine lv_aload_n hx hb dX11_count_0 rfl (lv_at hl 0 rfl) ?_
  refine lv_iconst (v := 0) hx hb dX11_count_1 (by decide) ?_
  refine pf_X11_1 hx hb hts hown hK hP hD hS 0 rfl rfl rfl (Nat.le_of_ble_eq_true rfl) dX11_count_2 (fun H locs hP hD hS => ?_)
  have hP : va_P (dC, dI) vwCl [(am 0, .inr (12, [.int 0, .ref (am 1), .int 0, .int 0, .int 0, .int 0, .int 0, .int 0, .int 0, .int 0, .int 0, .int 0, .long 0, .int 0, .ref (am 2), .ref (am 3), .ref (am 4), .ref (am 5), .ref (am 6), .ref (am 7), .ref (am 8), .ref (am 9), .ref (am 10), .ref (am 11), .int 0, .int (-1), .ref (am 12), .ref (am 13), .ref (am 14), .int 0, .ref (am 15), .ref (am 16), .int 0, .int 0, .int 0, .ref (am 17), .int 0, .int 0, .ref (am 18), .ref (am 19), .int 0, .int 0, .ref (am 20), .int 0, .int 0, .int 0, .int 0])), (am 2, .inl (cy 0, 575, .inl (mi 2)))] H := hP
  have hD : va_D A [(am 0, .inr (12, [.int 0, .ref (am 1), .int 0, .int 0, .int 0, .int 0, .int 0, .int 0, .int 0, .int 0, .int 0, .int 0, .long 0, .int 0, .ref (am 2), .ref (am 3), .ref (am 4), .ref (am 5), .ref (am 6), .ref (am 7), .ref (am 8), .ref (am 9), .ref (am 10), .ref (am 11), .int 0, .int (-1), .ref (am 12), .ref (am 13), .ref (am 14), .int 0, .ref (am 15), .ref (am 16), .int 0, .int 0, .int 0, .ref (am 17), .int 0, .int 0, .ref (am 18), .ref (am 19), .int 0, .int 0, .ref (am 20), .int 0, .int 0, .int 0, .int 0])), (am 2, .inl (cy 0, 575, .inl (mi 2)))] := hD
  refine lv_iload_n hx hb dX11_count_5 rfl (lv_at hl 1 rfl) ?_
  by_cases sw_1 : n0.toInt < 0 ∨ 4 < n0.toInt
  · refine lv_tableOut (tgt := 73) hx hb dX11_count_6 sw_1 (by decide) ?_
    refine lv_iconst (v := (-1)) hx hb dX11_count_73 (by decide) ?_
    rw [hQ9]
    exact re_i () hx hb hr hlocks (cntF_out sw_1).symm (hP.sub [] rfl) (hD.sub [] rfl rfl) hS dX11_count_74
  · have sw_1a : n0 = 0 ∨ n0 = 1 ∨ n0 = 2 ∨ n0 = 3 ∨ n0 = 4 := sw_cases_0_4 n0 sw_1
    rcases sw_1a with sw_1b | sw_1b | sw_1b | sw_1b | sw_1b
    · refine as_i 0 sw_1b ?_
      refine lv_tableIn (off := 34) (tgt := 40) hx hb dX11_count_6 (by decide) (by decide) (by decide) (by decide) ?_
      refine lv_aload_n hx hb dX11_count_40 rfl (lv_at hl 0 rfl) ?_
      refine gf_X11_98 hx hb hts hown hK hP 0 rfl rfl dX11_count_41 ?_
      refine lv_iconst (v := 0) hx hb dX11_count_44 (by decide) ?_
      refine va_iald hx hb hK hP 1 0 rfl rfl (vp_in_nI (n := 0) (N := 575) (by decide) (by decide)) dX11_count_45 ?_
      refine as_i 0 ((congrArg (mi 2) (show (0 : Int32).toNatClampNeg = 0 from rfl)).trans hn.1) ?_
      rw [hQ9]
      exact re_i () hx hb hr hlocks (by rw [sw_1b]; rfl) (hP.sub [] rfl) (hD.sub [] rfl rfl) hS dX11_count_46
    · refine as_i 1 sw_1b ?_
      refine lv_tableIn (off := 41) (tgt := 47) hx hb dX11_count_6 (by decide) (by decide) (by decide) (by decide) ?_
      refine lv_aload_n hx hb dX11_count_47 rfl (lv_at hl 0 rfl) ?_
      refine gf_X11_98 hx hb hts hown hK hP 0 rfl rfl dX11_count_48 ?_
      refine lv_iconst (v := 1) hx hb dX11_count_51 (by decide) ?_
      refine va_iald hx hb hK hP 1 0 rfl rfl (vp_in_nI (n := 1) (N := 575) (by decide) (by decide)) dX11_count_52 ?_
      refine as_i 0 ((congrArg (mi 2) (show (1 : Int32).toNatClampNeg = 1 from rfl)).trans hn.2.1) ?_
      rw [hQ9]
      exact re_i () hx hb hr hlocks (by rw [sw_1b]; rfl) (hP.sub [] rfl) (hD.sub [] rfl rfl) hS dX11_count_53
    · refine as_i 2 sw_1b ?_
      refine lv_tableIn (off := 48) (tgt := 54) hx hb dX11_count_6 (by decide) (by decide) (by decide) (by decide) ?_
      refine lv_aload_n hx hb dX11_count_54 rfl (lv_at hl 0 rfl) ?_
      refine gf_X11_98 hx hb hts hown hK hP 0 rfl rfl dX11_count_55 ?_
      refine lv_iconst (v := 2) hx hb dX11_count_58 (by decide) ?_
      refine va_iald hx hb hK hP 1 0 rfl rfl (vp_in_nI (n := 2) (N := 575) (by decide) (by decide)) dX11_count_59 ?_
      refine as_i 60 ((congrArg (mi 2) (show (2 : Int32).toNatClampNeg = 2 from rfl)).trans hn.2.2.1) ?_
      rw [hQ9]
      exact re_i () hx hb hr hlocks (by rw [sw_1b]; rfl) (hP.sub [] rfl) (hD.sub [] rfl rfl) hS dX11_count_60
    · refine as_i 3 sw_1b ?_
      refine lv_tableIn (off := 55) (tgt := 61) hx hb dX11_count_6 (by decide) (by decide) (by decide) (by decide) ?_
      refine lv_aload_n hx hb dX11_count_61 rfl (lv_at hl 0 rfl) ?_
      refine gf_X11_98 hx hb hts hown hK hP 0 rfl rfl dX11_count_62 ?_
      refine lv_iconst (v := 3) hx hb dX11_count_65 (by decide) ?_
      refine va_iald hx hb hK hP 1 0 rfl rfl (vp_in_nI (n := 3) (N := 575) (by decide) (by decide)) dX11_count_66 ?_
      refine as_i 10 ((congrArg (mi 2) (show (3 : Int32).toNatClampNeg = 3 from rfl)).trans hn.2.2.2.1) ?_
      rw [hQ9]
      exact re_i () hx hb hr hlocks (by rw [sw_1b]; rfl) (hP.sub [] rfl) (hD.sub [] rfl rfl) hS dX11_count_67
    · refine as_i 4 sw_1b ?_
      refine lv_tableIn (off := 62) (tgt := 68) hx hb dX11_count_6 (by decide) (by decide) (by decide) (by decide) ?_
      refine lv_aload_n hx hb dX11_count_68 rfl (lv_at hl 0 rfl) ?_
      refine gf_X11_11 hx hb hts hown hK hP 0 rfl rfl dX11_count_69 ?_
      rw [hQ9]
      exact re_i () hx hb hr hlocks (by rw [sw_1b]; rfl) (hP.sub [] rfl) (hD.sub [] rfl rfl) hS dX11_count_72
abbrev cX11_now : ByteArray := prog_13_method_62_code
def yX11_now : MethodName := ⟨RX11, "now", "(I)I"⟩
theorem t1782 : Cond.code yX11_now cX11_now 4 (some .int) ∈ GW := gw_mem 1896 (by decide +kernel) (by decide +kernel)
theorem dX11_now_0 : decode cX11_now 0 = .ok (.aload_n 0, 1) := by decide +kernel
theorem dX11_now_1 : decode cX11_now 1 = .ok (.iconst 0, 1) := by decide +kernel
theorem dX11_now_2 : decode cX11_now 2 = .ok (.putfield 1, 3) := by decide +kernel
theorem dX11_now_5 : decode cX11_now 5 = .ok (.iconst 0, 1) := by decide +kernel
theorem dX11_now_6 : decode cX11_now 6 = .ok (.istore_n 2, 1) := by decide +kernel
theorem dX11_now_7 : decode cX11_now 7 = .ok (.iload_n 1, 1) := by decide +kernel
theorem dX11_now_8 : decode cX11_now 8 = .ok (.tableswitch 169 0 7 #[48, 57, 57, 57, 65, 99, 99, 140], 48) := by decide +kernel
theorem dX11_now_177 : decode cX11_now 177 = .ok (.iconst (-1), 1) := by decide +kernel
theorem dX11_now_178 : decode cX11_now 178 = .ok (.ireturn, 1) := by decide +kernel
theorem dX11_now_56 : decode cX11_now 56 = .ok (.aload_n 0, 1) := by decide +kernel
theorem dX11_now_57 : decode cX11_now 57 = .ok (.getfield 98, 3) := by decide +kernel
theorem dX11_now_60 : decode cX11_now 60 = .ok (.sipush 157, 3) := by decide +kernel
theorem dX11_now_63 : decode cX11_now 63 = .ok (.iaload, 1) := by decide +kernel
theorem dX11_now_64 : decode cX11_now 64 = .ok (.ireturn, 1) := by decide +kernel
theorem dX11_now_65 : decode cX11_now 65 = .ok (.aload_n 0, 1) := by decide +kernel
theorem dX11_now_66 : decode cX11_now 66 = .ok (.iload_n 1, 1) := by decide +kernel
theorem dX11_now_67 : decode cX11_now 67 = .ok (.iconst 1, 1) := by decide +kernel
theorem dX11_now_68 : decode cX11_now 68 = .ok (.isub, 1) := by decide +kernel
theorem dX11_now_69 : decode cX11_now 69 = .ok (.invokevirtual 262, 3) := by decide +kernel
theorem t1783 : Cond.methodLink RX11 262 yX11_those ∈ GW := gw_mem 1897 (by decide +kernel) (by decide +kernel)
theorem t1785 : Cond.instanceMethod yX11_those ∈ GW := gw_mem 1899 (by decide +kernel) (by decide +kernel)
theorem s73 : Cond.selects RX11 yX11_those yX11_those ∈ GW := gw_mem 73 (by decide +kernel) (by decide +kernel)
theorem cw_X11_262 {R : Room} {s : State} {args : Array Value} {rm : Room} {mc ms : Nat} (hts : ∀ w ∈ GW, w.before args s = true) (hrc : rm.cells = mc) (hrs : rm.slots = ms) (hR : rm.frames + 1 ≤ R.frames ∧ 8 + (4 + 11) + rm.locals ≤ R.locals) : CallW R s args RX11 RX11 262 yX11_those cX11_those 4 (some .int) (wl yX11_those cX11_those 4 (some .int)) rm mc ms 1 := cwV 1 hts (gi_V t1783 t1785 s73 t18 t1786) rfl hrc hrs (by decide +kernel) hR
theorem dX11_now_72 : decode cX11_now 72 = .ok (.ireturn, 1) := by decide +kernel
theorem dX11_now_73 : decode cX11_now 73 = .ok (.iconst 0, 1) := by decide +kernel
theorem dX11_now_74 : decode cX11_now 74 = .ok (.istore_n 3, 1) := by decide +kernel
theorem dX11_now_75 : decode cX11_now 75 = .ok (.iload_n 3, 1) := by decide +kernel
theorem dX11_now_76 : decode cX11_now 76 = .ok (.aload_n 0, 1) := by decide +kernel
theorem dX11_now_77 : decode cX11_now 77 = .ok (.getfield 98, 3) := by decide +kernel
theorem dX11_now_80 : decode cX11_now 80 = .ok (.iconst 0, 1) := by decide +kernel
theorem dX11_now_81 : decode cX11_now 81 = .ok (.iaload, 1) := by decide +kernel
theorem dX11_now_82 : decode cX11_now 82 = .ok (.if_icmp .ge 23, 3) := by decide +kernel
theorem dX11_now_105 : decode cX11_now 105 = .ok (.iload_n 2, 1) := by decide +kernel
theorem dX11_now_106 : decode cX11_now 106 = .ok (.ireturn, 1) := by decide +kernel
theorem dX11_now_107 : decode cX11_now 107 = .ok (.iconst 0, 1) := by decide +kernel
theorem dX11_now_108 : decode cX11_now 108 = .ok (.istore_n 3, 1) := by decide +kernel
theorem dX11_now_109 : decode cX11_now 109 = .ok (.iload_n 3, 1) := by decide +kernel
theorem dX11_now_110 : decode cX11_now 110 = .ok (.aload_n 0, 1) := by decide +kernel
theorem dX11_now_111 : decode cX11_now 111 = .ok (.getfield 98, 3) := by decide +kernel
theorem dX11_now_114 : decode cX11_now 114 = .ok (.iconst 0, 1) := by decide +kernel
theorem dX11_now_115 : decode cX11_now 115 = .ok (.iaload, 1) := by decide +kernel
theorem dX11_now_116 : decode cX11_now 116 = .ok (.if_icmp .ge 30, 3) := by decide +kernel
theorem dX11_now_146 : decode cX11_now 146 = .ok (.iload_n 2, 1) := by decide +kernel
theorem dX11_now_147 : decode cX11_now 147 = .ok (.ireturn, 1) := by decide +kernel
theorem dX11_now_148 : decode cX11_now 148 = .ok (.iconst 0, 1) := by decide +kernel
theorem dX11_now_149 : decode cX11_now 149 = .ok (.istore_n 3, 1) := by decide +kernel
theorem dX11_now_150 : decode cX11_now 150 = .ok (.iload_n 3, 1) := by decide +kernel
theorem dX11_now_151 : decode cX11_now 151 = .ok (.bipush 7, 2) := by decide +kernel
theorem dX11_now_153 : decode cX11_now 153 = .ok (.if_icmp .ge 22, 3) := by decide +kernel
theorem dX11_now_156 : decode cX11_now 156 = .ok (.iload_n 2, 1) := by decide +kernel
theorem dX11_now_157 : decode cX11_now 157 = .ok (.aload_n 0, 1) := by decide +kernel
theorem dX11_now_158 : decode cX11_now 158 = .ok (.getfield 98, 3) := by decide +kernel
theorem dX11_now_161 : decode cX11_now 161 = .ok (.sipush 298, 3) := by decide +kernel
theorem dX11_now_164 : decode cX11_now 164 = .ok (.iload_n 3, 1) := by decide +kernel
theorem dX11_now_165 : decode cX11_now 165 = .ok (.iadd, 1) := by decide +kernel
theorem dX11_now_166 : decode cX11_now 166 = .ok (.iaload, 1) := by decide +kernel
theorem dX11_now_167 : decode cX11_now 167 = .ok (.iadd, 1) := by decide +kernel
theorem dX11_now_168 : decode cX11_now 168 = .ok (.istore_n 2, 1) := by decide +kernel
theorem dX11_now_169 : decode cX11_now 169 = .ok (.iinc 3 1, 3) := by decide +kernel
theorem dX11_now_172 : decode cX11_now 172 = .ok (.goto (-22), 3) := by decide +kernel
theorem dX11_now_175 : decode cX11_now 175 = .ok (.iload_n 2, 1) := by decide +kernel
theorem dX11_now_176 : decode cX11_now 176 = .ok (.ireturn, 1) := by decide +kernel
set_option maxHeartbeats 4000000 in
set_option maxRecDepth 100000 in
theorem m_now (l : Launch) (dC : Nat → ClassId) (dI : Nat → Nat → Nat) (cy : Nat → ClassId) (sz : Nat) (am : Nat → Nat) (mi : Nat → Nat → Int32) (n0 : Int32) (hn : NowOk (mi 2)) : Met l yX11_now (wl yX11_now cX11_now 4 (some .int)) ({ frames := 2, cells := 0, slots := 0, locals := 128 }) (Pw (dC, dI) vwCl cy [(am 0, .inr (12, [.int 0, .ref (am 1), .int 0, .int 0, .int 0, .int 0, .int 0, .int 0, .int 0, .int 0, .int 0, .int 0, .long 0, .int 0, .ref (am 2), .ref (am 3), .ref (am 4), .ref (am 5), .ref (am 6), .ref (am 7), .ref (am 8), .ref (am 9), .ref (am 10), .ref (am 11), .int 0, .int (-1), .ref (am 12), .ref (am 13), .ref (am 14), .int 0, .ref (am 15), .ref (am 16), .int 0, .int 0, .int 0, .ref (am 17), .int 0, .int 0, .ref (am 18), .ref (am 19), .int 0, .int 0, .ref (am 20), .int 0, .int 0, .int 0, .int 0])), (am 2, .inl (cy 0, 575, .inl (mi 2)))] sz [.ref (am 0), .int n0] nE) (Qi (dC, dI) vwCl (fun (r : Int32) (u : Unit) => r = nowF n0) (fun (u : Unit) => []) (va_A [(am 0, .inr (12, [.int 0, .ref (am 1), .int 0, .int 0, .int 0, .int 0, .int 0, .int 0, .int 0, .int 0, .int 0, .int 0, .long 0, .int 0, .ref (am 2), .ref (am 3), .ref (am 4), .ref (am 5), .ref (am 6), .ref (am 7), .ref (am 8), .ref (am 9), .ref (am 10), .ref (am 11), .int 0, .int (-1), .ref (am 12), .ref (am 13), .ref (am 14), .int 0, .ref (am 15), .ref (am 16), .int 0, .int 0, .int 0, .ref (am 17), .int 0, .int 0, .ref (am 18), .ref (am 19), .int 0, .int 0, .ref (am 20), .int 0, .int 0, .int 0, .int 0])), (am 2, .inl (cy 0, 575, .inl (mi 2)))] sz)) 0 0 (va_A [(am 0, .inr (12, [.int 0, .ref (am 1), .int 0, .int 0, .int 0, .int 0, .int 0, .int 0, .int 0, .int 0, .int 0, .int 0, .long 0, .int 0, .ref (am 2), .ref (am 3), .ref (am 4), .ref (am 5), .ref (am 6), .ref (am 7), .ref (am 8), .ref (am 9), .ref (am 10), .ref (am 11), .int 0, .int (-1), .ref (am 12), .ref (am 13), .ref (am 14), .int 0, .ref (am 15), .ref (am 16), .int 0, .int 0, .int 0, .ref (am 17), .int 0, .int 0, .ref (am 18), .ref (am 19), .int 0, .int 0, .ref (am 20), .int 0, .int 0, .int 0, .int 0])), (am 2, .inl (cy 0, 575, .inl (mi 2)))] sz) := by
  refine mw (Qc := Qi (dC, dI) vwCl (fun (r : Int32) (u : Unit) => r = nowF n0) (fun (u : Unit) => [])) RX11 rfl (by decide +kernel) (Nat.le_of_ble_eq_true rfl) ?_
  intro p e s m below meth c A hx hb hr hlocks av9 hav hts hown hnm hml hK hP hD hA hS hE hAe Q9 hQ9 ls hl
  have hl : lv_has ls 4 [(0, .ref (am 0)), (1, .int n0)] := hl
  refine lv_aload_n hx hb dX11_now_0 rfl (lv_at hl 0 rfl) ?_
  refine lv_iconst (v := 0) hx hb dX11_now_1 (by decide) ?_
  refine pf_X11_1 hx hb hts hown hK hP hD hS 0 rfl rfl rfl (Nat.le_of_ble_eq_true rfl) dX11_now_2 (fun H locs hP hD hS => ?_)
  have hP : va_P (dC, dI) vwCl [(am 0, .inr (12, [.int 0, .ref (am 1), .int 0, .int 0, .int 0, .int 0, .int 0, .int 0, .int 0, .int 0, .int 0, .int 0, .long 0, .int 0, .ref (am 2), .ref (am 3), .ref (am 4), .ref (am 5), .ref (am 6), .ref (am 7), .ref (am 8), .ref (am 9), .ref (am 10), .ref (am 11), .int 0, .int (-1), .ref (am 12), .ref (am 13), .ref (am 14), .int 0, .ref (am 15), .ref (am 16), .int 0, .int 0, .int 0, .ref (am 17), .int 0, .int 0, .ref (am 18), .ref (am 19), .int 0, .int 0, .ref (am 20), .int 0, .int 0, .int 0, .int 0])), (am 2, .inl (cy 0, 575, .inl (mi 2)))] H := hP
  have hD : va_D A [(am 0, .inr (12, [.int 0, .ref (am 1), .int 0, .int 0, .int 0, .int 0, .int 0, .int 0, .int 0, .int 0, .int 0, .int 0, .long 0, .int 0, .ref (am 2), .ref (am 3), .ref (am 4), .ref (am 5), .ref (am 6), .ref (am 7), .ref (am 8), .ref (am 9), .ref (am 10), .ref (am 11), .int 0, .int (-1), .ref (am 12), .ref (am 13), .ref (am 14), .int 0, .ref (am 15), .ref (am 16), .int 0, .int 0, .int 0, .ref (am 17), .int 0, .int 0, .ref (am 18), .ref (am 19), .int 0, .int 0, .ref (am 20), .int 0, .int 0, .int 0, .int 0])), (am 2, .inl (cy 0, 575, .inl (mi 2)))] := hD
  refine lv_iconst (v := 0) hx hb dX11_now_5 (by decide) ?_
  refine lv_istore_n (lv' := [(2, .int 0), (0, .ref (am 0)), (1, .int n0)]) hx hb dX11_now_6 rfl hl (by decide) rfl (fun ls hl => ?_)
  refine lv_iload_n hx hb dX11_now_7 rfl (lv_at hl 2 rfl) ?_
  by_cases sw_1 : n0.toInt < 0 ∨ 7 < n0.toInt
  · refine lv_tableOut (tgt := 177) hx hb dX11_now_8 sw_1 (by decide) ?_
    refine lv_iconst (v := (-1)) hx hb dX11_now_177 (by decide) ?_
    rw [hQ9]
    exact re_i () hx hb hr hlocks (show _ = nowF n0 from (if_pos sw_1).symm) (hP.sub [] rfl) (hD.sub [] rfl rfl) hS dX11_now_178
  · have sw_1a : n0 = 0 ∨ n0 = 1 ∨ n0 = 2 ∨ n0 = 3 ∨ n0 = 4 ∨ n0 = 5 ∨ n0 = 6 ∨ n0 = 7 := sw_cases_0_7 n0 sw_1
    rcases sw_1a with sw_1b | sw_1b | sw_1b | sw_1b | sw_1b | sw_1b | sw_1b | sw_1b
    · refine as_i 0 sw_1b ?_
      refine lv_tableIn (off := 48) (tgt := 56) hx hb dX11_now_8 (by decide) (by decide) (by decide) (by decide) ?_
      refine lv_aload_n hx hb dX11_now_56 rfl (lv_at hl 1 rfl) ?_
      refine gf_X11_98 hx hb hts hown hK hP 0 rfl rfl dX11_now_57 ?_
      refine lv_sipush (v := 157) hx hb dX11_now_60 (by decide) ?_
      refine va_iald hx hb hK hP 1 0 rfl rfl (vp_in_nI (n := 157) (N := 575) (by decide) (by decide)) dX11_now_63 ?_
      refine as_i 0 ((congrArg (mi 2) (show (157 : Int32).toNatClampNeg = 157 from rfl)).trans hn.2.2.2.2.1) ?_
      rw [hQ9]
      exact re_i () hx hb hr hlocks (show _ = nowF n0 from (if_neg sw_1).symm) (hP.sub [] rfl) (hD.sub [] rfl rfl) hS dX11_now_64
    · refine as_i 1 sw_1b ?_
      refine lv_tableIn (off := 57) (tgt := 65) hx hb dX11_now_8 (by decide) (by decide) (by decide) (by decide) ?_
      refine lv_aload_n hx hb dX11_now_65 rfl (lv_at hl 1 rfl) ?_
      refine lv_iload_n hx hb dX11_now_66 rfl (lv_at hl 2 rfl) ?_
      refine lv_iconst (v := 1) hx hb dX11_now_67 (by decide) ?_
      refine lv_isub hx hb dX11_now_68 ?_
      refine jr_i (rVr (As := [.int (n0 - 1)]) (rest := []) (ci := 12) ⟨hx, hb, hml, hown, hts⟩ (m_those l dC dI cy am mi (n0 - 1) hn) (cw_X11_262 hts rfl rfl ⟨Nat.le_of_ble_eq_true rfl, Nat.le_of_ble_eq_true rfl⟩) hP hK [0, 1] rfl rfl rfl rfl hl.1 rfl (Nat.le_of_ble_eq_true rfl) dX11_now_69 ⟨Nat.le_of_ble_eq_true rfl, Nat.le_of_ble_eq_true rfl⟩) hP hS (fun r_2 H locs hp_3 hP hS => ?_)
      refine as_i 0 hp_3 ?_
      rw [hQ9]
      exact re_i () hx hb hr hlocks (show _ = nowF n0 from (if_neg sw_1).symm) (hP.sub [] rfl) (hD.sub [] rfl rfl) hS dX11_now_72
    · refine as_i 2 sw_1b ?_
      refine lv_tableIn (off := 57) (tgt := 65) hx hb dX11_now_8 (by decide) (by decide) (by decide) (by decide) ?_
      refine lv_aload_n hx hb dX11_now_65 rfl (lv_at hl 1 rfl) ?_
      refine lv_iload_n hx hb dX11_now_66 rfl (lv_at hl 2 rfl) ?_
      refine lv_iconst (v := 1) hx hb dX11_now_67 (by decide) ?_
      refine lv_isub hx hb dX11_now_68 ?_
      refine jr_i (rVr (As := [.int (n0 - 1)]) (rest := []) (ci := 12) ⟨hx, hb, hml, hown, hts⟩ (m_those l dC dI cy am mi (n0 - 1) hn) (cw_X11_262 hts rfl rfl ⟨Nat.le_of_ble_eq_true rfl, Nat.le_of_ble_eq_true rfl⟩) hP hK [0, 1] rfl rfl rfl rfl hl.1 rfl (Nat.le_of_ble_eq_true rfl) dX11_now_69 ⟨Nat.le_of_ble_eq_true rfl, Nat.le_of_ble_eq_true rfl⟩) hP hS (fun r_4 H locs hp_5 hP hS => ?_)
      refine as_i 0 hp_5 ?_
      rw [hQ9]
      exact re_i () hx hb hr hlocks (show _ = nowF n0 from (if_neg sw_1).symm) (hP.sub [] rfl) (hD.sub [] rfl rfl) hS dX11_now_72
    · refine as_i 3 sw_1b ?_
      refine lv_tableIn (off := 57) (tgt := 65) hx hb dX11_now_8 (by decide) (by decide) (by decide) (by decide) ?_
      refine lv_aload_n hx hb dX11_now_65 rfl (lv_at hl 1 rfl) ?_
      refine lv_iload_n hx hb dX11_now_66 rfl (lv_at hl 2 rfl) ?_
      refine lv_iconst (v := 1) hx hb dX11_now_67 (by decide) ?_
      refine lv_isub hx hb dX11_now_68 ?_
      refine jr_i (rVr (As := [.int (n0 - 1)]) (rest := []) (ci := 12) ⟨hx, hb, hml, hown, hts⟩ (m_those l dC dI cy am mi (n0 - 1) hn) (cw_X11_262 hts rfl rfl ⟨Nat.le_of_ble_eq_true rfl, Nat.le_of_ble_eq_true rfl⟩) hP hK [0, 1] rfl rfl rfl rfl hl.1 rfl (Nat.le_of_ble_eq_true rfl) dX11_now_69 ⟨Nat.le_of_ble_eq_true rfl, Nat.le_of_ble_eq_true rfl⟩) hP hS (fun r_6 H locs hp_7 hP hS => ?_)
      refine as_i 0 hp_7 ?_
      rw [hQ9]
      exact re_i () hx hb hr hlocks (show _ = nowF n0 from (if_neg sw_1).symm) (hP.sub [] rfl) (hD.sub [] rfl rfl) hS dX11_now_72
    · refine as_i 4 sw_1b ?_
      refine lv_tableIn (off := 65) (tgt := 73) hx hb dX11_now_8 (by decide) (by decide) (by decide) (by decide) ?_
      refine lv_iconst (v := 0) hx hb dX11_now_73 (by decide) ?_
      refine lv_istore_n (lv' := [(3, .int 0), (2, .int 0), (0, .ref (am 0)), (1, .int n0)]) hx hb dX11_now_74 rfl hl (by decide) rfl (fun ls hl => ?_)
      refine lv_iload_n hx hb dX11_now_75 rfl (lv_at hl 0 rfl) ?_
      refine lv_aload_n hx hb dX11_now_76 rfl (lv_at hl 2 rfl) ?_
      refine gf_X11_98 hx hb hts hown hK hP 0 rfl rfl dX11_now_77 ?_
      refine lv_iconst (v := 0) hx hb dX11_now_80 (by decide) ?_
      refine va_iald hx hb hK hP 1 0 rfl rfl (vp_in_nI (n := 0) (N := 575) (by decide) (by decide)) dX11_now_81 ?_
      refine as_i 0 ((congrArg (mi 2) (show (0 : Int32).toNatClampNeg = 0 from rfl)).trans hn.1) ?_
      refine lv_icmp_ge (tgt := 105) hx hb dX11_now_82 (by decide) (fun _ => ?_) (fun c9 => absurd (by decide) c9)
      refine lv_iload_n hx hb dX11_now_105 rfl (lv_at hl 1 rfl) ?_
      rw [hQ9]
      exact re_i () hx hb hr hlocks (show _ = nowF n0 from (if_neg sw_1).symm) (hP.sub [] rfl) (hD.sub [] rfl rfl) hS dX11_now_106
    · refine as_i 5 sw_1b ?_
      refine lv_tableIn (off := 99) (tgt := 107) hx hb dX11_now_8 (by decide) (by decide) (by decide) (by decide) ?_
      refine lv_iconst (v := 0) hx hb dX11_now_107 (by decide) ?_
      refine lv_istore_n (lv' := [(3, .int 0), (2, .int 0), (0, .ref (am 0)), (1, .int n0)]) hx hb dX11_now_108 rfl hl (by decide) rfl (fun ls hl => ?_)
      refine lv_iload_n hx hb dX11_now_109 rfl (lv_at hl 0 rfl) ?_
      refine lv_aload_n hx hb dX11_now_110 rfl (lv_at hl 2 rfl) ?_
      refine gf_X11_98 hx hb hts hown hK hP 0 rfl rfl dX11_now_111 ?_
      refine lv_iconst (v := 0) hx hb dX11_now_114 (by decide) ?_
      refine va_iald hx hb hK hP 1 0 rfl rfl (vp_in_nI (n := 0) (N := 575) (by decide) (by decide)) dX11_now_115 ?_
      refine as_i 0 ((congrArg (mi 2) (show (0 : Int32).toNatClampNeg = 0 from rfl)).trans hn.1) ?_
      refine lv_icmp_ge (tgt := 146) hx hb dX11_now_116 (by decide) (fun _ => ?_) (fun c9 => absurd (by decide) c9)
      refine lv_iload_n hx hb dX11_now_146 rfl (lv_at hl 1 rfl) ?_
      rw [hQ9]
      exact re_i () hx hb hr hlocks (show _ = nowF n0 from (if_neg sw_1).symm) (hP.sub [] rfl) (hD.sub [] rfl rfl) hS dX11_now_147
    · refine as_i 6 sw_1b ?_
      refine lv_tableIn (off := 99) (tgt := 107) hx hb dX11_now_8 (by decide) (by decide) (by decide) (by decide) ?_
      refine lv_iconst (v := 0) hx hb dX11_now_107 (by decide) ?_
      refine lv_istore_n (lv' := [(3, .int 0), (2, .int 0), (0, .ref (am 0)), (1, .int n0)]) hx hb dX11_now_108 rfl hl (by decide) rfl (fun ls hl => ?_)
      refine lv_iload_n hx hb dX11_now_109 rfl (lv_at hl 0 rfl) ?_
      refine lv_aload_n hx hb dX11_now_110 rfl (lv_at hl 2 rfl) ?_
      refine gf_X11_98 hx hb hts hown hK hP 0 rfl rfl dX11_now_111 ?_
      refine lv_iconst (v := 0) hx hb dX11_now_114 (by decide) ?_
      refine va_iald hx hb hK hP 1 0 rfl rfl (vp_in_nI (n := 0) (N := 575) (by decide) (by decide)) dX11_now_115 ?_
      refine as_i 0 ((congrArg (mi 2) (show (0 : Int32).toNatClampNeg = 0 from rfl)).trans hn.1) ?_
      refine lv_icmp_ge (tgt := 146) hx hb dX11_now_116 (by decide) (fun _ => ?_) (fun c9 => absurd (by decide) c9)
      refine lv_iload_n hx hb dX11_now_146 rfl (lv_at hl 1 rfl) ?_
      rw [hQ9]
      exact re_i () hx hb hr hlocks (show _ = nowF n0 from (if_neg sw_1).symm) (hP.sub [] rfl) (hD.sub [] rfl rfl) hS dX11_now_147
    · refine as_i 7 sw_1b ?_
      refine lv_tableIn (off := 140) (tgt := 148) hx hb dX11_now_8 (by decide) (by decide) (by decide) (by decide) ?_
      refine lv_iconst (v := 0) hx hb dX11_now_148 (by decide) ?_
      refine lv_istore_n (lv' := [(3, .int 0), (2, .int 0), (0, .ref (am 0)), (1, .int n0)]) hx hb dX11_now_149 rfl hl (by decide) rfl (fun ls hl => ?_)
      refine lv_iload_n hx hb dX11_now_150 rfl (lv_at hl 0 rfl) ?_
      refine lv_bipush (v := 7) hx hb dX11_now_151 (by decide) ?_
      refine lv_icmp_ge (tgt := 175) hx hb dX11_now_153 (by decide) (fun c9 => absurd c9 (by decide)) (fun _ => ?_)
      refine lv_iload_n hx hb dX11_now_156 rfl (lv_at hl 1 rfl) ?_
      refine lv_aload_n hx hb dX11_now_157 rfl (lv_at hl 2 rfl) ?_
      refine gf_X11_98 hx hb hts hown hK hP 0 rfl rfl dX11_now_158 ?_
      refine lv_sipush (v := 298) hx hb dX11_now_161 (by decide) ?_
      refine lv_iload_n hx hb dX11_now_164 rfl (lv_at hl 0 rfl) ?_
      refine lv_iadd hx hb dX11_now_165 ?_
      refine as_i 298 (by decide) ?_
      refine va_iald hx hb hK hP 1 0 rfl rfl (vp_in_nI (n := 298) (N := 575) (by decide) (by decide)) dX11_now_166 ?_
      refine as_i 0 ((congrArg (mi 2) (show (298 : Int32).toNatClampNeg = 298 from rfl)).trans (hn.2.2.2.2.2.2 0 (by decide))) ?_
      refine lv_iadd hx hb dX11_now_167 ?_
      refine as_i 0 (by decide) ?_
      refine lv_istore_n (lv' := [(2, .int 0), (3, .int 0), (0, .ref (am 0)), (1, .int n0)]) hx hb dX11_now_168 rfl hl (by decide) rfl (fun ls hl => ?_)
      refine lv_iinc (v := 1) (lv' := [(3, .int 1), (2, .int 0), (0, .ref (am 0)), (1, .int n0)]) hx hb dX11_now_169 hl (k := 1) rfl (by decide) (by decide) rfl (fun ls hl => ?_)
      refine lv_goto (tgt := 150) hx hb dX11_now_172 (by decide) ?_
      refine lv_iload_n hx hb dX11_now_150 rfl (lv_at hl 0 rfl) ?_
      refine lv_bipush (v := 7) hx hb dX11_now_151 (by decide) ?_
      refine lv_icmp_ge (tgt := 175) hx hb dX11_now_153 (by decide) (fun c9 => absurd c9 (by decide)) (fun _ => ?_)
      refine lv_iload_n hx hb dX11_now_156 rfl (lv_at hl 1 rfl) ?_
      refine lv_aload_n hx hb dX11_now_157 rfl (lv_at hl 2 rfl) ?_
      refine gf_X11_98 hx hb hts hown hK hP 0 rfl rfl dX11_now_158 ?_
      refine lv_sipush (v := 298) hx hb dX11_now_161 (by decide) ?_
      refine lv_iload_n hx hb dX11_now_164 rfl (lv_at hl 0 rfl) ?_
      refine lv_iadd hx hb dX11_now_165 ?_
      refine as_i 299 (by decide) ?_
      refine va_iald hx hb hK hP 1 0 rfl rfl (vp_in_nI (n := 299) (N := 575) (by decide) (by decide)) dX11_now_166 ?_
      refine as_i 0 ((congrArg (mi 2) (show (299 : Int32).toNatClampNeg = 299 from rfl)).trans (hn.2.2.2.2.2.2 1 (by decide))) ?_
      refine lv_iadd hx hb dX11_now_167 ?_
      refine as_i 0 (by decide) ?_
      refine lv_istore_n (lv' := [(2, .int 0), (3, .int 1), (0, .ref (am 0)), (1, .int n0)]) hx hb dX11_now_168 rfl hl (by decide) rfl (fun ls hl => ?_)
      refine lv_iinc (v := 2) (lv' := [(3, .int 2), (2, .int 0), (0, .ref (am 0)), (1, .int n0)]) hx hb dX11_now_169 hl (k := 1) rfl (by decide) (by decide) rfl (fun ls hl => ?_)
      refine lv_goto (tgt := 150) hx hb dX11_now_172 (by decide) ?_
      refine lv_iload_n hx hb dX11_now_150 rfl (lv_at hl 0 rfl) ?_
      refine lv_bipush (v := 7) hx hb dX11_now_151 (by decide) ?_
      refine lv_icmp_ge (tgt := 175) hx hb dX11_now_153 (by decide) (fun c9 => absurd c9 (by decide)) (fun _ => ?_)
      refine lv_iload_n hx hb dX11_now_156 rfl (lv_at hl 1 rfl) ?_
      refine lv_aload_n hx hb dX11_now_157 rfl (lv_at hl 2 rfl) ?_
      refine gf_X11_98 hx hb hts hown hK hP 0 rfl rfl dX11_now_158 ?_
      refine lv_sipush (v := 298) hx hb dX11_now_161 (by decide) ?_
      refine lv_iload_n hx hb dX11_now_164 rfl (lv_at hl 0 rfl) ?_
      refine lv_iadd hx hb dX11_now_165 ?_
      refine as_i 300 (by decide) ?_
      refine va_iald hx hb hK hP 1 0 rfl rfl (vp_in_nI (n := 300) (N := 575) (by decide) (by decide)) dX11_now_166 ?_
      refine as_i 0 ((congrArg (mi 2) (show (300 : Int32).toNatClampNeg = 300 from rfl)).trans (hn.2.2.2.2.2.2 2 (by decide))) ?_
      refine lv_iadd hx hb dX11_now_167 ?_
      refine as_i 0 (by decide) ?_
      refine lv_istore_n (lv' := [(2, .int 0), (3, .int 2), (0, .ref (am 0)), (1, .int n0)]) hx hb dX11_now_168 rfl hl (by decide) rfl (fun ls hl => ?_)
      refine lv_iinc (v := 3) (lv' := [(3, .int 3), (2, .int 0), (0, .ref (am 0)), (1, .int n0)]) hx hb dX11_now_169 hl (k := 1) rfl (by decide) (by decide) rfl (fun ls hl => ?_)
      refine lv_goto (tgt := 150) hx hb dX11_now_172 (by decide) ?_
      refine lv_iload_n hx hb dX11_now_150 rfl (lv_at hl 0 rfl) ?_
      refine lv_bipush (v := 7) hx hb dX11_now_151 (by decide) ?_
      refine lv_icmp_ge (tgt := 175) hx hb dX11_now_153 (by decide) (fun c9 => absurd c9 (by decide)) (fun _ => ?_)
      refine lv_iload_n hx hb dX11_now_156 rfl (lv_at hl 1 rfl) ?_
      refine lv_aload_n hx hb dX11_now_157 rfl (lv_at hl 2 rfl) ?_
      refine gf_X11_98 hx hb hts hown hK hP 0 rfl rfl dX11_now_158 ?_
      refine lv_sipush (v := 298) hx hb dX11_now_161 (by decide) ?_
      refine lv_iload_n hx hb dX11_now_164 rfl (lv_at hl 0 rfl) ?_
      refine lv_iadd hx hb dX11_now_165 ?_
      refine as_i 301 (by decide) ?_
      refine va_iald hx hb hK hP 1 0 rfl rfl (vp_in_nI (n := 301) (N := 575) (by decide) (by decide)) dX11_now_166 ?_
      refine as_i 0 ((congrArg (mi 2) (show (301 : Int32).toNatClampNeg = 301 from rfl)).trans (hn.2.2.2.2.2.2 3 (by decide))) ?_
      refine lv_iadd hx hb dX11_now_167 ?_
      refine as_i 0 (by decide) ?_
      refine lv_istore_n (lv' := [(2, .int 0), (3, .int 3), (0, .ref (am 0)), (1, .int n0)]) hx hb dX11_now_168 rfl hl (by decide) rfl (fun ls hl => ?_)
      refine lv_iinc (v := 4) (lv' := [(3, .int 4), (2, .int 0), (0, .ref (am 0)), (1, .int n0)]) hx hb dX11_now_169 hl (k := 1) rfl (by decide) (by decide) rfl (fun ls hl => ?_)
      refine lv_goto (tgt := 150) hx hb dX11_now_172 (by decide) ?_
      refine lv_iload_n hx hb dX11_now_150 rfl (lv_at hl 0 rfl) ?_
      refine lv_bipush (v := 7) hx hb dX11_now_151 (by decide) ?_
      refine lv_icmp_ge (tgt := 175) hx hb dX11_now_153 (by decide) (fun c9 => absurd c9 (by decide)) (fun _ => ?_)
      refine lv_iload_n hx hb dX11_now_156 rfl (lv_at hl 1 rfl) ?_
      refine lv_aload_n hx hb dX11_now_157 rfl (lv_at hl 2 rfl) ?_
      refine gf_X11_98 hx hb hts hown hK hP 0 rfl rfl dX11_now_158 ?_
      refine lv_sipush (v := 298) hx hb dX11_now_161 (by decide) ?_
      refine lv_iload_n hx hb dX11_now_164 rfl (lv_at hl 0 rfl) ?_
      refine lv_iadd hx hb dX11_now_165 ?_
      refine as_i 302 (by decide) ?_
      refine va_iald hx hb hK hP 1 0 rfl rfl (vp_in_nI (n := 302) (N := 575) (by decide) (by decide)) dX11_now_166 ?_
      refine as_i 0 ((congrArg (mi 2) (show (302 : Int32).toNatClampNeg = 302 from rfl)).trans (hn.2.2.2.2.2.2 4 (by decide))) ?_
      refine lv_iadd hx hb dX11_now_167 ?_
      refine as_i 0 (by decide) ?_
      refine lv_istore_n (lv' := [(2, .int 0), (3, .int 4), (0, .ref (am 0)), (1, .int n0)]) hx hb dX11_now_168 rfl hl (by decide) rfl (fun ls hl => ?_)
      refine lv_iinc (v := 5) (lv' := [(3, .int 5), (2, .int 0), (0, .ref (am 0)), (1, .int n0)]) hx hb dX11_now_169 hl (k := 1) rfl (by decide) (by decide) rfl (fun ls hl => ?_)
      refine lv_goto (tgt := 150) hx hb dX11_now_172 (by decide) ?_
      refine lv_iload_n hx hb dX11_now_150 rfl (lv_at hl 0 rfl) ?_
      refine lv_bipush (v := 7) hx hb dX11_now_151 (by decide) ?_
      refine lv_icmp_ge (tgt := 175) hx hb dX11_now_153 (by decide) (fun c9 => absurd c9 (by decide)) (fun _ => ?_)
      refine lv_iload_n hx hb dX11_now_156 rfl (lv_at hl 1 rfl) ?_
      refine lv_aload_n hx hb dX11_now_157 rfl (lv_at hl 2 rfl) ?_
      refine gf_X11_98 hx hb hts hown hK hP 0 rfl rfl dX11_now_158 ?_
      refine lv_sipush (v := 298) hx hb dX11_now_161 (by decide) ?_
      refine lv_iload_n hx hb dX11_now_164 rfl (lv_at hl 0 rfl) ?_
      refine lv_iadd hx hb dX11_now_165 ?_
      refine as_i 303 (by decide) ?_
      refine va_iald hx hb hK hP 1 0 rfl rfl (vp_in_nI (n := 303) (N := 575) (by decide) (by decide)) dX11_now_166 ?_
      refine as_i 0 ((congrArg (mi 2) (show (303 : Int32).toNatClampNeg = 303 from rfl)).trans (hn.2.2.2.2.2.2 5 (by decide))) ?_
      refine lv_iadd hx hb dX11_now_167 ?_
      refine as_i 0 (by decide) ?_
      refine lv_istore_n (lv' := [(2, .int 0), (3, .int 5), (0, .ref (am 0)), (1, .int n0)]) hx hb dX11_now_168 rfl hl (by decide) rfl (fun ls hl => ?_)
      refine lv_iinc (v := 6) (lv' := [(3, .int 6), (2, .int 0), (0, .ref (am 0)), (1, .int n0)]) hx hb dX11_now_169 hl (k := 1) rfl (by decide) (by decide) rfl (fun ls hl => ?_)
      refine lv_goto (tgt := 150) hx hb dX11_now_172 (by decide) ?_
      refine lv_iload_n hx hb dX11_now_150 rfl (lv_at hl 0 rfl) ?_
      refine lv_bipush (v := 7) hx hb dX11_now_151 (by decide) ?_
      refine lv_icmp_ge (tgt := 175) hx hb dX11_now_153 (by decide) (fun c9 => absurd c9 (by decide)) (fun _ => ?_)
      refine lv_iload_n hx hb dX11_now_156 rfl (lv_at hl 1 rfl) ?_
      refine lv_aload_n hx hb dX11_now_157 rfl (lv_at hl 2 rfl) ?_
      refine gf_X11_98 hx hb hts hown hK hP 0 rfl rfl dX11_now_158 ?_
      refine lv_sipush (v := 298) hx hb dX11_now_161 (by decide) ?_
      refine lv_iload_n hx hb dX11_now_164 rfl (lv_at hl 0 rfl) ?_
      refine lv_iadd hx hb dX11_now_165 ?_
      refine as_i 304 (by decide) ?_
      refine va_iald hx hb hK hP 1 0 rfl rfl (vp_in_nI (n := 304) (N := 575) (by decide) (by decide)) dX11_now_166 ?_
      refine as_i 0 ((congrArg (mi 2) (show (304 : Int32).toNatClampNeg = 304 from rfl)).trans (hn.2.2.2.2.2.2 6 (by decide))) ?_
      refine lv_iadd hx hb dX11_now_167 ?_
      refine as_i 0 (by decide) ?_
      refine lv_istore_n (lv' := [(2, .int 0), (3, .int 6), (0, .ref (am 0)), (1, .int n0)]) hx hb dX11_now_168 rfl hl (by decide) rfl (fun ls hl => ?_)
      refine lv_iinc (v := 7) (lv' := [(3, .int 7), (2, .int 0), (0, .ref (am 0)), (1, .int n0)]) hx hb dX11_now_169 hl (k := 1) rfl (by decide) (by decide) rfl (fun ls hl => ?_)
      refine lv_goto (tgt := 150) hx hb dX11_now_172 (by decide) ?_
      refine lv_iload_n hx hb dX11_now_150 rfl (lv_at hl 0 rfl) ?_
      refine lv_bipush (v := 7) hx hb dX11_now_151 (by decide) ?_
      refine lv_icmp_ge (tgt := 175) hx hb dX11_now_153 (by decide) (fun _ => ?_) (fun c9 => absurd (by decide) c9)
      refine lv_iload_n hx hb dX11_now_175 rfl (lv_at hl 1 rfl) ?_
      rw [hQ9]
      exact re_i () hx hb hr hlocks (show _ = nowF n0 from (if_neg sw_1).symm) (hP.sub [] rfl) (hD.sub [] rfl rfl) hS dX11_now_176
abbrev cX11_balance : ByteArray := prog_13_method_81_code
def yX11_balance : MethodName := ⟨RX11, "balance", "(II)I"⟩
theorem t1865 : Cond.code yX11_balance cX11_balance 6 (some .int) ∈ GW := gw_mem 1979 (by decide +kernel) (by decide +kernel)
theorem dX11_balance_0 : decode cX11_balance 0 = .ok (.aload_n 0, 1) := by decide +kernel
theorem dX11_balance_1 : decode cX11_balance 1 = .ok (.iconst 0, 1) := by decide +kernel
theorem dX11_balance_2 : decode cX11_balance 2 = .ok (.putfield 1, 3) := by decide +kernel
theorem dX11_balance_5 : decode cX11_balance 5 = .ok (.iconst 1, 1) := by decide +kernel
theorem dX11_balance_6 : decode cX11_balance 6 = .ok (.aload_n 0, 1) := by decide +kernel
theorem dX11_balance_7 : decode cX11_balance 7 = .ok (.getfield 98, 3) := by decide +kernel
theorem dX11_balance_10 : decode cX11_balance 10 = .ok (.iconst 0, 1) := by decide +kernel
theorem dX11_balance_11 : decode cX11_balance 11 = .ok (.iaload, 1) := by decide +kernel
theorem dX11_balance_12 : decode cX11_balance 12 = .ok (.ishl, 1) := by decide +kernel
theorem dX11_balance_13 : decode cX11_balance 13 = .ok (.iconst 1, 1) := by decide +kernel
theorem dX11_balance_14 : decode cX11_balance 14 = .ok (.isub, 1) := by decide +kernel
theorem dX11_balance_15 : decode cX11_balance 15 = .ok (.istore_n 3, 1) := by decide +kernel
theorem dX11_balance_16 : decode cX11_balance 16 = .ok (.iload_n 1, 1) := by decide +kernel
theorem dX11_balance_17 : decode cX11_balance 17 = .ok (.iload_n 2, 1) := by decide +kernel
theorem dX11_balance_18 : decode cX11_balance 18 = .ok (.iand, 1) := by decide +kernel
theorem dX11_balance_19 : decode cX11_balance 19 = .ok (.ifCond .ne 13, 3) := by decide +kernel
theorem dX11_balance_32 : decode cX11_balance 32 = .ok (.iconst (-1), 1) := by decide +kernel
theorem dX11_balance_33 : decode cX11_balance 33 = .ok (.ireturn, 1) := by decide +kernel
theorem dX11_balance_22 : decode cX11_balance 22 = .ok (.iload_n 1, 1) := by decide +kernel
theorem dX11_balance_23 : decode cX11_balance 23 = .ok (.iload_n 2, 1) := by decide +kernel
theorem dX11_balance_24 : decode cX11_balance 24 = .ok (.ior, 1) := by decide +kernel
theorem dX11_balance_25 : decode cX11_balance 25 = .ok (.iload_n 3, 1) := by decide +kernel
theorem dX11_balance_26 : decode cX11_balance 26 = .ok (.iconst (-1), 1) := by decide +kernel
theorem dX11_balance_27 : decode cX11_balance 27 = .ok (.ixor, 1) := by decide +kernel
theorem dX11_balance_28 : decode cX11_balance 28 = .ok (.iand, 1) := by decide +kernel
theorem dX11_balance_29 : decode cX11_balance 29 = .ok (.ifCond .eq 5, 3) := by decide +kernel
theorem dX11_balance_34 : decode cX11_balance 34 = .ok (.aload_n 0, 1) := by decide +kernel
theorem dX11_balance_35 : decode cX11_balance 35 = .ok (.iload_n 1, 1) := by decide +kernel
theorem dX11_balance_36 : decode cX11_balance 36 = .ok (.invokevirtual 297, 3) := by decide +kernel
theorem t1866 : Cond.methodLink RX11 297 yX11_weightsOf ∈ GW := gw_mem 1980 (by decide +kernel) (by decide +kernel)
theorem t1868 : Cond.instanceMethod yX11_weightsOf ∈ GW := gw_mem 1982 (by decide +kernel) (by decide +kernel)
theorem s83 : Cond.selects RX11 yX11_weightsOf yX11_weightsOf ∈ GW := gw_mem 83 (by decide +kernel) (by decide +kernel)
theorem cw_X11_297 {R : Room} {s : State} {args : Array Value} {rm : Room} {mc ms : Nat} (hts : ∀ w ∈ GW, w.before args s = true) (hrc : rm.cells = mc) (hrs : rm.slots = ms) (hR : rm.frames + 1 ≤ R.frames ∧ 8 + (4 + 11) + rm.locals ≤ R.locals) : CallW R s args RX11 RX11 297 yX11_weightsOf cX11_weightsOf 4 (some .int) (wl yX11_weightsOf cX11_weightsOf 4 (some .int)) rm mc ms 1 := cwV 1 hts (gi_V t1866 t1868 s83 t18 t1869) rfl hrc hrs (by decide +kernel) hR
theorem dX11_balance_39 : decode cX11_balance 39 = .ok (.istore 4, 2) := by decide +kernel
theorem dX11_balance_41 : decode cX11_balance 41 = .ok (.aload_n 0, 1) := by decide +kernel
theorem dX11_balance_42 : decode cX11_balance 42 = .ok (.iload_n 2, 1) := by decide +kernel
theorem dX11_balance_43 : decode cX11_balance 43 = .ok (.invokevirtual 297, 3) := by decide +kernel
theorem dX11_balance_46 : decode cX11_balance 46 = .ok (.istore 5, 2) := by decide +kernel
theorem dX11_balance_48 : decode cX11_balance 48 = .ok (.iload 4, 2) := by decide +kernel
theorem dX11_balance_50 : decode cX11_balance 50 = .ok (.iload 5, 2) := by decide +kernel
theorem dX11_balance_52 : decode cX11_balance 52 = .ok (.if_icmp .ne 7, 3) := by decide +kernel
theorem dX11_balance_55 : decode cX11_balance 55 = .ok (.iconst 0, 1) := by decide +kernel
theorem dX11_balance_56 : decode cX11_balance 56 = .ok (.goto 15, 3) := by decide +kernel
theorem dX11_balance_71 : decode cX11_balance 71 = .ok (.ireturn, 1) := by decide +kernel
set_option maxHeartbeats 4000000 in
set_option maxRecDepth 100000 in
theorem m_balance (l : Launch) (dC : Nat → ClassId) (dI : Nat → Nat → Nat) (cy : Nat → ClassId) (sz : Nat) (am : Nat → Nat) (mi : Nat → Nat → Int32) (n0 : Int32) (n1 : Int32) (hn : NowOk (mi 2)) : Met l yX11_balance (wl yX11_balance cX11_balance 6 (some .int)) ({ frames := 2, cells := 0, slots := 0, locals := 128 }) (Pw (dC, dI) vwCl cy [(am 0, .inr (12, [.int 0, .ref (am 1), .int 0, .int 0, .int 0, .int 0, .int 0, .int 0, .int 0, .int 0, .int 0, .int 0, .long 0, .int 0, .ref (am 2), .ref (am 3), .ref (am 4), .ref (am 5), .ref (am 6), .ref (am 7), .ref (am 8), .ref (am 9), .ref (am 10), .ref (am 11), .int 0, .int (-1), .ref (am 12), .ref (am 13), .ref (am 14), .int 0, .ref (am 15), .ref (am 16), .int 0, .int 0, .int 0, .ref (am 17), .int 0, .int 0, .ref (am 18), .ref (am 19), .int 0, .int 0, .ref (am 20), .int 0, .int 0, .int 0, .int 0])), (am 2, .inl (cy 0, 575, .inl (mi 2)))] sz [.ref (am 0), .int n0, .int n1] nE) (Qi (dC, dI) vwCl (fun (r : Int32) (u : Unit) => r = balF n0 n1) (fun (u : Unit) => []) (va_A [(am 0, .inr (12, [.int 0, .ref (am 1), .int 0, .int 0, .int 0, .int 0, .int 0, .int 0, .int 0, .int 0, .int 0, .int 0, .long 0, .int 0, .ref (am 2), .ref (am 3), .ref (am 4), .ref (am 5), .ref (am 6), .ref (am 7), .ref (am 8), .ref (am 9), .ref (am 10), .ref (am 11), .int 0, .int (-1), .ref (am 12), .ref (am 13), .ref (am 14), .int 0, .ref (am 15), .ref (am 16), .int 0, .int 0, .int 0, .ref (am 17), .int 0, .int 0, .ref (am 18), .ref (am 19), .int 0, .int 0, .ref (am 20), .int 0, .int 0, .int 0, .int 0])), (am 2, .inl (cy 0, 575, .inl (mi 2)))] sz)) 0 0 (va_A [(am 0, .inr (12, [.int 0, .ref (am 1), .int 0, .int 0, .int 0, .int 0, .int 0, .int 0, .int 0, .int 0, .int 0, .int 0, .long 0, .int 0, .ref (am 2), .ref (am 3), .ref (am 4), .ref (am 5), .ref (am 6), .ref (am 7), .ref (am 8), .ref (am 9), .ref (am 10), .ref (am 11), .int 0, .int (-1), .ref (am 12), .ref (am 13), .ref (am 14), .int 0, .ref (am 15), .ref (am 16), .int 0, .int 0, .int 0, .ref (am 17), .int 0, .int 0, .ref (am 18), .ref (am 19), .int 0, .int 0, .ref (am 20), .int 0, .int 0, .int 0, .int 0])), (am 2, .inl (cy 0, 575, .inl (mi 2)))] sz) := by
  refine mw (Qc := Qi (dC, dI) vwCl (fun (r : Int32) (u : Unit) => r = balF n0 n1) (fun (u : Unit) => [])) RX11 rfl (by decide +kernel) (Nat.le_of_ble_eq_true rfl) ?_
  intro p e s m below meth c A hx hb hr hlocks av9 hav hts hown hnm hml hK hP hD hA hS hE hAe Q9 hQ9 ls hl
  have hl : lv_has ls 6 [(0, .ref (am 0)), (1, .int n0), (2, .int n1)] := hl
  refine lv_aload_n hx hb dX11_balance_0 rfl (lv_at hl 0 rfl) ?_
  refine lv_iconst (v := 0) hx hb dX11_balance_1 (by decide) ?_
  refine pf_X11_1 hx hb hts hown hK hP hD hS 0 rfl rfl rfl (Nat.le_of_ble_eq_true rfl) dX11_balance_2 (fun H locs hP hD hS => ?_)
  have hP : va_P (dC, dI) vwCl [(am 0, .inr (12, [.int 0, .ref (am 1), .int 0, .int 0, .int 0, .int 0, .int 0, .int 0, .int 0, .int 0, .int 0, .int 0, .long 0, .int 0, .ref (am 2), .ref (am 3), .ref (am 4), .ref (am 5), .ref (am 6), .ref (am 7), .ref (am 8), .ref (am 9), .ref (am 10), .ref (am 11), .int 0, .int (-1), .ref (am 12), .ref (am 13), .ref (am 14), .int 0, .ref (am 15), .ref (am 16), .int 0, .int 0, .int 0, .ref (am 17), .int 0, .int 0, .ref (am 18), .ref (am 19), .int 0, .int 0, .ref (am 20), .int 0, .int 0, .int 0, .int 0])), (am 2, .inl (cy 0, 575, .inl (mi 2)))] H := hP
  have hD : va_D A [(am 0, .inr (12, [.int 0, .ref (am 1), .int 0, .int 0, .int 0, .int 0, .int 0, .int 0, .int 0, .int 0, .int 0, .int 0, .long 0, .int 0, .ref (am 2), .ref (am 3), .ref (am 4), .ref (am 5), .ref (am 6), .ref (am 7), .ref (am 8), .ref (am 9), .ref (am 10), .ref (am 11), .int 0, .int (-1), .ref (am 12), .ref (am 13), .ref (am 14), .int 0, .ref (am 15), .ref (am 16), .int 0, .int 0, .int 0, .ref (am 17), .int 0, .int 0, .ref (am 18), .ref (am 19), .int 0, .int 0, .ref (am 20), .int 0, .int 0, .int 0, .int 0])), (am 2, .inl (cy 0, 575, .inl (mi 2)))] := hD
  refine lv_iconst (v := 1) hx hb dX11_balance_5 (by decide) ?_
  refine lv_aload_n hx hb dX11_balance_6 rfl (lv_at hl 0 rfl) ?_
  refine gf_X11_98 hx hb hts hown hK hP 0 rfl rfl dX11_balance_7 ?_
  refine lv_iconst (v := 0) hx hb dX11_balance_10 (by decide) ?_
  refine va_iald hx hb hK hP 1 0 rfl rfl (vp_in_nI (n := 0) (N := 575) (by decide) (by decide)) dX11_balance_11 ?_
  refine as_i 0 ((congrArg (mi 2) (show (0 : Int32).toNatClampNeg = 0 from rfl)).trans hn.1) ?_
  refine lv_ishl hx hb dX11_balance_12 ?_
  refine as_i 1 (by decide) ?_
  refine lv_iconst (v := 1) hx hb dX11_balance_13 (by decide) ?_
  refine lv_isub hx hb dX11_balance_14 ?_
  refine as_i 0 (by decide) ?_
  refine lv_istore_n (lv' := [(3, .int 0), (0, .ref (am 0)), (1, .int n0), (2, .int n1)]) hx hb dX11_balance_15 rfl hl (by decide) rfl (fun ls hl => ?_)
  refine lv_iload_n hx hb dX11_balance_16 rfl (lv_at hl 2 rfl) ?_
  refine lv_iload_n hx hb dX11_balance_17 rfl (lv_at hl 3 rfl) ?_
  refine lv_iand hx hb dX11_balance_18 ?_
  refine lv_if_ne (tgt := 32) hx hb dX11_balance_19 (by decide) (fun c_1 => ?_) (fun c_1 => ?_)
  · skip
    refine lv_iconst (v := (-1)) hx hb dX11_balance_32 (by decide) ?_
    rw [hQ9]
    exact re_i () hx hb hr hlocks (by unfold balF; simp only [c_1, if_true, if_false, not_false_eq_true]) (hP.sub [] rfl) (hD.sub [] rfl rfl) hS dX11_balance_33
  · skip
    refine lv_iload_n hx hb dX11_balance_22 rfl (lv_at hl 2 rfl) ?_
    refine lv_iload_n hx hb dX11_balance_23 rfl (lv_at hl 3 rfl) ?_
    refine lv_ior hx hb dX11_balance_24 ?_
    refine lv_iload_n hx hb dX11_balance_25 rfl (lv_at hl 0 rfl) ?_
    refine lv_iconst (v := (-1)) hx hb dX11_balance_26 (by decide) ?_
    refine lv_ixor hx hb dX11_balance_27 ?_
    refine as_i (-1) (by decide) ?_
    refine lv_iand hx hb dX11_balance_28 ?_
    refine lv_if_eq (tgt := 34) hx hb dX11_balance_29 (by decide) (fun c_2 => ?_) (fun c_2 => ?_)
    · skip
      refine lv_aload_n hx hb dX11_balance_34 rfl (lv_at hl 1 rfl) ?_
      refine lv_iload_n hx hb dX11_balance_35 rfl (lv_at hl 2 rfl) ?_
      refine jr_i (rVr (As := [.int n0]) (rest := []) (ci := 12) ⟨hx, hb, hml, hown, hts⟩ (m_weightsOf l dC dI cy am mi n0 hn) (cw_X11_297 hts rfl rfl ⟨Nat.le_of_ble_eq_true rfl, Nat.le_of_ble_eq_true rfl⟩) hP hK [0, 1] rfl rfl rfl rfl hl.1 rfl (Nat.le_of_ble_eq_true rfl) dX11_balance_36 ⟨Nat.le_of_ble_eq_true rfl, Nat.le_of_ble_eq_true rfl⟩) hP hS (fun r_3 H locs hp_4 hP hS => ?_)
      refine as_i 0 hp_4 ?_
      refine lv_istore (lv' := [(4, .int 0), (3, .int 0), (0, .ref (am 0)), (1, .int n0), (2, .int n1)]) hx hb dX11_balance_39 hl (by decide) rfl (fun ls hl => ?_)
      refine lv_aload_n hx hb dX11_balance_41 rfl (lv_at hl 2 rfl) ?_
      refine lv_iload_n hx hb dX11_balance_42 rfl (lv_at hl 4 rfl) ?_
      refine jr_i (rVr (As := [.int n1]) (rest := []) (ci := 12) ⟨hx, hb, hml, hown, hts⟩ (m_weightsOf l dC dI cy am mi n1 hn) (cw_X11_297 hts rfl rfl ⟨Nat.le_of_ble_eq_true rfl, Nat.le_of_ble_eq_true rfl⟩) hP hK [0, 1] rfl rfl rfl rfl hl.1 rfl (Nat.le_of_ble_eq_true rfl) dX11_balance_43 ⟨Nat.le_of_ble_eq_true rfl, Nat.le_of_ble_eq_true rfl⟩) hP hS (fun r_5 H locs hp_6 hP hS => ?_)
      refine as_i 0 hp_6 ?_
      refine lv_istore (lv' := [(5, .int 0), (4, .int 0), (3, .int 0), (0, .ref (am 0)), (1, .int n0), (2, .int n1)]) hx hb dX11_balance_46 hl (by decide) rfl (fun ls hl => ?_)
      refine lv_iload hx hb dX11_balance_48 (lv_at hl 1 rfl) ?_
      refine lv_iload hx hb dX11_balance_50 (lv_at hl 0 rfl) ?_
      refine lv_icmp_ne (tgt := 59) hx hb dX11_balance_52 (by decide) (fun c9 => absurd c9 (by decide)) (fun _ => ?_)
      refine lv_iconst (v := 0) hx hb dX11_balance_55 (by decide) ?_
      refine lv_goto (tgt := 71) hx hb dX11_balance_56 (by decide) ?_
      rw [hQ9]
      exact re_i () hx hb hr hlocks (by unfold balF; simp only [c_1, c_2, if_true, if_false, not_false_eq_true]) (hP.sub [] rfl) (hD.sub [] rfl rfl) hS dX11_balance_71
    · skip
      refine lv_iconst (v := (-1)) hx hb dX11_balance_32 (by decide) ?_
      rw [hQ9]
      exact re_i () hx hb hr hlocks (by unfold balF; simp only [c_1, c_2, if_true, if_false, not_false_eq_true]) (hP.sub [] rfl) (hD.sub [] rfl rfl) hS dX11_balance_33
abbrev cX11_come : ByteArray := prog_13_method_3_code
def yX11_come : MethodName := ⟨RX11, "come", "(I)V"⟩
theorem t1432 : Cond.code yX11_come cX11_come 3 none ∈ GW := gw_mem 1546 (by decide +kernel) (by decide +kernel)
abbrev O_m_come (cy : Nat → ClassId) (am : Nat → Nat) (num : Int32) (L : Nat) (fb : Nat → Int32) (u : (Nat → Int32)) : va_W := [(am 0, .inr (12, [.int 0, .ref (am 1), .int (nI (L + 4)), .int 0, .int 0, .int 0, .int 0, .int 0, .int 0, .int 0, .int 0, .int 0, .long 0, .int 0, .ref (am 2), .ref (am 3), .ref (am 4), .ref (am 5), .ref (am 6), .ref (am 7), .ref (am 8), .ref (am 9), .ref (am 10), .ref (am 11), .int 0, .int (-1), .ref (am 12), .ref (am 13), .ref (am 14), .int 0, .ref (am 15), .ref (am 16), .int 0, .int 0, .int 0, .ref (am 17), .int 0, .int 0, .ref (am 18), .ref (am 19), .int 0, .int 0, .ref (am 20), .int 0, .int 0, .int 0, .int 0])), (am 1, .inl (cy 0, 940, .inl u))]
theorem dX11_come_0 : decode cX11_come 0 = .ok (.bipush 24, 2) := by decide +kernel
theorem dX11_come_2 : decode cX11_come 2 = .ok (.istore_n 2, 1) := by decide +kernel
theorem dX11_come_3 : decode cX11_come 3 = .ok (.iload_n 2, 1) := by decide +kernel
theorem dX11_come_4 : decode cX11_come 4 = .ok (.ifCond .lt 35, 3) := by decide +kernel
theorem dX11_come_7 : decode cX11_come 7 = .ok (.aload_n 0, 1) := by decide +kernel
theorem dX11_come_8 : decode cX11_come 8 = .ok (.getfield 7, 3) := by decide +kernel
theorem t1447 : Cond.fieldLink RX11 7 "LikenessPoundModel" "tape" "[I" ∈ GW := gw_mem 1561 (by decide +kernel) (by decide +kernel)
theorem gf_X11_7 {p : Program} {l : Launch} {e : Env} {R : Room} {s : State} {m : MethodId} {args : Array Value} {below : List Frame} {meth : Method} {c : Code} {H : Heap} {locs : List Loc} {cells slots : Nat} {Q : State → Prop} {cc : ByteArray} {pc : Nat} {ls : Array Slot} {rest : List Value} {D : va_G} {a : Nat} {tys : List (ClassId × FieldType)} {ws : va_W} (hx : p.tables.exec = Jvm.exec) (hb : c.code = cc) (hts : ∀ w ∈ GW, w.before args s = true) (hown : s.vm.findClass RX11 = some m.cls) (hK : va_K D vwCl tys s) (hP : va_P D vwCl ws H) (q0 : Nat) {fs : List Value} (he : ws[q0]? = some (a, .inr (12, fs))) {v : Value} (hv : fs[1]? = some v) (hdg : decode cc pc = .ok (.getfield 7, 3)) (kk : W p l e R s m args below meth c H locs cells slots Q (F0 m (pc + 3) ls (v :: rest))) : W p l e R s m args below meth c H locs cells slots Q (F0 m pc ls (.ref a :: rest)) := va_get (C := RX11) (T := TX11) (N := 47) (ci := 12) hx hb hts inX11 hown hK hP q0 he rfl 1 (by decide) (hts _ t1447) (fun _ h => h) hv hdg kk
theorem dX11_come_11 : decode cX11_come 11 = .ok (.aload_n 0, 1) := by decide +kernel
theorem dX11_come_12 : decode cX11_come 12 = .ok (.getfield 11, 3) := by decide +kernel
theorem dX11_come_15 : decode cX11_come 15 = .ok (.iload_n 1, 1) := by decide +kernel
theorem dX11_come_16 : decode cX11_come 16 = .ok (.iload_n 2, 1) := by decide +kernel
theorem dX11_come_17 : decode cX11_come 17 = .ok (.iushr, 1) := by decide +kernel
theorem dX11_come_18 : decode cX11_come 18 = .ok (.sipush 255, 3) := by decide +kernel
theorem dX11_come_21 : decode cX11_come 21 = .ok (.iand, 1) := by decide +kernel
theorem dX11_come_22 : decode cX11_come 22 = .ok (.iastore, 1) := by decide +kernel
theorem dX11_come_23 : decode cX11_come 23 = .ok (.aload_n 0, 1) := by decide +kernel
theorem dX11_come_24 : decode cX11_come 24 = .ok (.dup, 1) := by decide +kernel
theorem dX11_come_25 : decode cX11_come 25 = .ok (.getfield 11, 3) := by decide +kernel
theorem dX11_come_28 : decode cX11_come 28 = .ok (.iconst 1, 1) := by decide +kernel
theorem dX11_come_29 : decode cX11_come 29 = .ok (.iadd, 1) := by decide +kernel
theorem dX11_come_30 : decode cX11_come 30 = .ok (.putfield 11, 3) := by decide +kernel
theorem pf_X11_11 {p : Program} {l : Launch} {e : Env} {R : Room} {s : State} {m : MethodId} {args : Array Value} {below : List Frame} {meth : Method} {c : Code} {H : Heap} {locs : List Loc} {cells slots : Nat} {Q : State → Prop} {cc : ByteArray} {pc : Nat} {ls : Array Slot} {rest : List Value} {D : va_G} {A : Nat → Prop} {a : Nat} {tys : List (ClassId × FieldType)} {ws : va_W} {H0 : Heap} (hx : p.tables.exec = Jvm.exec) (hb : c.code = cc) (hts : ∀ w ∈ GW, w.before args s = true) (hown : s.vm.findClass RX11 = some m.cls) (hK : va_K D vwCl tys s) (hP : va_P D vwCl ws H) (hD : va_D A ws) (hS0 : va_S A H0 H locs) (q0 : Nat) {fs : List Value} (he : ws[q0]? = some (a, .inr (12, fs))) {v : Value} (hn : narrow (tyX11 2) v = v) (hfit : fits (tyX11 2) v = true) (hl : 2 < fs.length) (hdg : decode cc pc = .ok (.putfield 11, 3)) (kk : ∀ (H1 : Heap) (locs1 : List Loc), va_P D vwCl (ws.set q0 (a, .inr (12, fs.set 2 v))) H1 → va_D A (ws.set q0 (a, .inr (12, fs.set 2 v))) → va_S A H0 H1 locs1 → W p l e R s m args below meth c H1 locs1 cells slots Q (F0 m (pc + 3) ls rest)) : W p l e R s m args below meth c H locs cells slots Q (F0 m pc ls (v :: .ref a :: rest)) := va_put (C := RX11) (T := TX11) (N := 47) (ci := 12) hx hb hts inX11 tyX11 tkX11 nmX11 hown hK hP hD hS0 q0 he rfl 2 (by decide) (hts _ t1448) (fun _ h => h) rfl (tkX11 2 (by decide)) hn hfit hl hdg kk
theorem dX11_come_33 : decode cX11_come 33 = .ok (.iinc 2 (-8), 3) := by decide +kernel
theorem dX11_come_36 : decode cX11_come 36 = .ok (.goto (-33), 3) := by decide +kernel
theorem dX11_come_39 : decode cX11_come 39 = .ok (.return_, 1) := by decide +kernel
set_option maxHeartbeats 4000000 in
set_option maxRecDepth 100000 in
theorem m_come (l : Launch) (dC : Nat → ClassId) (dI : Nat → Nat → Nat) (cy : Nat → ClassId) (sz : Nat) (am : Nat → Nat) (num : Int32) (L : Nat) (fb : Nat → Int32) (hL : L + 4 ≤ 940) : Met l yX11_come (wl yX11_come cX11_come 3 none) ({ frames := 0, cells := 0, slots := 0, locals := 0 }) (Pw (dC, dI) vwCl cy [(am 0, .inr (12, [.int 0, .ref (am 1), .int (nI L), .int 0, .int 0, .int 0, .int 0, .int 0, .int 0, .int 0, .int 0, .int 0, .long 0, .int 0, .ref (am 2), .ref (am 3), .ref (am 4), .ref (am 5), .ref (am 6), .ref (am 7), .ref (am 8), .ref (am 9), .ref (am 10), .ref (am 11), .int 0, .int (-1), .ref (am 12), .ref (am 13), .ref (am 14), .int 0, .ref (am 15), .ref (am 16), .int 0, .int 0, .int 0, .ref (am 17), .int 0, .int 0, .ref (am 18), .ref (am 19), .int 0, .int 0, .ref (am 20), .int 0, .int 0, .int 0, .int 0])), (am 1, .inl (cy 0, 940, .inl fb))] sz [.ref (am 0), .int num] nE) (Qv (dC, dI) vwCl (fun (u : (Nat → Int32)) => True) (O_m_come cy am num L fb) (va_A [(am 0, .inr (12, [.int 0, .ref (am 1), .int (nI L), .int 0, .int 0, .int 0, .int 0, .int 0, .int 0, .int 0, .int 0, .int 0, .long 0, .int 0, .ref (am 2), .ref (am 3), .ref (am 4), .ref (am 5), .ref (am 6), .ref (am 7), .ref (am 8), .ref (am 9), .ref (am 10), .ref (am 11), .int 0, .int (-1), .ref (am 12), .ref (am 13), .ref (am 14), .int 0, .ref (am 15), .ref (am 16), .int 0, .int 0, .int 0, .ref (am 17), .int 0, .int 0, .ref (am 18), .ref (am 19), .int 0, .int 0, .ref (am 20), .int 0, .int 0, .int 0, .int 0])), (am 1, .inl (cy 0, 940, .inl fb))] sz)) 0 0 (va_A [(am 0, .inr (12, [.int 0, .ref (am 1), .int (nI L), .int 0, .int 0, .int 0, .int 0, .int 0, .int 0, .int 0, .int 0, .int 0, .long 0, .int 0, .ref (am 2), .ref (am 3), .ref (am 4), .ref (am 5), .ref (am 6), .ref (am 7), .ref (am 8), .ref (am 9), .ref (am 10), .ref (am 11), .int 0, .int (-1), .ref (am 12), .ref (am 13), .ref (am 14), .int 0, .ref (am 15), .ref (am 16), .int 0, .int 0, .int 0, .ref (am 17), .int 0, .int 0, .ref (am 18), .ref (am 19), .int 0, .int 0, .ref (am 20), .int 0, .int 0, .int 0, .int 0])), (am 1, .inl (cy 0, 940, .inl fb))] sz) := by
  refine mw (Qc := Qv (dC, dI) vwCl (fun (u : (Nat → Int32)) => True) (O_m_come cy am num L fb)) RX11 rfl (by decide +kernel) (Nat.le_of_ble_eq_true rfl) ?_
  intro p e s m below meth c A hx hb hr hlocks av9 hav hts hown hnm hml hK hP hD hA hS hE hAe Q9 hQ9 ls hl
  have hl : lv_has ls 3 [(0, .ref (am 0)), (1, .int num)] := hl
  refine lv_bipush (v := 24) hx hb dX11_come_0 (by decide) ?_
  refine lv_istore_n (lv' := [(2, .int 24), (0, .ref (am 0)), (1, .int num)]) hx hb dX11_come_2 rfl hl (by decide) rfl (fun ls hl => ?_)
  refine lv_iload_n hx hb dX11_come_3 rfl (lv_at hl 0 rfl) ?_
  refine lv_if_lt (tgt := 39) hx hb dX11_come_4 (by decide) (fun c9 => absurd c9 (by decide)) (fun _ => ?_)
  refine lv_aload_n hx hb dX11_come_7 rfl (lv_at hl 1 rfl) ?_
  refine gf_X11_7 hx hb hts hown hK hP 0 rfl rfl dX11_come_8 ?_
  refine lv_aload_n hx hb dX11_come_11 rfl (lv_at hl 1 rfl) ?_
  refine gf_X11_11 hx hb hts hown hK hP 0 rfl rfl dX11_come_12 ?_
  refine lv_iload_n hx hb dX11_come_15 rfl (lv_at hl 2 rfl) ?_
  refine lv_iload_n hx hb dX11_come_16 rfl (lv_at hl 0 rfl) ?_
  obtain ⟨us_1, eus_1⟩ : ∃ z : Int32, (Int32.toUInt32 num >>> (Int32.toUInt32 24 &&& Int32.toUInt32 31)).toInt32 = z := ⟨_, rfl⟩
  refine lv_iushr (v := us_1) hx hb dX11_come_17 eus_1 ?_
  refine lv_sipush (v := 255) hx hb dX11_come_18 (by decide) ?_
  refine lv_iand hx hb dX11_come_21 ?_
  refine va_iast hx hb hK hP hD hS 1 0 rfl rfl (vp_in_nI (n := L) (N := 940) (by omega) (by omega)) dX11_come_22 (fun H locs hP hD hS => ?_)
  obtain ⟨f_2, ef_2⟩ : ∃ z : Nat → Int32, z = upd fb (Int32.toNatClampNeg (nI L)) (us_1 &&& 255) := ⟨_, rfl⟩
  have hP : va_P (dC, dI) vwCl [(am 0, .inr (12, [.int 0, .ref (am 1), .int (nI L), .int 0, .int 0, .int 0, .int 0, .int 0, .int 0, .int 0, .int 0, .int 0, .long 0, .int 0, .ref (am 2), .ref (am 3), .ref (am 4), .ref (am 5), .ref (am 6), .ref (am 7), .ref (am 8), .ref (am 9), .ref (am 10), .ref (am 11), .int 0, .int (-1), .ref (am 12), .ref (am 13), .ref (am 14), .int 0, .ref (am 15), .ref (am 16), .int 0, .int 0, .int 0, .ref (am 17), .int 0, .int 0, .ref (am 18), .ref (am 19), .int 0, .int 0, .ref (am 20), .int 0, .int 0, .int 0, .int 0])), (am 1, .inl (cy 0, 940, .inl f_2))] H := by rw [ef_2]; exact hP
  have hD : va_D A [(am 0, .inr (12, [.int 0, .ref (am 1), .int (nI L), .int 0, .int 0, .int 0, .int 0, .int 0, .int 0, .int 0, .int 0, .int 0, .long 0, .int 0, .ref (am 2), .ref (am 3), .ref (am 4), .ref (am 5), .ref (am 6), .ref (am 7), .ref (am 8), .ref (am 9), .ref (am 10), .ref (am 11), .int 0, .int (-1), .ref (am 12), .ref (am 13), .ref (am 14), .int 0, .ref (am 15), .ref (am 16), .int 0, .int 0, .int 0, .ref (am 17), .int 0, .int 0, .ref (am 18), .ref (am 19), .int 0, .int 0, .ref (am 20), .int 0, .int 0, .int 0, .int 0])), (am 1, .inl (cy 0, 940, .inl f_2))] := by rw [ef_2]; exact hD
  rw [(nI_clamp (n := L) (by omega))] at ef_2
  refine lv_aload_n hx hb dX11_come_23 rfl (lv_at hl 1 rfl) ?_
  refine lv_dup hx hb dX11_come_24 rfl ?_
  refine gf_X11_11 hx hb hts hown hK hP 0 rfl rfl dX11_come_25 ?_
  refine lv_iconst (v := 1) hx hb dX11_come_28 (by decide) ?_
  refine lv_iadd hx hb dX11_come_29 ?_
  refine as_i (nI (L + 1)) (nI_add L 1) ?_
  refine pf_X11_11 hx hb hts hown hK hP hD hS 0 rfl rfl rfl (Nat.le_of_ble_eq_true rfl) dX11_come_30 (fun H locs hP hD hS => ?_)
  have hP : va_P (dC, dI) vwCl [(am 0, .inr (12, [.int 0, .ref (am 1), .int (nI (L + 1)), .int 0, .int 0, .int 0, .int 0, .int 0, .int 0, .int 0, .int 0, .int 0, .long 0, .int 0, .ref (am 2), .ref (am 3), .ref (am 4), .ref (am 5), .ref (am 6), .ref (am 7), .ref (am 8), .ref (am 9), .ref (am 10), .ref (am 11), .int 0, .int (-1), .ref (am 12), .ref (am 13), .ref (am 14), .int 0, .ref (am 15), .ref (am 16), .int 0, .int 0, .int 0, .ref (am 17), .int 0, .int 0, .ref (am 18), .ref (am 19), .int 0, .int 0, .ref (am 20), .int 0, .int 0, .int 0, .int 0])), (am 1, .inl (cy 0, 940, .inl f_2))] H := hP
  have hD : va_D A [(am 0, .inr (12, [.int 0, .ref (am 1), .int (nI (L + 1)), .int 0, .int 0, .int 0, .int 0, .int 0, .int 0, .int 0, .int 0, .int 0, .long 0, .int 0, .ref (am 2), .ref (am 3), .ref (am 4), .ref (am 5), .ref (am 6), .ref (am 7), .ref (am 8), .ref (am 9), .ref (am 10), .ref (am 11), .int 0, .int (-1), .ref (am 12), .ref (am 13), .ref (am 14), .int 0, .ref (am 15), .ref (am 16), .int 0, .int 0, .int 0, .ref (am 17), .int 0, .int 0, .ref (am 18), .ref (am 19), .int 0, .int 0, .ref (am 20), .int 0, .int 0, .int 0, .int 0])), (am 1, .inl (cy 0, 940, .inl f_2))] := hD
  refine lv_iinc (v := 16) (lv' := [(2, .int 16), (0, .ref (am 0)), (1, .int num)]) hx hb dX11_come_33 hl (k := 0) rfl (by decide) (by decide) rfl (fun ls hl => ?_)
  refine lv_goto (tgt := 3) hx hb dX11_come_36 (by decide) ?_
  refine lv_iload_n hx hb dX11_come_3 rfl (lv_at hl 0 rfl) ?_
  refine lv_if_lt (tgt := 39) hx hb dX11_come_4 (by decide) (fun c9 => absurd c9 (by decide)) (fun _ => ?_)
  refine lv_aload_n hx hb dX11_come_7 rfl (lv_at hl 1 rfl) ?_
  refine gf_X11_7 hx hb hts hown hK hP 0 rfl rfl dX11_come_8 ?_
  refine lv_aload_n hx hb dX11_come_11 rfl (lv_at hl 1 rfl) ?_
  refine gf_X11_11 hx hb hts hown hK hP 0 rfl rfl dX11_come_12 ?_
  refine lv_iload_n hx hb dX11_come_15 rfl (lv_at hl 2 rfl) ?_
  refine lv_iload_n hx hb dX11_come_16 rfl (lv_at hl 0 rfl) ?_
  obtain ⟨us_3, eus_3⟩ : ∃ z : Int32, (Int32.toUInt32 num >>> (Int32.toUInt32 16 &&& Int32.toUInt32 31)).toInt32 = z := ⟨_, rfl⟩
  refine lv_iushr (v := us_3) hx hb dX11_come_17 eus_3 ?_
  refine lv_sipush (v := 255) hx hb dX11_come_18 (by decide) ?_
  refine lv_iand hx hb dX11_come_21 ?_
  refine va_iast hx hb hK hP hD hS 1 0 rfl rfl (vp_in_nI (n := (L + 1)) (N := 940) (by omega) (by omega)) dX11_come_22 (fun H locs hP hD hS => ?_)
  obtain ⟨f_4, ef_4⟩ : ∃ z : Nat → Int32, z = upd f_2 (Int32.toNatClampNeg (nI (L + 1))) (us_3 &&& 255) := ⟨_, rfl⟩
  have hP : va_P (dC, dI) vwCl [(am 0, .inr (12, [.int 0, .ref (am 1), .int (nI (L + 1)), .int 0, .int 0, .int 0, .int 0, .int 0, .int 0, .int 0, .int 0, .int 0, .long 0, .int 0, .ref (am 2), .ref (am 3), .ref (am 4), .ref (am 5), .ref (am 6), .ref (am 7), .ref (am 8), .ref (am 9), .ref (am 10), .ref (am 11), .int 0, .int (-1), .ref (am 12), .ref (am 13), .ref (am 14), .int 0, .ref (am 15), .ref (am 16), .int 0, .int 0, .int 0, .ref (am 17), .int 0, .int 0, .ref (am 18), .ref (am 19), .int 0, .int 0, .ref (am 20), .int 0, .int 0, .int 0, .int 0])), (am 1, .inl (cy 0, 940, .inl f_4))] H := by rw [ef_4]; exact hP
  have hD : va_D A [(am 0, .inr (12, [.int 0, .ref (am 1), .int (nI (L + 1)), .int 0, .int 0, .int 0, .int 0, .int 0, .int 0, .int 0, .int 0, .int 0, .long 0, .int 0, .ref (am 2), .ref (am 3), .ref (am 4), .ref (am 5), .ref (am 6), .ref (am 7), .ref (am 8), .ref (am 9), .ref (am 10), .ref (am 11), .int 0, .int (-1), .ref (am 12), .ref (am 13), .ref (am 14), .int 0, .ref (am 15), .ref (am 16), .int 0, .int 0, .int 0, .ref (am 17), .int 0, .int 0, .ref (am 18), .ref (am 19), .int 0, .int 0, .ref (am 20), .int 0, .int 0, .int 0, .int 0])), (am 1, .inl (cy 0, 940, .inl f_4))] := by rw [ef_4]; exact hD
  rw [(nI_clamp (n := (L + 1)) (by omega))] at ef_4
  refine lv_aload_n hx hb dX11_come_23 rfl (lv_at hl 1 rfl) ?_
  refine lv_dup hx hb dX11_come_24 rfl ?_
  refine gf_X11_11 hx hb hts hown hK hP 0 rfl rfl dX11_come_25 ?_
  refine lv_iconst (v := 1) hx hb dX11_come_28 (by decide) ?_
  refine lv_iadd hx hb dX11_come_29 ?_
  refine as_i (nI ((L + 1) + 1)) (nI_add (L + 1) 1) ?_
  refine pf_X11_11 hx hb hts hown hK hP hD hS 0 rfl rfl rfl (Nat.le_of_ble_eq_true rfl) dX11_come_30 (fun H locs hP hD hS => ?_)
  have hP : va_P (dC, dI) vwCl [(am 0, .inr (12, [.int 0, .ref (am 1), .int (nI ((L + 1) + 1)), .int 0, .int 0, .int 0, .int 0, .int 0, .int 0, .int 0, .int 0, .int 0, .long 0, .int 0, .ref (am 2), .ref (am 3), .ref (am 4), .ref (am 5), .ref (am 6), .ref (am 7), .ref (am 8), .ref (am 9), .ref (am 10), .ref (am 11), .int 0, .int (-1), .ref (am 12), .ref (am 13), .ref (am 14), .int 0, .ref (am 15), .ref (am 16), .int 0, .int 0, .int 0, .ref (am 17), .int 0, .int 0, .ref (am 18), .ref (am 19), .int 0, .int 0, .ref (am 20), .int 0, .int 0, .int 0, .int 0])), (am 1, .inl (cy 0, 940, .inl f_4))] H := hP
  have hD : va_D A [(am 0, .inr (12, [.int 0, .ref (am 1), .int (nI ((L + 1) + 1)), .int 0, .int 0, .int 0, .int 0, .int 0, .int 0, .int 0, .int 0, .int 0, .long 0, .int 0, .ref (am 2), .ref (am 3), .ref (am 4), .ref (am 5), .ref (am 6), .ref (am 7), .ref (am 8), .ref (am 9), .ref (am 10), .ref (am 11), .int 0, .int (-1), .ref (am 12), .ref (am 13), .ref (am 14), .int 0, .ref (am 15), .ref (am 16), .int 0, .int 0, .int 0, .ref (am 17), .int 0, .int 0, .ref (am 18), .ref (am 19), .int 0, .int 0, .ref (am 20), .int 0, .int 0, .int 0, .int 0])), (am 1, .inl (cy 0, 940, .inl f_4))] := hD
  refine lv_iinc (v := 8) (lv' := [(2, .int 8), (0, .ref (am 0)), (1, .int num)]) hx hb dX11_come_33 hl (k := 0) rfl (by decide) (by decide) rfl (fun ls hl => ?_)
  refine lv_goto (tgt := 3) hx hb dX11_come_36 (by decide) ?_
  refine lv_iload_n hx hb dX11_come_3 rfl (lv_at hl 0 rfl) ?_
  refine lv_if_lt (tgt := 39) hx hb dX11_come_4 (by decide) (fun c9 => absurd c9 (by decide)) (fun _ => ?_)
  refine lv_aload_n hx hb dX11_come_7 rfl (lv_at hl 1 rfl) ?_
  refine gf_X11_7 hx hb hts hown hK hP 0 rfl rfl dX11_come_8 ?_
  refine lv_aload_n hx hb dX11_come_11 rfl (lv_at hl 1 rfl) ?_
  refine gf_X11_11 hx hb hts hown hK hP 0 rfl rfl dX11_come_12 ?_
  refine lv_iload_n hx hb dX11_come_15 rfl (lv_at hl 2 rfl) ?_
  refine lv_iload_n hx hb dX11_come_16 rfl (lv_at hl 0 rfl) ?_
  obtain ⟨us_5, eus_5⟩ : ∃ z : Int32, (Int32.toUInt32 num >>> (Int32.toUInt32 8 &&& Int32.toUInt32 31)).toInt32 = z := ⟨_, rfl⟩
  refine lv_iushr (v := us_5) hx hb dX11_come_17 eus_5 ?_
  refine lv_sipush (v := 255) hx hb dX11_come_18 (by decide) ?_
  refine lv_iand hx hb dX11_come_21 ?_
  refine va_iast hx hb hK hP hD hS 1 0 rfl rfl (vp_in_nI (n := ((L + 1) + 1)) (N := 940) (by omega) (by omega)) dX11_come_22 (fun H locs hP hD hS => ?_)
  obtain ⟨f_6, ef_6⟩ : ∃ z : Nat → Int32, z = upd f_4 (Int32.toNatClampNeg (nI ((L + 1) + 1))) (us_5 &&& 255) := ⟨_, rfl⟩
  have hP : va_P (dC, dI) vwCl [(am 0, .inr (12, [.int 0, .ref (am 1), .int (nI ((L + 1) + 1)), .int 0, .int 0, .int 0, .int 0, .int 0, .int 0, .int 0, .int 0, .int 0, .long 0, .int 0, .ref (am 2), .ref (am 3), .ref (am 4), .ref (am 5), .ref (am 6), .ref (am 7), .ref (am 8), .ref (am 9), .ref (am 10), .ref (am 11), .int 0, .int (-1), .ref (am 12), .ref (am 13), .ref (am 14), .int 0, .ref (am 15), .ref (am 16), .int 0, .int 0, .int 0, .ref (am 17), .int 0, .int 0, .ref (am 18), .ref (am 19), .int 0, .int 0, .ref (am 20), .int 0, .int 0, .int 0, .int 0])), (am 1, .inl (cy 0, 940, .inl f_6))] H := by rw [ef_6]; exact hP
  have hD : va_D A [(am 0, .inr (12, [.int 0, .ref (am 1), .int (nI ((L + 1) + 1)), .int 0, .int 0, .int 0, .int 0, .int 0, .int 0, .int 0, .int 0, .int 0, .long 0, .int 0, .ref (am 2), .ref (am 3), .ref (am 4), .ref (am 5), .ref (am 6), .ref (am 7), .ref (am 8), .ref (am 9), .ref (am 10), .ref (am 11), .int 0, .int (-1), .ref (am 12), .ref (am 13), .ref (am 14), .int 0, .ref (am 15), .ref (am 16), .int 0, .int 0, .int 0, .ref (am 17), .int 0, .int 0, .ref (am 18), .ref (am 19), .int 0, .int 0, .ref (am 20), .int 0, .int 0, .int 0, .int 0])), (am 1, .inl (cy 0, 940, .inl f_6))] := by rw [ef_6]; exact hD
  rw [(nI_clamp (n := ((L + 1) + 1)) (by omega))] at ef_6
  refine lv_aload_n hx hb dX11_come_23 rfl (lv_at hl 1 rfl) ?_
  refine lv_dup hx hb dX11_come_24 rfl ?_
  refine gf_X11_11 hx hb hts hown hK hP 0 rfl rfl dX11_come_25 ?_
  refine lv_iconst (v := 1) hx hb dX11_come_28 (by decide) ?_
  refine lv_iadd hx hb dX11_come_29 ?_
  refine as_i (nI (((L + 1) + 1) + 1)) (nI_add ((L + 1) + 1) 1) ?_
  refine pf_X11_11 hx hb hts hown hK hP hD hS 0 rfl rfl rfl (Nat.le_of_ble_eq_true rfl) dX11_come_30 (fun H locs hP hD hS => ?_)
  have hP : va_P (dC, dI) vwCl [(am 0, .inr (12, [.int 0, .ref (am 1), .int (nI (((L + 1) + 1) + 1)), .int 0, .int 0, .int 0, .int 0, .int 0, .int 0, .int 0, .int 0, .int 0, .long 0, .int 0, .ref (am 2), .ref (am 3), .ref (am 4), .ref (am 5), .ref (am 6), .ref (am 7), .ref (am 8), .ref (am 9), .ref (am 10), .ref (am 11), .int 0, .int (-1), .ref (am 12), .ref (am 13), .ref (am 14), .int 0, .ref (am 15), .ref (am 16), .int 0, .int 0, .int 0, .ref (am 17), .int 0, .int 0, .ref (am 18), .ref (am 19), .int 0, .int 0, .ref (am 20), .int 0, .int 0, .int 0, .int 0])), (am 1, .inl (cy 0, 940, .inl f_6))] H := hP
  have hD : va_D A [(am 0, .inr (12, [.int 0, .ref (am 1), .int (nI (((L + 1) + 1) + 1)), .int 0, .int 0, .int 0, .int 0, .int 0, .int 0, .int 0, .int 0, .int 0, .long 0, .int 0, .ref (am 2), .ref (am 3), .ref (am 4), .ref (am 5), .ref (am 6), .ref (am 7), .ref (am 8), .ref (am 9), .ref (am 10), .ref (am 11), .int 0, .int (-1), .ref (am 12), .ref (am 13), .ref (am 14), .int 0, .ref (am 15), .ref (am 16), .int 0, .int 0, .int 0, .ref (am 17), .int 0, .int 0, .ref (am 18), .ref (am 19), .int 0, .int 0, .ref (am 20), .int 0, .int 0, .int 0, .int 0])), (am 1, .inl (cy 0, 940, .inl f_6))] := hD
  refine lv_iinc (v := 0) (lv' := [(2, .int 0), (0, .ref (am 0)), (1, .int num)]) hx hb dX11_come_33 hl (k := 0) rfl (by decide) (by decide) rfl (fun ls hl => ?_)
  refine lv_goto (tgt := 3) hx hb dX11_come_36 (by decide) ?_
  refine lv_iload_n hx hb dX11_come_3 rfl (lv_at hl 0 rfl) ?_
  refine lv_if_lt (tgt := 39) hx hb dX11_come_4 (by decide) (fun c9 => absurd c9 (by decide)) (fun _ => ?_)
  refine lv_aload_n hx hb dX11_come_7 rfl (lv_at hl 1 rfl) ?_
  refine gf_X11_7 hx hb hts hown hK hP 0 rfl rfl dX11_come_8 ?_
  refine lv_aload_n hx hb dX11_come_11 rfl (lv_at hl 1 rfl) ?_
  refine gf_X11_11 hx hb hts hown hK hP 0 rfl rfl dX11_come_12 ?_
  refine lv_iload_n hx hb dX11_come_15 rfl (lv_at hl 2 rfl) ?_
  refine lv_iload_n hx hb dX11_come_16 rfl (lv_at hl 0 rfl) ?_
  obtain ⟨us_7, eus_7⟩ : ∃ z : Int32, (Int32.toUInt32 num >>> (Int32.toUInt32 0 &&& Int32.toUInt32 31)).toInt32 = z := ⟨_, rfl⟩
  refine lv_iushr (v := us_7) hx hb dX11_come_17 eus_7 ?_
  refine lv_sipush (v := 255) hx hb dX11_come_18 (by decide) ?_
  refine lv_iand hx hb dX11_come_21 ?_
  refine va_iast hx hb hK hP hD hS 1 0 rfl rfl (vp_in_nI (n := (((L + 1) + 1) + 1)) (N := 940) (by omega) (by omega)) dX11_come_22 (fun H locs hP hD hS => ?_)
  obtain ⟨f_8, ef_8⟩ : ∃ z : Nat → Int32, z = upd f_6 (Int32.toNatClampNeg (nI (((L + 1) + 1) + 1))) (us_7 &&& 255) := ⟨_, rfl⟩
  have hP : va_P (dC, dI) vwCl [(am 0, .inr (12, [.int 0, .ref (am 1), .int (nI (((L + 1) + 1) + 1)), .int 0, .int 0, .int 0, .int 0, .int 0, .int 0, .int 0, .int 0, .int 0, .long 0, .int 0, .ref (am 2), .ref (am 3), .ref (am 4), .ref (am 5), .ref (am 6), .ref (am 7), .ref (am 8), .ref (am 9), .ref (am 10), .ref (am 11), .int 0, .int (-1), .ref (am 12), .ref (am 13), .ref (am 14), .int 0, .ref (am 15), .ref (am 16), .int 0, .int 0, .int 0, .ref (am 17), .int 0, .int 0, .ref (am 18), .ref (am 19), .int 0, .int 0, .ref (am 20), .int 0, .int 0, .int 0, .int 0])), (am 1, .inl (cy 0, 940, .inl f_8))] H := by rw [ef_8]; exact hP
  have hD : va_D A [(am 0, .inr (12, [.int 0, .ref (am 1), .int (nI (((L + 1) + 1) + 1)), .int 0, .int 0, .int 0, .int 0, .int 0, .int 0, .int 0, .int 0, .int 0, .long 0, .int 0, .ref (am 2), .ref (am 3), .ref (am 4), .ref (am 5), .ref (am 6), .ref (am 7), .ref (am 8), .ref (am 9), .ref (am 10), .ref (am 11), .int 0, .int (-1), .ref (am 12), .ref (am 13), .ref (am 14), .int 0, .ref (am 15), .ref (am 16), .int 0, .int 0, .int 0, .ref (am 17), .int 0, .int 0, .ref (am 18), .ref (am 19), .int 0, .int 0, .ref (am 20), .int 0, .int 0, .int 0, .int 0])), (am 1, .inl (cy 0, 940, .inl f_8))] := by rw [ef_8]; exact hD
  rw [(nI_clamp (n := (((L + 1) + 1) + 1)) (by omega))] at ef_8
  refine lv_aload_n hx hb dX11_come_23 rfl (lv_at hl 1 rfl) ?_
  refine lv_dup hx hb dX11_come_24 rfl ?_
  refine gf_X11_11 hx hb hts hown hK hP 0 rfl rfl dX11_come_25 ?_
  refine lv_iconst (v := 1) hx hb dX11_come_28 (by decide) ?_
  refine lv_iadd hx hb dX11_come_29 ?_
  refine as_i (nI ((((L + 1) + 1) + 1) + 1)) (nI_add (((L + 1) + 1) + 1) 1) ?_
  refine pf_X11_11 hx hb hts hown hK hP hD hS 0 rfl rfl rfl (Nat.le_of_ble_eq_true rfl) dX11_come_30 (fun H locs hP hD hS => ?_)
  have hP : va_P (dC, dI) vwCl [(am 0, .inr (12, [.int 0, .ref (am 1), .int (nI ((((L + 1) + 1) + 1) + 1)), .int 0, .int 0, .int 0, .int 0, .int 0, .int 0, .int 0, .int 0, .int 0, .long 0, .int 0, .ref (am 2), .ref (am 3), .ref (am 4), .ref (am 5), .ref (am 6), .ref (am 7), .ref (am 8), .ref (am 9), .ref (am 10), .ref (am 11), .int 0, .int (-1), .ref (am 12), .ref (am 13), .ref (am 14), .int 0, .ref (am 15), .ref (am 16), .int 0, .int 0, .int 0, .ref (am 17), .int 0, .int 0, .ref (am 18), .ref (am 19), .int 0, .int 0, .ref (am 20), .int 0, .int 0, .int 0, .int 0])), (am 1, .inl (cy 0, 940, .inl f_8))] H := hP
  have hD : va_D A [(am 0, .inr (12, [.int 0, .ref (am 1), .int (nI ((((L + 1) + 1) + 1) + 1)), .int 0, .int 0, .int 0, .int 0, .int 0, .int 0, .int 0, .int 0, .int 0, .long 0, .int 0, .ref (am 2), .ref (am 3), .ref (am 4), .ref (am 5), .ref (am 6), .ref (am 7), .ref (am 8), .ref (am 9), .ref (am 10), .ref (am 11), .int 0, .int (-1), .ref (am 12), .ref (am 13), .ref (am 14), .int 0, .ref (am 15), .ref (am 16), .int 0, .int 0, .int 0, .ref (am 17), .int 0, .int 0, .ref (am 18), .ref (am 19), .int 0, .int 0, .ref (am 20), .int 0, .int 0, .int 0, .int 0])), (am 1, .inl (cy 0, 940, .inl f_8))] := hD
  refine lv_iinc (v := (-8)) (lv' := [(2, .int (-8)), (0, .ref (am 0)), (1, .int num)]) hx hb dX11_come_33 hl (k := 0) rfl (by decide) (by decide) rfl (fun ls hl => ?_)
  refine lv_goto (tgt := 3) hx hb dX11_come_36 (by decide) ?_
  refine lv_iload_n hx hb dX11_come_3 rfl (lv_at hl 0 rfl) ?_
  refine lv_if_lt (tgt := 39) hx hb dX11_come_4 (by decide) (fun _ => ?_) (fun c9 => absurd (by decide) c9)
  rw [hQ9]
  exact re_v f_8 hx hb hr hlocks trivial (hP.sub [0, 1] rfl) (hD.sub [0, 1] rfl rfl) hS dX11_come_39
abbrev cX11_feed : ByteArray := prog_13_method_4_code
def yX11_feed : MethodName := ⟨RX11, "feed", "(IIIII)I"⟩
theorem t1427 : Cond.code yX11_feed cX11_feed 6 (some .int) ∈ GW := gw_mem 1541 (by decide +kernel) (by decide +kernel)
theorem dX11_feed_0 : decode cX11_feed 0 = .ok (.aload_n 0, 1) := by decide +kernel
theorem dX11_feed_1 : decode cX11_feed 1 = .ok (.iconst 0, 1) := by decide +kernel
theorem dX11_feed_2 : decode cX11_feed 2 = .ok (.putfield 1, 3) := by decide +kernel
theorem dX11_feed_5 : decode cX11_feed 5 = .ok (.aload_n 0, 1) := by decide +kernel
theorem dX11_feed_6 : decode cX11_feed 6 = .ok (.getfield 11, 3) := by decide +kernel
theorem dX11_feed_9 : decode cX11_feed 9 = .ok (.bipush 20, 2) := by decide +kernel
theorem dX11_feed_11 : decode cX11_feed 11 = .ok (.iadd, 1) := by decide +kernel
theorem dX11_feed_12 : decode cX11_feed 12 = .ok (.sipush 940, 3) := by decide +kernel
theorem dX11_feed_15 : decode cX11_feed 15 = .ok (.if_icmp .le 5, 3) := by decide +kernel
theorem dX11_feed_20 : decode cX11_feed 20 = .ok (.aload_n 0, 1) := by decide +kernel
theorem dX11_feed_21 : decode cX11_feed 21 = .ok (.iload_n 1, 1) := by decide +kernel
theorem dX11_feed_22 : decode cX11_feed 22 = .ok (.invokevirtual 14, 3) := by decide +kernel
theorem t1428 : Cond.methodLink RX11 14 yX11_come ∈ GW := gw_mem 1542 (by decide +kernel) (by decide +kernel)
theorem t1430 : Cond.instanceMethod yX11_come ∈ GW := gw_mem 1544 (by decide +kernel) (by decide +kernel)
theorem s38 : Cond.selects RX11 yX11_come yX11_come ∈ GW := gw_mem 38 (by decide +kernel) (by decide +kernel)
theorem cw_X11_14 {R : Room} {s : State} {args : Array Value} {rm : Room} {mc ms : Nat} (hts : ∀ w ∈ GW, w.before args s = true) (hrc : rm.cells = mc) (hrs : rm.slots = ms) (hR : rm.frames + 1 ≤ R.frames ∧ 8 + (3 + 11) + rm.locals ≤ R.locals) : CallW R s args RX11 RX11 14 yX11_come cX11_come 3 none (wl yX11_come cX11_come 3 none) rm mc ms 1 := cwV 1 hts (gi_V t1428 t1430 s38 t18 t1432) rfl hrc hrs (by decide +kernel) hR
theorem dX11_feed_25 : decode cX11_feed 25 = .ok (.aload_n 0, 1) := by decide +kernel
theorem dX11_feed_26 : decode cX11_feed 26 = .ok (.iload_n 2, 1) := by decide +kernel
theorem dX11_feed_27 : decode cX11_feed 27 = .ok (.invokevirtual 14, 3) := by decide +kernel
theorem dX11_feed_30 : decode cX11_feed 30 = .ok (.aload_n 0, 1) := by decide +kernel
theorem dX11_feed_31 : decode cX11_feed 31 = .ok (.iload_n 3, 1) := by decide +kernel
theorem dX11_feed_32 : decode cX11_feed 32 = .ok (.invokevirtual 14, 3) := by decide +kernel
theorem dX11_feed_35 : decode cX11_feed 35 = .ok (.aload_n 0, 1) := by decide +kernel
theorem dX11_feed_36 : decode cX11_feed 36 = .ok (.iload 4, 2) := by decide +kernel
theorem dX11_feed_38 : decode cX11_feed 38 = .ok (.invokevirtual 14, 3) := by decide +kernel
theorem dX11_feed_41 : decode cX11_feed 41 = .ok (.aload_n 0, 1) := by decide +kernel
theorem dX11_feed_42 : decode cX11_feed 42 = .ok (.iload 5, 2) := by decide +kernel
theorem dX11_feed_44 : decode cX11_feed 44 = .ok (.invokevirtual 14, 3) := by decide +kernel
theorem dX11_feed_47 : decode cX11_feed 47 = .ok (.aload_n 0, 1) := by decide +kernel
theorem dX11_feed_48 : decode cX11_feed 48 = .ok (.getfield 11, 3) := by decide +kernel
theorem dX11_feed_51 : decode cX11_feed 51 = .ok (.ireturn, 1) := by decide +kernel
set_option maxHeartbeats 4000000 in
set_option maxRecDepth 100000 in
theorem m_feed (l : Launch) (dC : Nat → ClassId) (dI : Nat → Nat → Nat) (cy : Nat → ClassId) (sz : Nat) (am : Nat → Nat) (mi : Nat → Nat → Int32) (n0 : Int32) (n1 : Int32) (n2 : Int32) (n3 : Int32) (n4 : Int32)  : Met l yX11_feed (wl yX11_feed cX11_feed 6 (some .int)) ({ frames := 1, cells := 0, slots := 0, locals := 64 }) (Pw (dC, dI) vwCl cy [(am 0, .inr (12, [.int 0, .ref (am 1), .int 0, .int 0, .int 0, .int 0, .int 0, .int 0, .int 0, .int 0, .int 0, .int 0, .long 0, .int 0, .ref (am 2), .ref (am 3), .ref (am 4), .ref (am 5), .ref (am 6), .ref (am 7), .ref (am 8), .ref (am 9), .ref (am 10), .ref (am 11), .int 0, .int (-1), .ref (am 12), .ref (am 13), .ref (am 14), .int 0, .ref (am 15), .ref (am 16), .int 0, .int 0, .int 0, .ref (am 17), .int 0, .int 0, .ref (am 18), .ref (am 19), .int 0, .int 0, .ref (am 20), .int 0, .int 0, .int 0, .int 0])), (am 1, .inl (cy 0, 940, .inl (mi 1)))] sz [.ref (am 0), .int n0, .int n1, .int n2, .int n3, .int n4] nE) (Qi (dC, dI) vwCl (fun (r : Int32) (u : Unit) => r = 20) (fun (u : Unit) => []) (va_A [(am 0, .inr (12, [.int 0, .ref (am 1), .int 0, .int 0, .int 0, .int 0, .int 0, .int 0, .int 0, .int 0, .int 0, .int 0, .long 0, .int 0, .ref (am 2), .ref (am 3), .ref (am 4), .ref (am 5), .ref (am 6), .ref (am 7), .ref (am 8), .ref (am 9), .ref (am 10), .ref (am 11), .int 0, .int (-1), .ref (am 12), .ref (am 13), .ref (am 14), .int 0, .ref (am 15), .ref (am 16), .int 0, .int 0, .int 0, .ref (am 17), .int 0, .int 0, .ref (am 18), .ref (am 19), .int 0, .int 0, .ref (am 20), .int 0, .int 0, .int 0, .int 0])), (am 1, .inl (cy 0, 940, .inl (mi 1)))] sz)) 0 0 (va_A [(am 0, .inr (12, [.int 0, .ref (am 1), .int 0, .int 0, .int 0, .int 0, .int 0, .int 0, .int 0, .int 0, .int 0, .int 0, .long 0, .int 0, .ref (am 2), .ref (am 3), .ref (am 4), .ref (am 5), .ref (am 6), .ref (am 7), .ref (am 8), .ref (am 9), .ref (am 10), .ref (am 11), .int 0, .int (-1), .ref (am 12), .ref (am 13), .ref (am 14), .int 0, .ref (am 15), .ref (am 16), .int 0, .int 0, .int 0, .ref (am 17), .int 0, .int 0, .ref (am 18), .ref (am 19), .int 0, .int 0, .ref (am 20), .int 0, .int 0, .int 0, .int 0])), (am 1, .inl (cy 0, 940, .inl (mi 1)))] sz) := by
  refine mw (Qc := Qi (dC, dI) vwCl (fun (r : Int32) (u : Unit) => r = 20) (fun (u : Unit) => [])) RX11 rfl (by decide +kernel) (Nat.le_of_ble_eq_true rfl) ?_
  intro p e s m below meth c A hx hb hr hlocks av9 hav hts hown hnm hml hK hP hD hA hS hE hAe Q9 hQ9 ls hl
  have hl : lv_has ls 6 [(0, .ref (am 0)), (1, .int n0), (2, .int n1), (3, .int n2), (4, .int n3), (5, .int n4)] := hl
  refine lv_aload_n hx hb dX11_feed_0 rfl (lv_at hl 0 rfl) ?_
  refine lv_iconst (v := 0) hx hb dX11_feed_1 (by decide) ?_
  refine pf_X11_1 hx hb hts hown hK hP hD hS 0 rfl rfl rfl (Nat.le_of_ble_eq_true rfl) dX11_feed_2 (fun H locs hP hD hS => ?_)
  have hP : va_P (dC, dI) vwCl [(am 0, .inr (12, [.int 0, .ref (am 1), .int 0, .int 0, .int 0, .int 0, .int 0, .int 0, .int 0, .int 0, .int 0, .int 0, .long 0, .int 0, .ref (am 2), .ref (am 3), .ref (am 4), .ref (am 5), .ref (am 6), .ref (am 7), .ref (am 8), .ref (am 9), .ref (am 10), .ref (am 11), .int 0, .int (-1), .ref (am 12), .ref (am 13), .ref (am 14), .int 0, .ref (am 15), .ref (am 16), .int 0, .int 0, .int 0, .ref (am 17), .int 0, .int 0, .ref (am 18), .ref (am 19), .int 0, .int 0, .ref (am 20), .int 0, .int 0, .int 0, .int 0])), (am 1, .inl (cy 0, 940, .inl (mi 1)))] H := hP
  have hD : va_D A [(am 0, .inr (12, [.int 0, .ref (am 1), .int 0, .int 0, .int 0, .int 0, .int 0, .int 0, .int 0, .int 0, .int 0, .int 0, .long 0, .int 0, .ref (am 2), .ref (am 3), .ref (am 4), .ref (am 5), .ref (am 6), .ref (am 7), .ref (am 8), .ref (am 9), .ref (am 10), .ref (am 11), .int 0, .int (-1), .ref (am 12), .ref (am 13), .ref (am 14), .int 0, .ref (am 15), .ref (am 16), .int 0, .int 0, .int 0, .ref (am 17), .int 0, .int 0, .ref (am 18), .ref (am 19), .int 0, .int 0, .ref (am 20), .int 0, .int 0, .int 0, .int 0])), (am 1, .inl (cy 0, 940, .inl (mi 1)))] := hD
  refine lv_aload_n hx hb dX11_feed_5 rfl (lv_at hl 0 rfl) ?_
  refine gf_X11_11 hx hb hts hown hK hP 0 rfl rfl dX11_feed_6 ?_
  refine lv_bipush (v := 20) hx hb dX11_feed_9 (by decide) ?_
  refine lv_iadd hx hb dX11_feed_11 ?_
  refine as_i 20 (by decide) ?_
  refine lv_sipush (v := 940) hx hb dX11_feed_12 (by decide) ?_
  refine lv_icmp_le (tgt := 20) hx hb dX11_feed_15 (by decide) (fun _ => ?_) (fun c9 => absurd (by decide) c9)
  refine lv_aload_n hx hb dX11_feed_20 rfl (lv_at hl 0 rfl) ?_
  refine lv_iload_n hx hb dX11_feed_21 rfl (lv_at hl 1 rfl) ?_
  refine jn_v (wr := []) (rV (As := [.int n0]) (rest := []) (ci := 12) ⟨hx, hb, hml, hown, hts⟩ (m_come l dC dI cy _ am n0 0 (mi 1) (by omega)) (cw_X11_14 hts rfl rfl ⟨Nat.le_of_ble_eq_true rfl, Nat.le_of_ble_eq_true rfl⟩) hP hD hK [0, 1] rfl rfl rfl rfl bl0 e0 rfl hl.1 rfl (Nat.le_of_ble_eq_true rfl) dX11_feed_22 ⟨Nat.le_of_ble_eq_true rfl, Nat.le_of_ble_eq_true rfl⟩) hP hD hS hA [0, 1] [] rfl rfl rfl (by decide) (fun u_3 H locs hp_2 hP hD hS => ?_)
  obtain ⟨ob_4, rfl⟩ : ∃ z, z = u_3 := ⟨_, rfl⟩
  have hp_2 : True := hp_2
  have hP : va_P (dC, dI) vwCl [(am 0, .inr (12, [.int 0, .ref (am 1), .int (nI (0 + 4)), .int 0, .int 0, .int 0, .int 0, .int 0, .int 0, .int 0, .int 0, .int 0, .long 0, .int 0, .ref (am 2), .ref (am 3), .ref (am 4), .ref (am 5), .ref (am 6), .ref (am 7), .ref (am 8), .ref (am 9), .ref (am 10), .ref (am 11), .int 0, .int (-1), .ref (am 12), .ref (am 13), .ref (am 14), .int 0, .ref (am 15), .ref (am 16), .int 0, .int 0, .int 0, .ref (am 17), .int 0, .int 0, .ref (am 18), .ref (am 19), .int 0, .int 0, .ref (am 20), .int 0, .int 0, .int 0, .int 0])), (am 1, .inl (cy 0, 940, .inl ob_4))] H := hP
  have hD : va_D A [(am 0, .inr (12, [.int 0, .ref (am 1), .int (nI (0 + 4)), .int 0, .int 0, .int 0, .int 0, .int 0, .int 0, .int 0, .int 0, .int 0, .long 0, .int 0, .ref (am 2), .ref (am 3), .ref (am 4), .ref (am 5), .ref (am 6), .ref (am 7), .ref (am 8), .ref (am 9), .ref (am 10), .ref (am 11), .int 0, .int (-1), .ref (am 12), .ref (am 13), .ref (am 14), .int 0, .ref (am 15), .ref (am 16), .int 0, .int 0, .int 0, .ref (am 17), .int 0, .int 0, .ref (am 18), .ref (am 19), .int 0, .int 0, .ref (am 20), .int 0, .int 0, .int 0, .int 0])), (am 1, .inl (cy 0, 940, .inl ob_4))] := hD
  refine lv_aload_n hx hb dX11_feed_25 rfl (lv_at hl 0 rfl) ?_
  refine lv_iload_n hx hb dX11_feed_26 rfl (lv_at hl 2 rfl) ?_
  refine jn_v (wr := []) (rV (As := [.int n1]) (rest := []) (ci := 12) ⟨hx, hb, hml, hown, hts⟩ (m_come l dC dI cy _ am n1 (0 + 4) ob_4 (by omega)) (cw_X11_14 hts rfl rfl ⟨Nat.le_of_ble_eq_true rfl, Nat.le_of_ble_eq_true rfl⟩) hP hD hK [0, 1] rfl rfl rfl rfl bl0 e0 rfl hl.1 rfl (Nat.le_of_ble_eq_true rfl) dX11_feed_27 ⟨Nat.le_of_ble_eq_true rfl, Nat.le_of_ble_eq_true rfl⟩) hP hD hS hA [0, 1] [] rfl rfl rfl (by decide) (fun u_7 H locs hp_6 hP hD hS => ?_)
  obtain ⟨ob_8, rfl⟩ : ∃ z, z = u_7 := ⟨_, rfl⟩
  have hp_6 : True := hp_6
  have hP : va_P (dC, dI) vwCl [(am 0, .inr (12, [.int 0, .ref (am 1), .int (nI ((0 + 4) + 4)), .int 0, .int 0, .int 0, .int 0, .int 0, .int 0, .int 0, .int 0, .int 0, .long 0, .int 0, .ref (am 2), .ref (am 3), .ref (am 4), .ref (am 5), .ref (am 6), .ref (am 7), .ref (am 8), .ref (am 9), .ref (am 10), .ref (am 11), .int 0, .int (-1), .ref (am 12), .ref (am 13), .ref (am 14), .int 0, .ref (am 15), .ref (am 16), .int 0, .int 0, .int 0, .ref (am 17), .int 0, .int 0, .ref (am 18), .ref (am 19), .int 0, .int 0, .ref (am 20), .int 0, .int 0, .int 0, .int 0])), (am 1, .inl (cy 0, 940, .inl ob_8))] H := hP
  have hD : va_D A [(am 0, .inr (12, [.int 0, .ref (am 1), .int (nI ((0 + 4) + 4)), .int 0, .int 0, .int 0, .int 0, .int 0, .int 0, .int 0, .int 0, .int 0, .long 0, .int 0, .ref (am 2), .ref (am 3), .ref (am 4), .ref (am 5), .ref (am 6), .ref (am 7), .ref (am 8), .ref (am 9), .ref (am 10), .ref (am 11), .int 0, .int (-1), .ref (am 12), .ref (am 13), .ref (am 14), .int 0, .ref (am 15), .ref (am 16), .int 0, .int 0, .int 0, .ref (am 17), .int 0, .int 0, .ref (am 18), .ref (am 19), .int 0, .int 0, .ref (am 20), .int 0, .int 0, .int 0, .int 0])), (am 1, .inl (cy 0, 940, .inl ob_8))] := hD
  refine lv_aload_n hx hb dX11_feed_30 rfl (lv_at hl 0 rfl) ?_
  refine lv_iload_n hx hb dX11_feed_31 rfl (lv_at hl 3 rfl) ?_
  refine jn_v (wr := []) (rV (As := [.int n2]) (rest := []) (ci := 12) ⟨hx, hb, hml, hown, hts⟩ (m_come l dC dI cy _ am n2 ((0 + 4) + 4) ob_8 (by omega)) (cw_X11_14 hts rfl rfl ⟨Nat.le_of_ble_eq_true rfl, Nat.le_of_ble_eq_true rfl⟩) hP hD hK [0, 1] rfl rfl rfl rfl bl0 e0 rfl hl.1 rfl (Nat.le_of_ble_eq_true rfl) dX11_feed_32 ⟨Nat.le_of_ble_eq_true rfl, Nat.le_of_ble_eq_true rfl⟩) hP hD hS hA [0, 1] [] rfl rfl rfl (by decide) (fun u_11 H locs hp_10 hP hD hS => ?_)
  obtain ⟨ob_12, rfl⟩ : ∃ z, z = u_11 := ⟨_, rfl⟩
  have hp_10 : True := hp_10
  have hP : va_P (dC, dI) vwCl [(am 0, .inr (12, [.int 0, .ref (am 1), .int (nI (((0 + 4) + 4) + 4)), .int 0, .int 0, .int 0, .int 0, .int 0, .int 0, .int 0, .int 0, .int 0, .long 0, .int 0, .ref (am 2), .ref (am 3), .ref (am 4), .ref (am 5), .ref (am 6), .ref (am 7), .ref (am 8), .ref (am 9), .ref (am 10), .ref (am 11), .int 0, .int (-1), .ref (am 12), .ref (am 13), .ref (am 14), .int 0, .ref (am 15), .ref (am 16), .int 0, .int 0, .int 0, .ref (am 17), .int 0, .int 0, .ref (am 18), .ref (am 19), .int 0, .int 0, .ref (am 20), .int 0, .int 0, .int 0, .int 0])), (am 1, .inl (cy 0, 940, .inl ob_12))] H := hP
  have hD : va_D A [(am 0, .inr (12, [.int 0, .ref (am 1), .int (nI (((0 + 4) + 4) + 4)), .int 0, .int 0, .int 0, .int 0, .int 0, .int 0, .int 0, .int 0, .int 0, .long 0, .int 0, .ref (am 2), .ref (am 3), .ref (am 4), .ref (am 5), .ref (am 6), .ref (am 7), .ref (am 8), .ref (am 9), .ref (am 10), .ref (am 11), .int 0, .int (-1), .ref (am 12), .ref (am 13), .ref (am 14), .int 0, .ref (am 15), .ref (am 16), .int 0, .int 0, .int 0, .ref (am 17), .int 0, .int 0, .ref (am 18), .ref (am 19), .int 0, .int 0, .ref (am 20), .int 0, .int 0, .int 0, .int 0])), (am 1, .inl (cy 0, 940, .inl ob_12))] := hD
  refine lv_aload_n hx hb dX11_feed_35 rfl (lv_at hl 0 rfl) ?_
  refine lv_iload hx hb dX11_feed_36 (lv_at hl 4 rfl) ?_
  refine jn_v (wr := []) (rV (As := [.int n3]) (rest := []) (ci := 12) ⟨hx, hb, hml, hown, hts⟩ (m_come l dC dI cy _ am n3 (((0 + 4) + 4) + 4) ob_12 (by omega)) (cw_X11_14 hts rfl rfl ⟨Nat.le_of_ble_eq_true rfl, Nat.le_of_ble_eq_true rfl⟩) hP hD hK [0, 1] rfl rfl rfl rfl bl0 e0 rfl hl.1 rfl (Nat.le_of_ble_eq_true rfl) dX11_feed_38 ⟨Nat.le_of_ble_eq_true rfl, Nat.le_of_ble_eq_true rfl⟩) hP hD hS hA [0, 1] [] rfl rfl rfl (by decide) (fun u_15 H locs hp_14 hP hD hS => ?_)
  obtain ⟨ob_16, rfl⟩ : ∃ z, z = u_15 := ⟨_, rfl⟩
  have hp_14 : True := hp_14
  have hP : va_P (dC, dI) vwCl [(am 0, .inr (12, [.int 0, .ref (am 1), .int (nI ((((0 + 4) + 4) + 4) + 4)), .int 0, .int 0, .int 0, .int 0, .int 0, .int 0, .int 0, .int 0, .int 0, .long 0, .int 0, .ref (am 2), .ref (am 3), .ref (am 4), .ref (am 5), .ref (am 6), .ref (am 7), .ref (am 8), .ref (am 9), .ref (am 10), .ref (am 11), .int 0, .int (-1), .ref (am 12), .ref (am 13), .ref (am 14), .int 0, .ref (am 15), .ref (am 16), .int 0, .int 0, .int 0, .ref (am 17), .int 0, .int 0, .ref (am 18), .ref (am 19), .int 0, .int 0, .ref (am 20), .int 0, .int 0, .int 0, .int 0])), (am 1, .inl (cy 0, 940, .inl ob_16))] H := hP
  have hD : va_D A [(am 0, .inr (12, [.int 0, .ref (am 1), .int (nI ((((0 + 4) + 4) + 4) + 4)), .int 0, .int 0, .int 0, .int 0, .int 0, .int 0, .int 0, .int 0, .int 0, .long 0, .int 0, .ref (am 2), .ref (am 3), .ref (am 4), .ref (am 5), .ref (am 6), .ref (am 7), .ref (am 8), .ref (am 9), .ref (am 10), .ref (am 11), .int 0, .int (-1), .ref (am 12), .ref (am 13), .ref (am 14), .int 0, .ref (am 15), .ref (am 16), .int 0, .int 0, .int 0, .ref (am 17), .int 0, .int 0, .ref (am 18), .ref (am 19), .int 0, .int 0, .ref (am 20), .int 0, .int 0, .int 0, .int 0])), (am 1, .inl (cy 0, 940, .inl ob_16))] := hD
  refine lv_aload_n hx hb dX11_feed_41 rfl (lv_at hl 0 rfl) ?_
  refine lv_iload hx hb dX11_feed_42 (lv_at hl 5 rfl) ?_
  refine jn_v (wr := []) (rV (As := [.int n4]) (rest := []) (ci := 12) ⟨hx, hb, hml, hown, hts⟩ (m_come l dC dI cy _ am n4 ((((0 + 4) + 4) + 4) + 4) ob_16 (by omega)) (cw_X11_14 hts rfl rfl ⟨Nat.le_of_ble_eq_true rfl, Nat.le_of_ble_eq_true rfl⟩) hP hD hK [0, 1] rfl rfl rfl rfl bl0 e0 rfl hl.1 rfl (Nat.le_of_ble_eq_true rfl) dX11_feed_44 ⟨Nat.le_of_ble_eq_true rfl, Nat.le_of_ble_eq_true rfl⟩) hP hD hS hA [0, 1] [] rfl rfl rfl (by decide) (fun u_19 H locs hp_18 hP hD hS => ?_)
  obtain ⟨ob_20, rfl⟩ : ∃ z, z = u_19 := ⟨_, rfl⟩
  have hp_18 : True := hp_18
  have hP : va_P (dC, dI) vwCl [(am 0, .inr (12, [.int 0, .ref (am 1), .int (nI (((((0 + 4) + 4) + 4) + 4) + 4)), .int 0, .int 0, .int 0, .int 0, .int 0, .int 0, .int 0, .int 0, .int 0, .long 0, .int 0, .ref (am 2), .ref (am 3), .ref (am 4), .ref (am 5), .ref (am 6), .ref (am 7), .ref (am 8), .ref (am 9), .ref (am 10), .ref (am 11), .int 0, .int (-1), .ref (am 12), .ref (am 13), .ref (am 14), .int 0, .ref (am 15), .ref (am 16), .int 0, .int 0, .int 0, .ref (am 17), .int 0, .int 0, .ref (am 18), .ref (am 19), .int 0, .int 0, .ref (am 20), .int 0, .int 0, .int 0, .int 0])), (am 1, .inl (cy 0, 940, .inl ob_20))] H := hP
  have hD : va_D A [(am 0, .inr (12, [.int 0, .ref (am 1), .int (nI (((((0 + 4) + 4) + 4) + 4) + 4)), .int 0, .int 0, .int 0, .int 0, .int 0, .int 0, .int 0, .int 0, .int 0, .long 0, .int 0, .ref (am 2), .ref (am 3), .ref (am 4), .ref (am 5), .ref (am 6), .ref (am 7), .ref (am 8), .ref (am 9), .ref (am 10), .ref (am 11), .int 0, .int (-1), .ref (am 12), .ref (am 13), .ref (am 14), .int 0, .ref (am 15), .ref (am 16), .int 0, .int 0, .int 0, .ref (am 17), .int 0, .int 0, .ref (am 18), .ref (am 19), .int 0, .int 0, .ref (am 20), .int 0, .int 0, .int 0, .int 0])), (am 1, .inl (cy 0, 940, .inl ob_20))] := hD
  refine lv_aload_n hx hb dX11_feed_47 rfl (lv_at hl 0 rfl) ?_
  refine gf_X11_11 hx hb hts hown hK hP 0 rfl rfl dX11_feed_48 ?_
  rw [hQ9]
  exact re_i () hx hb hr hlocks rfl (hP.sub [] rfl) (hD.sub [] rfl rfl) hS dX11_feed_51
abbrev cX11_end : ByteArray := prog_13_method_5_code
def yX11_end : MethodName := ⟨RX11, "end", "(I)Z"⟩
theorem t1436 : Cond.code yX11_end cX11_end 2 (some .boolean) ∈ GW := gw_mem 1550 (by decide +kernel) (by decide +kernel)
theorem dX11_end_0 : decode cX11_end 0 = .ok (.aload_n 0, 1) := by decide +kernel
theorem dX11_end_1 : decode cX11_end 1 = .ok (.iconst 0, 1) := by decide +kernel
theorem dX11_end_2 : decode cX11_end 2 = .ok (.putfield 1, 3) := by decide +kernel
theorem dX11_end_5 : decode cX11_end 5 = .ok (.iload_n 1, 1) := by decide +kernel
theorem dX11_end_6 : decode cX11_end 6 = .ok (.ifCond .lt 11, 3) := by decide +kernel
theorem dX11_end_17 : decode cX11_end 17 = .ok (.iconst 0, 1) := by decide +kernel
theorem dX11_end_18 : decode cX11_end 18 = .ok (.ireturn, 1) := by decide +kernel
theorem dX11_end_9 : decode cX11_end 9 = .ok (.iload_n 1, 1) := by decide +kernel
theorem dX11_end_10 : decode cX11_end 10 = .ok (.aload_n 0, 1) := by decide +kernel
theorem dX11_end_11 : decode cX11_end 11 = .ok (.getfield 11, 3) := by decide +kernel
theorem dX11_end_14 : decode cX11_end 14 = .ok (.if_icmp .le 5, 3) := by decide +kernel
theorem dX11_end_19 : decode cX11_end 19 = .ok (.aload_n 0, 1) := by decide +kernel
theorem dX11_end_20 : decode cX11_end 20 = .ok (.iload_n 1, 1) := by decide +kernel
theorem dX11_end_21 : decode cX11_end 21 = .ok (.putfield 11, 3) := by decide +kernel
theorem dX11_end_24 : decode cX11_end 24 = .ok (.iconst 1, 1) := by decide +kernel
theorem dX11_end_25 : decode cX11_end 25 = .ok (.ireturn, 1) := by decide +kernel
set_option maxHeartbeats 4000000 in
set_option maxRecDepth 100000 in
theorem m_end (l : Launch) (dC : Nat → ClassId) (dI : Nat → Nat → Nat) (cy : Nat → ClassId) (sz : Nat) (am : Nat → Nat) (n0 : Int32)  : Met l yX11_end (wl yX11_end cX11_end 2 (some .boolean)) ({ frames := 1, cells := 0, slots := 0, locals := 64 }) (Pw (dC, dI) vwCl cy [(am 0, .inr (12, [.int 0, .ref (am 1), .int 0, .int 0, .int 0, .int 0, .int 0, .int 0, .int 0, .int 0, .int 0, .int 0, .long 0, .int 0, .ref (am 2), .ref (am 3), .ref (am 4), .ref (am 5), .ref (am 6), .ref (am 7), .ref (am 8), .ref (am 9), .ref (am 10), .ref (am 11), .int 0, .int (-1), .ref (am 12), .ref (am 13), .ref (am 14), .int 0, .ref (am 15), .ref (am 16), .int 0, .int 0, .int 0, .ref (am 17), .int 0, .int 0, .ref (am 18), .ref (am 19), .int 0, .int 0, .ref (am 20), .int 0, .int 0, .int 0, .int 0]))] sz [.ref (am 0), .int n0] nE) (Qi (dC, dI) vwCl (fun (r : Int32) (u : Unit) => r = endF n0) (fun (u : Unit) => []) (va_A [(am 0, .inr (12, [.int 0, .ref (am 1), .int 0, .int 0, .int 0, .int 0, .int 0, .int 0, .int 0, .int 0, .int 0, .int 0, .long 0, .int 0, .ref (am 2), .ref (am 3), .ref (am 4), .ref (am 5), .ref (am 6), .ref (am 7), .ref (am 8), .ref (am 9), .ref (am 10), .ref (am 11), .int 0, .int (-1), .ref (am 12), .ref (am 13), .ref (am 14), .int 0, .ref (am 15), .ref (am 16), .int 0, .int 0, .int 0, .ref (am 17), .int 0, .int 0, .ref (am 18), .ref (am 19), .int 0, .int 0, .ref (am 20), .int 0, .int 0, .int 0, .int 0]))] sz)) 0 0 (va_A [(am 0, .inr (12, [.int 0, .ref (am 1), .int 0, .int 0, .int 0, .int 0, .int 0, .int 0, .int 0, .int 0, .int 0, .int 0, .long 0, .int 0, .ref (am 2), .ref (am 3), .ref (am 4), .ref (am 5), .ref (am 6), .ref (am 7), .ref (am 8), .ref (am 9), .ref (am 10), .ref (am 11), .int 0, .int (-1), .ref (am 12), .ref (am 13), .ref (am 14), .int 0, .ref (am 15), .ref (am 16), .int 0, .int 0, .int 0, .ref (am 17), .int 0, .int 0, .ref (am 18), .ref (am 19), .int 0, .int 0, .ref (am 20), .int 0, .int 0, .int 0, .int 0]))] sz) := by
  refine mw (Qc := Qi (dC, dI) vwCl (fun (r : Int32) (u : Unit) => r = endF n0) (fun (u : Unit) => [])) RX11 rfl (by decide +kernel) (Nat.le_of_ble_eq_true rfl) ?_
  intro p e s m below meth c A hx hb hr hlocks av9 hav hts hown hnm hml hK hP hD hA hS hE hAe Q9 hQ9 ls hl
  have hl : lv_has ls 2 [(0, .ref (am 0)), (1, .int n0)] := hl
  refine lv_aload_n hx hb dX11_end_0 rfl (lv_at hl 0 rfl) ?_
  refine lv_iconst (v := 0) hx hb dX11_end_1 (by decide) ?_
  refine pf_X11_1 hx hb hts hown hK hP hD hS 0 rfl rfl rfl (Nat.le_of_ble_eq_true rfl) dX11_end_2 (fun H locs hP hD hS => ?_)
  have hP : va_P (dC, dI) vwCl [(am 0, .inr (12, [.int 0, .ref (am 1), .int 0, .int 0, .int 0, .int 0, .int 0, .int 0, .int 0, .int 0, .int 0, .int 0, .long 0, .int 0, .ref (am 2), .ref (am 3), .ref (am 4), .ref (am 5), .ref (am 6), .ref (am 7), .ref (am 8), .ref (am 9), .ref (am 10), .ref (am 11), .int 0, .int (-1), .ref (am 12), .ref (am 13), .ref (am 14), .int 0, .ref (am 15), .ref (am 16), .int 0, .int 0, .int 0, .ref (am 17), .int 0, .int 0, .ref (am 18), .ref (am 19), .int 0, .int 0, .ref (am 20), .int 0, .int 0, .int 0, .int 0]))] H := hP
  have hD : va_D A [(am 0, .inr (12, [.int 0, .ref (am 1), .int 0, .int 0, .int 0, .int 0, .int 0, .int 0, .int 0, .int 0, .int 0, .int 0, .long 0, .int 0, .ref (am 2), .ref (am 3), .ref (am 4), .ref (am 5), .ref (am 6), .ref (am 7), .ref (am 8), .ref (am 9), .ref (am 10), .ref (am 11), .int 0, .int (-1), .ref (am 12), .ref (am 13), .ref (am 14), .int 0, .ref (am 15), .ref (am 16), .int 0, .int 0, .int 0, .ref (am 17), .int 0, .int 0, .ref (am 18), .ref (am 19), .int 0, .int 0, .ref (am 20), .int 0, .int 0, .int 0, .int 0]))] := hD
  refine lv_iload_n hx hb dX11_end_5 rfl (lv_at hl 1 rfl) ?_
  refine lv_if_lt (tgt := 17) hx hb dX11_end_6 (by decide) (fun c_1 => ?_) (fun c_1 => ?_)
  · skip
    refine lv_iconst (v := 0) hx hb dX11_end_17 (by decide) ?_
    rw [hQ9]
    exact re_z () hx hb hr hlocks (Or.inl rfl) (endF_lo c_1).symm (hP.sub [] rfl) (hD.sub [] rfl rfl) hS dX11_end_18
  · skip
    refine lv_iload_n hx hb dX11_end_9 rfl (lv_at hl 1 rfl) ?_
    refine lv_aload_n hx hb dX11_end_10 rfl (lv_at hl 0 rfl) ?_
    refine gf_X11_11 hx hb hts hown hK hP 0 rfl rfl dX11_end_11 ?_
    refine lv_icmp_le (tgt := 19) hx hb dX11_end_14 (by decide) (fun c_2 => ?_) (fun c_2 => ?_)
    · skip
      refine lv_aload_n hx hb dX11_end_19 rfl (lv_at hl 0 rfl) ?_
      refine lv_iload_n hx hb dX11_end_20 rfl (lv_at hl 1 rfl) ?_
      refine pf_X11_11 hx hb hts hown hK hP hD hS 0 rfl rfl rfl (Nat.le_of_ble_eq_true rfl) dX11_end_21 (fun H locs hP hD hS => ?_)
      have hP : va_P (dC, dI) vwCl [(am 0, .inr (12, [.int 0, .ref (am 1), .int n0, .int 0, .int 0, .int 0, .int 0, .int 0, .int 0, .int 0, .int 0, .int 0, .long 0, .int 0, .ref (am 2), .ref (am 3), .ref (am 4), .ref (am 5), .ref (am 6), .ref (am 7), .ref (am 8), .ref (am 9), .ref (am 10), .ref (am 11), .int 0, .int (-1), .ref (am 12), .ref (am 13), .ref (am 14), .int 0, .ref (am 15), .ref (am 16), .int 0, .int 0, .int 0, .ref (am 17), .int 0, .int 0, .ref (am 18), .ref (am 19), .int 0, .int 0, .ref (am 20), .int 0, .int 0, .int 0, .int 0]))] H := hP
      have hD : va_D A [(am 0, .inr (12, [.int 0, .ref (am 1), .int n0, .int 0, .int 0, .int 0, .int 0, .int 0, .int 0, .int 0, .int 0, .int 0, .long 0, .int 0, .ref (am 2), .ref (am 3), .ref (am 4), .ref (am 5), .ref (am 6), .ref (am 7), .ref (am 8), .ref (am 9), .ref (am 10), .ref (am 11), .int 0, .int (-1), .ref (am 12), .ref (am 13), .ref (am 14), .int 0, .ref (am 15), .ref (am 16), .int 0, .int 0, .int 0, .ref (am 17), .int 0, .int 0, .ref (am 18), .ref (am 19), .int 0, .int 0, .ref (am 20), .int 0, .int 0, .int 0, .int 0]))] := hD
      refine lv_iconst (v := 1) hx hb dX11_end_24 (by decide) ?_
      rw [hQ9]
      exact re_z () hx hb hr hlocks (Or.inr rfl) (endF_in c_1 c_2).symm (hP.sub [] rfl) (hD.sub [] rfl rfl) hS dX11_end_25
    · skip
      refine lv_iconst (v := 0) hx hb dX11_end_17 (by decide) ?_
      rw [hQ9]
      exact re_z () hx hb hr hlocks (Or.inl rfl) (endF_hi c_2).symm (hP.sub [] rfl) (hD.sub [] rfl rfl) hS dX11_end_18
abbrev cX11_refuse : ByteArray := prog_13_method_2_code
def yX11_refuse : MethodName := ⟨RX11, "refuse", "()I"⟩
theorem t1718 : Cond.code yX11_refuse cX11_refuse 1 (some .int) ∈ GW := gw_mem 1832 (by decide +kernel) (by decide +kernel)
abbrev O_m_refuse (cy : Nat → ClassId) (am : Nat → Nat) (u : Unit) : va_W := [(am 0, .inr (12, [.int 1, .ref (am 1), .int 0, .int 0, .int 0, .int 0, .int 0, .int 0, .int 0, .int 0, .int 0, .int 0, .long 0, .int 0, .ref (am 2), .ref (am 3), .ref (am 4), .ref (am 5), .ref (am 6), .ref (am 7), .ref (am 8), .ref (am 9), .ref (am 10), .ref (am 11), .int 0, .int (-1), .ref (am 12), .ref (am 13), .ref (am 14), .int 0, .ref (am 15), .ref (am 16), .int 0, .int 0, .int 0, .ref (am 17), .int 0, .int 0, .ref (am 18), .ref (am 19), .int 0, .int 0, .ref (am 20), .int 0, .int 0, .int 0, .int 0]))]
theorem dX11_refuse_0 : decode cX11_refuse 0 = .ok (.aload_n 0, 1) := by decide +kernel
theorem dX11_refuse_1 : decode cX11_refuse 1 = .ok (.iconst 1, 1) := by decide +kernel
theorem dX11_refuse_2 : decode cX11_refuse 2 = .ok (.putfield 1, 3) := by decide +kernel
theorem dX11_refuse_5 : decode cX11_refuse 5 = .ok (.iconst 0, 1) := by decide +kernel
theorem dX11_refuse_6 : decode cX11_refuse 6 = .ok (.ireturn, 1) := by decide +kernel
set_option maxHeartbeats 4000000 in
set_option maxRecDepth 100000 in
theorem m_refuse (l : Launch) (dC : Nat → ClassId) (dI : Nat → Nat → Nat) (cy : Nat → ClassId) (sz : Nat) (am : Nat → Nat)  : Met l yX11_refuse (wl yX11_refuse cX11_refuse 1 (some .int)) ({ frames := 0, cells := 0, slots := 0, locals := 0 }) (Pw (dC, dI) vwCl cy [(am 0, .inr (12, [.int 0, .ref (am 1), .int 0, .int 0, .int 0, .int 0, .int 0, .int 0, .int 0, .int 0, .int 0, .int 0, .long 0, .int 0, .ref (am 2), .ref (am 3), .ref (am 4), .ref (am 5), .ref (am 6), .ref (am 7), .ref (am 8), .ref (am 9), .ref (am 10), .ref (am 11), .int 0, .int (-1), .ref (am 12), .ref (am 13), .ref (am 14), .int 0, .ref (am 15), .ref (am 16), .int 0, .int 0, .int 0, .ref (am 17), .int 0, .int 0, .ref (am 18), .ref (am 19), .int 0, .int 0, .ref (am 20), .int 0, .int 0, .int 0, .int 0]))] sz [.ref (am 0)] nE) (Qi (dC, dI) vwCl (fun (r : Int32) (u : Unit) => r = 0) (O_m_refuse cy am) (va_A [(am 0, .inr (12, [.int 0, .ref (am 1), .int 0, .int 0, .int 0, .int 0, .int 0, .int 0, .int 0, .int 0, .int 0, .int 0, .long 0, .int 0, .ref (am 2), .ref (am 3), .ref (am 4), .ref (am 5), .ref (am 6), .ref (am 7), .ref (am 8), .ref (am 9), .ref (am 10), .ref (am 11), .int 0, .int (-1), .ref (am 12), .ref (am 13), .ref (am 14), .int 0, .ref (am 15), .ref (am 16), .int 0, .int 0, .int 0, .ref (am 17), .int 0, .int 0, .ref (am 18), .ref (am 19), .int 0, .int 0, .ref (am 20), .int 0, .int 0, .int 0, .int 0]))] sz)) 0 0 (va_A [(am 0, .inr (12, [.int 0, .ref (am 1), .int 0, .int 0, .int 0, .int 0, .int 0, .int 0, .int 0, .int 0, .int 0, .int 0, .long 0, .int 0, .ref (am 2), .ref (am 3), .ref (am 4), .ref (am 5), .ref (am 6), .ref (am 7), .ref (am 8), .ref (am 9), .ref (am 10), .ref (am 11), .int 0, .int (-1), .ref (am 12), .ref (am 13), .ref (am 14), .int 0, .ref (am 15), .ref (am 16), .int 0, .int 0, .int 0, .ref (am 17), .int 0, .int 0, .ref (am 18), .ref (am 19), .int 0, .int 0, .ref (am 20), .int 0, .int 0, .int 0, .int 0]))] sz) := by
  refine mw (Qc := Qi (dC, dI) vwCl (fun (r : Int32) (u : Unit) => r = 0) (O_m_refuse cy am)) RX11 rfl (by decide +kernel) (Nat.le_of_ble_eq_true rfl) ?_
  intro p e s m below meth c A hx hb hr hlocks av9 hav hts hown hnm hml hK hP hD hA hS hE hAe Q9 hQ9 ls hl
  have hl : lv_has ls 1 [(0, .ref (am 0))] := hl
  refine lv_aload_n hx hb dX11_refuse_0 rfl (lv_at hl 0 rfl) ?_
  refine lv_iconst (v := 1) hx hb dX11_refuse_1 (by decide) ?_
  refine pf_X11_1 hx hb hts hown hK hP hD hS 0 rfl rfl rfl (Nat.le_of_ble_eq_true rfl) dX11_refuse_2 (fun H locs hP hD hS => ?_)
  have hP : va_P (dC, dI) vwCl [(am 0, .inr (12, [.int 1, .ref (am 1), .int 0, .int 0, .int 0, .int 0, .int 0, .int 0, .int 0, .int 0, .int 0, .int 0, .long 0, .int 0, .ref (am 2), .ref (am 3), .ref (am 4), .ref (am 5), .ref (am 6), .ref (am 7), .ref (am 8), .ref (am 9), .ref (am 10), .ref (am 11), .int 0, .int (-1), .ref (am 12), .ref (am 13), .ref (am 14), .int 0, .ref (am 15), .ref (am 16), .int 0, .int 0, .int 0, .ref (am 17), .int 0, .int 0, .ref (am 18), .ref (am 19), .int 0, .int 0, .ref (am 20), .int 0, .int 0, .int 0, .int 0]))] H := hP
  have hD : va_D A [(am 0, .inr (12, [.int 1, .ref (am 1), .int 0, .int 0, .int 0, .int 0, .int 0, .int 0, .int 0, .int 0, .int 0, .int 0, .long 0, .int 0, .ref (am 2), .ref (am 3), .ref (am 4), .ref (am 5), .ref (am 6), .ref (am 7), .ref (am 8), .ref (am 9), .ref (am 10), .ref (am 11), .int 0, .int (-1), .ref (am 12), .ref (am 13), .ref (am 14), .int 0, .ref (am 15), .ref (am 16), .int 0, .int 0, .int 0, .ref (am 17), .int 0, .int 0, .ref (am 18), .ref (am 19), .int 0, .int 0, .ref (am 20), .int 0, .int 0, .int 0, .int 0]))] := hD
  refine lv_iconst (v := 0) hx hb dX11_refuse_5 (by decide) ?_
  rw [hQ9]
  exact re_i () hx hb hr hlocks rfl (hP.sub [0] rfl) (hD.sub [0] rfl rfl) hS dX11_refuse_6
abbrev cX11_man : ByteArray := prog_13_method_54_code
def yX11_man : MethodName := ⟨RX11, "man", "(II)I"⟩
theorem t1710 : Cond.code yX11_man cX11_man 3 (some .int) ∈ GW := gw_mem 1824 (by decide +kernel) (by decide +kernel)
abbrev O_m_man (cy : Nat → ClassId) (am : Nat → Nat) (mi : Nat → Nat → Int32) (n0 : Int32) (n1 : Int32) (u : Unit) : va_W := [(am 0, .inr (12, [.int 1, .ref (am 1), .int 0, .int 0, .int 0, .int 0, .int 0, .int 0, .int 0, .int 0, .int 0, .int 0, .long 0, .int 0, .ref (am 2), .ref (am 3), .ref (am 4), .ref (am 5), .ref (am 6), .ref (am 7), .ref (am 8), .ref (am 9), .ref (am 10), .ref (am 11), .int 0, .int (-1), .ref (am 12), .ref (am 13), .ref (am 14), .int 0, .ref (am 15), .ref (am 16), .int 0, .int 0, .int 0, .ref (am 17), .int 0, .int 0, .ref (am 18), .ref (am 19), .int 0, .int 0, .ref (am 20), .int 0, .int 0, .int 0, .int 0]))]
theorem dX11_man_0 : decode cX11_man 0 = .ok (.aload_n 0, 1) := by decide +kernel
theorem dX11_man_1 : decode cX11_man 1 = .ok (.iconst 0, 1) := by decide +kernel
theorem dX11_man_2 : decode cX11_man 2 = .ok (.putfield 1, 3) := by decide +kernel
theorem dX11_man_5 : decode cX11_man 5 = .ok (.aload_n 0, 1) := by decide +kernel
theorem dX11_man_6 : decode cX11_man 6 = .ok (.iload_n 1, 1) := by decide +kernel
theorem dX11_man_7 : decode cX11_man 7 = .ok (.invokevirtual 250, 3) := by decide +kernel
theorem dX11_man_10 : decode cX11_man 10 = .ok (.ifCond .ne 8, 3) := by decide +kernel
theorem dX11_man_13 : decode cX11_man 13 = .ok (.aload_n 0, 1) := by decide +kernel
theorem dX11_man_14 : decode cX11_man 14 = .ok (.invokevirtual 253, 3) := by decide +kernel
theorem t1715 : Cond.methodLink RX11 253 yX11_refuse ∈ GW := gw_mem 1829 (by decide +kernel) (by decide +kernel)
theorem t1717 : Cond.instanceMethod yX11_refuse ∈ GW := gw_mem 1831 (by decide +kernel) (by decide +kernel)
theorem s63 : Cond.selects RX11 yX11_refuse yX11_refuse ∈ GW := gw_mem 63 (by decide +kernel) (by decide +kernel)
theorem cw_X11_253 {R : Room} {s : State} {args : Array Value} {rm : Room} {mc ms : Nat} (hts : ∀ w ∈ GW, w.before args s = true) (hrc : rm.cells = mc) (hrs : rm.slots = ms) (hR : rm.frames + 1 ≤ R.frames ∧ 8 + (1 + 11) + rm.locals ≤ R.locals) : CallW R s args RX11 RX11 253 yX11_refuse cX11_refuse 1 (some .int) (wl yX11_refuse cX11_refuse 1 (some .int)) rm mc ms 0 := cwV 0 hts (gi_V t1715 t1717 s63 t18 t1718) rfl hrc hrs (by decide +kernel) hR
theorem dX11_man_17 : decode cX11_man 17 = .ok (.ireturn, 1) := by decide +kernel
set_option maxHeartbeats 4000000 in
set_option maxRecDepth 100000 in
theorem m_man (l : Launch) (dC : Nat → ClassId) (dI : Nat → Nat → Nat) (cy : Nat → ClassId) (sz : Nat) (am : Nat → Nat) (mi : Nat → Nat → Int32) (n0 : Int32) (n1 : Int32) (hn : NowOk (mi 2)) : Met l yX11_man (wl yX11_man cX11_man 3 (some .int)) ({ frames := 2, cells := 0, slots := 0, locals := 128 }) (Pw (dC, dI) vwCl cy [(am 0, .inr (12, [.int 0, .ref (am 1), .int 0, .int 0, .int 0, .int 0, .int 0, .int 0, .int 0, .int 0, .int 0, .int 0, .long 0, .int 0, .ref (am 2), .ref (am 3), .ref (am 4), .ref (am 5), .ref (am 6), .ref (am 7), .ref (am 8), .ref (am 9), .ref (am 10), .ref (am 11), .int 0, .int (-1), .ref (am 12), .ref (am 13), .ref (am 14), .int 0, .ref (am 15), .ref (am 16), .int 0, .int 0, .int 0, .ref (am 17), .int 0, .int 0, .ref (am 18), .ref (am 19), .int 0, .int 0, .ref (am 20), .int 0, .int 0, .int 0, .int 0])), (am 2, .inl (cy 0, 575, .inl (mi 2)))] sz [.ref (am 0), .int n0, .int n1] nE) (Qi (dC, dI) vwCl (fun (r : Int32) (u : Unit) => r = 0) (O_m_man cy am mi n0 n1) (va_A [(am 0, .inr (12, [.int 0, .ref (am 1), .int 0, .int 0, .int 0, .int 0, .int 0, .int 0, .int 0, .int 0, .int 0, .int 0, .long 0, .int 0, .ref (am 2), .ref (am 3), .ref (am 4), .ref (am 5), .ref (am 6), .ref (am 7), .ref (am 8), .ref (am 9), .ref (am 10), .ref (am 11), .int 0, .int (-1), .ref (am 12), .ref (am 13), .ref (am 14), .int 0, .ref (am 15), .ref (am 16), .int 0, .int 0, .int 0, .ref (am 17), .int 0, .int 0, .ref (am 18), .ref (am 19), .int 0, .int 0, .ref (am 20), .int 0, .int 0, .int 0, .int 0])), (am 2, .inl (cy 0, 575, .inl (mi 2)))] sz)) 0 0 (va_A [(am 0, .inr (12, [.int 0, .ref (am 1), .int 0, .int 0, .int 0, .int 0, .int 0, .int 0, .int 0, .int 0, .int 0, .int 0, .long 0, .int 0, .ref (am 2), .ref (am 3), .ref (am 4), .ref (am 5), .ref (am 6), .ref (am 7), .ref (am 8), .ref (am 9), .ref (am 10), .ref (am 11), .int 0, .int (-1), .ref (am 12), .ref (am 13), .ref (am 14), .int 0, .ref (am 15), .ref (am 16), .int 0, .int 0, .int 0, .ref (am 17), .int 0, .int 0, .ref (am 18), .ref (am 19), .int 0, .int 0, .ref (am 20), .int 0, .int 0, .int 0, .int 0])), (am 2, .inl (cy 0, 575, .inl (mi 2)))] sz) := by
  refine mw (Qc := Qi (dC, dI) vwCl (fun (r : Int32) (u : Unit) => r = 0) (O_m_man cy am mi n0 n1)) RX11 rfl (by decide +kernel) (Nat.le_of_ble_eq_true rfl) ?_
  intro p e s m below meth c A hx hb hr hlocks av9 hav hts hown hnm hml hK hP hD hA hS hE hAe Q9 hQ9 ls hl
  have hl : lv_has ls 3 [(0, .ref (am 0)), (1, .int n0), (2, .int n1)] := hl
  refine lv_aload_n hx hb dX11_man_0 rfl (lv_at hl 0 rfl) ?_
  refine lv_iconst (v := 0) hx hb dX11_man_1 (by decide) ?_
  refine pf_X11_1 hx hb hts hown hK hP hD hS 0 rfl rfl rfl (Nat.le_of_ble_eq_true rfl) dX11_man_2 (fun H locs hP hD hS => ?_)
  have hP : va_P (dC, dI) vwCl [(am 0, .inr (12, [.int 0, .ref (am 1), .int 0, .int 0, .int 0, .int 0, .int 0, .int 0, .int 0, .int 0, .int 0, .int 0, .long 0, .int 0, .ref (am 2), .ref (am 3), .ref (am 4), .ref (am 5), .ref (am 6), .ref (am 7), .ref (am 8), .ref (am 9), .ref (am 10), .ref (am 11), .int 0, .int (-1), .ref (am 12), .ref (am 13), .ref (am 14), .int 0, .ref (am 15), .ref (am 16), .int 0, .int 0, .int 0, .ref (am 17), .int 0, .int 0, .ref (am 18), .ref (am 19), .int 0, .int 0, .ref (am 20), .int 0, .int 0, .int 0, .int 0])), (am 2, .inl (cy 0, 575, .inl (mi 2)))] H := hP
  have hD : va_D A [(am 0, .inr (12, [.int 0, .ref (am 1), .int 0, .int 0, .int 0, .int 0, .int 0, .int 0, .int 0, .int 0, .int 0, .int 0, .long 0, .int 0, .ref (am 2), .ref (am 3), .ref (am 4), .ref (am 5), .ref (am 6), .ref (am 7), .ref (am 8), .ref (am 9), .ref (am 10), .ref (am 11), .int 0, .int (-1), .ref (am 12), .ref (am 13), .ref (am 14), .int 0, .ref (am 15), .ref (am 16), .int 0, .int 0, .int 0, .ref (am 17), .int 0, .int 0, .ref (am 18), .ref (am 19), .int 0, .int 0, .ref (am 20), .int 0, .int 0, .int 0, .int 0])), (am 2, .inl (cy 0, 575, .inl (mi 2)))] := hD
  refine lv_aload_n hx hb dX11_man_5 rfl (lv_at hl 0 rfl) ?_
  refine lv_iload_n hx hb dX11_man_6 rfl (lv_at hl 1 rfl) ?_
  refine jr_i (rVr (As := [.int n0]) (rest := []) (ci := 12) ⟨hx, hb, hml, hown, hts⟩ (m_isMan l dC dI cy am mi n0 hn) (cw_X11_250 hts rfl rfl ⟨Nat.le_of_ble_eq_true rfl, Nat.le_of_ble_eq_true rfl⟩) hP hK [0, 1] rfl rfl rfl rfl hl.1 rfl (Nat.le_of_ble_eq_true rfl) dX11_man_7 ⟨Nat.le_of_ble_eq_true rfl, Nat.le_of_ble_eq_true rfl⟩) hP hS (fun r_1 H locs hp_2 hP hS => ?_)
  refine as_i 0 hp_2 ?_
  refine lv_if_ne (tgt := 18) hx hb dX11_man_10 (by decide) (fun c9 => absurd c9 (by decide)) (fun _ => ?_)
  refine lv_aload_n hx hb dX11_man_13 rfl (lv_at hl 0 rfl) ?_
  refine jn_i (wr := [(am 2, .inl (cy 0, 575, .inl (mi 2)))]) (rV (As := []) (rest := []) (ci := 12) ⟨hx, hb, hml, hown, hts⟩ (m_refuse l dC dI cy _ am ) (cw_X11_253 hts rfl rfl ⟨Nat.le_of_ble_eq_true rfl, Nat.le_of_ble_eq_true rfl⟩) hP hD hK [0] rfl rfl rfl rfl bl0 e0 rfl hl.1 rfl (Nat.le_of_ble_eq_true rfl) dX11_man_14 ⟨Nat.le_of_ble_eq_true rfl, Nat.le_of_ble_eq_true rfl⟩) hP hD hS hA [0] [1] rfl rfl rfl (by decide) (fun r_3 u_5 H locs hp_4 hP hD hS => ?_)
  have hp_4 : r_3 = 0 := hp_4
  have hP : va_P (dC, dI) vwCl [(am 2, .inl (cy 0, 575, .inl (mi 2))), (am 0, .inr (12, [.int 1, .ref (am 1), .int 0, .int 0, .int 0, .int 0, .int 0, .int 0, .int 0, .int 0, .int 0, .int 0, .long 0, .int 0, .ref (am 2), .ref (am 3), .ref (am 4), .ref (am 5), .ref (am 6), .ref (am 7), .ref (am 8), .ref (am 9), .ref (am 10), .ref (am 11), .int 0, .int (-1), .ref (am 12), .ref (am 13), .ref (am 14), .int 0, .ref (am 15), .ref (am 16), .int 0, .int 0, .int 0, .ref (am 17), .int 0, .int 0, .ref (am 18), .ref (am 19), .int 0, .int 0, .ref (am 20), .int 0, .int 0, .int 0, .int 0]))] H := hP
  have hD : va_D A [(am 2, .inl (cy 0, 575, .inl (mi 2))), (am 0, .inr (12, [.int 1, .ref (am 1), .int 0, .int 0, .int 0, .int 0, .int 0, .int 0, .int 0, .int 0, .int 0, .int 0, .long 0, .int 0, .ref (am 2), .ref (am 3), .ref (am 4), .ref (am 5), .ref (am 6), .ref (am 7), .ref (am 8), .ref (am 9), .ref (am 10), .ref (am 11), .int 0, .int (-1), .ref (am 12), .ref (am 13), .ref (am 14), .int 0, .ref (am 15), .ref (am 16), .int 0, .int 0, .int 0, .ref (am 17), .int 0, .int 0, .ref (am 18), .ref (am 19), .int 0, .int 0, .ref (am 20), .int 0, .int 0, .int 0, .int 0]))] := hD
  refine as_i 0 hp_4 ?_
  rw [hQ9]
  exact re_i () hx hb hr hlocks rfl (hP.sub [1] rfl) (hD.sub [1] rfl rfl) hS dX11_man_17
abbrev cX11_thrown : ByteArray := prog_13_method_1_code
def yX11_thrown : MethodName := ⟨RX11, "thrown", "()I"⟩
theorem t1423 : Cond.code yX11_thrown cX11_thrown 1 (some .int) ∈ GW := gw_mem 1537 (by decide +kernel) (by decide +kernel)
theorem dX11_thrown_0 : decode cX11_thrown 0 = .ok (.aload_n 0, 1) := by decide +kernel
theorem dX11_thrown_1 : decode cX11_thrown 1 = .ok (.getfield 1, 3) := by decide +kernel
theorem gf_X11_1 {p : Program} {l : Launch} {e : Env} {R : Room} {s : State} {m : MethodId} {args : Array Value} {below : List Frame} {meth : Method} {c : Code} {H : Heap} {locs : List Loc} {cells slots : Nat} {Q : State → Prop} {cc : ByteArray} {pc : Nat} {ls : Array Slot} {rest : List Value} {D : va_G} {a : Nat} {tys : List (ClassId × FieldType)} {ws : va_W} (hx : p.tables.exec = Jvm.exec) (hb : c.code = cc) (hts : ∀ w ∈ GW, w.before args s = true) (hown : s.vm.findClass RX11 = some m.cls) (hK : va_K D vwCl tys s) (hP : va_P D vwCl ws H) (q0 : Nat) {fs : List Value} (he : ws[q0]? = some (a, .inr (12, fs))) {v : Value} (hv : fs[0]? = some v) (hdg : decode cc pc = .ok (.getfield 1, 3)) (kk : W p l e R s m args below meth c H locs cells slots Q (F0 m (pc + 3) ls (v :: rest))) : W p l e R s m args below meth c H locs cells slots Q (F0 m pc ls (.ref a :: rest)) := va_get (C := RX11) (T := TX11) (N := 47) (ci := 12) hx hb hts inX11 hown hK hP q0 he rfl 0 (by decide) (hts _ t1446) (fun _ h => h) hv hdg kk
theorem dX11_thrown_4 : decode cX11_thrown 4 = .ok (.ireturn, 1) := by decide +kernel
set_option maxHeartbeats 4000000 in
set_option maxRecDepth 100000 in
theorem m_thrown (l : Launch) (dC : Nat → ClassId) (dI : Nat → Nat → Nat) (cy : Nat → ClassId) (am : Nat → Nat)  : Met l yX11_thrown (wl yX11_thrown cX11_thrown 1 (some .int)) ({ frames := 0, cells := 0, slots := 0, locals := 0 }) (Pr (dC, dI) vwCl cy [(am 0, .inr (12, [.int 1, .ref (am 1), .int 0, .int 0, .int 0, .int 0, .int 0, .int 0, .int 0, .int 0, .int 0, .int 0, .long 0, .int 0, .ref (am 2), .ref (am 3), .ref (am 4), .ref (am 5), .ref (am 6), .ref (am 7), .ref (am 8), .ref (am 9), .ref (am 10), .ref (am 11), .int 0, .int (-1), .ref (am 12), .ref (am 13), .ref (am 14), .int 0, .ref (am 15), .ref (am 16), .int 0, .int 0, .int 0, .ref (am 17), .int 0, .int 0, .ref (am 18), .ref (am 19), .int 0, .int 0, .ref (am 20), .int 0, .int 0, .int 0, .int 0]))] [.ref (am 0)]) (Ri (fun r => r = 1)) 0 0 (fun _ => False) := by
  refine mr RX11 rfl (by decide +kernel) (Nat.le_of_ble_eq_true rfl) ?_
  intro p e s m below meth c hx hb hr hlocks av9 hav hts hown hml hK hP hS Q9 hQ9 ls hl
  have hl : lv_has ls 1 [(0, .ref (am 0))] := hl
  refine lv_aload_n hx hb dX11_thrown_0 rfl (lv_at hl 0 rfl) ?_
  refine gf_X11_1 hx hb hts hown hK hP 0 rfl rfl dX11_thrown_1 ?_
  rw [hQ9]
  exact rr_i hx hb hr hlocks rfl hS dX11_thrown_4
