set_option maxHeartbeats 8000000 in
set_option maxRecDepth 100000 in
/-- the loop's head with the fresh objects: no call, or one -/
theorem law_head {p : Program} {l : Launch} {e : Env} {s : State} {m : MethodId} {below : List Frame} {meth : Method} {c : Code} {b : Nat} {xs : Nat → Int32} {L : Nat} (hl0 : l.stackTraces = false) (hL : L ≤ 6) (C0 : lw_At p s m meth c b L xs) (dC : Nat → ClassId) (dI : Nat → Nat → Nat) (cy : Nat → ClassId) (ad : Nat → Nat) (ai : Nat → Nat → Int32) (al : Nat → Nat → Int64) (aq : Nat → Nat → Option Nat) (am : Nat → Nat) (mi : Nat → Nat → Int32) (ml : Nat → Nat → Int64) (qo : Nat) (hX : OkX ad ai aq) (hM : OkM mi) (hEX : EnvX (FA s) s) (hK : va_K (dC, dI) vwCl (TY cy) s) {H : Heap} {locs : List Loc} (hP : va_P (dC, dI) vwCl (FX cy ad ai al aq ++ FM cy am mi ml) H) (hD : va_D (FA s) (FX cy ad ai al aq ++ FM cy am mi ml)) (hS : va_S (FA s) s.heap H locs) {ls : Array Slot} (hl : lv_has ls 7 [(4, .int 0), (3, .ref qo), (2, .ref (am 0)), (1, .ref (ad 0)), (0, .ref b)]) : W p l e room_1 s m #[Value.ref b] below meth c H locs 237 23836 (lw_Z below #[Value.ref b] s) (F0 m 23 ls []) := by
  obtain ⟨hx, hb, hr, hml, hown, htsL, hXs, hbl, hlocks, hgv⟩ := id C0
  have hbA : ¬ FA s b := Nat.not_le.mpr hbl
  refine lv_iload hx hb dL_law_23 (lv_at hl 0 rfl) ?_
  refine lv_aload_n hx hb dL_law_25 rfl (lv_at hl 4 rfl) ?_
  refine va_slen hx hb hXs hbl hbA hS dL_law_26 ?_
  refine lv_bipush (v := 6) hx hb dL_law_27 (by decide) ?_
  refine lv_isub hx hb dL_law_29 ?_
  rcases Nat.lt_or_ge L 6 with hlt | hge
  · have hout : (Int32.ofNat L - 6 : Int32) < 0 := by
      have : ∀ k, k < 6 → (Int32.ofNat k - 6 : Int32) < 0 := by decide +kernel
      exact this L hlt
    refine lv_icmp_gt (tgt := 1463) hx hb dL_law_30 (by decide) (fun _ => ?_) (fun c9 => absurd hout c9)
    refine lv_iconst (v := 1) hx hb dL_law_1463 (by decide) ?_
    refine va_forget (fun q hq => hS.2.2 q hq) ?_
    refine W.widen (k := 600002) (n := 7302232) (by decide) (by decide) ?_
    exact lw_ret hx hb hr hlocks dL_law_1464
  · obtain rfl : L = 6 := by omega
    refine as_i 0 (by decide) ?_
    refine lv_icmp_gt (tgt := 1463) hx hb dL_law_30 (by decide) (fun c9 => absurd c9 (by decide)) (fun _ => ?_)
    refine lv_aload_n hx hb dL_law_33 rfl (lv_at hl 4 rfl) ?_
    refine lv_iload hx hb dL_law_34 (lv_at hl 0 rfl) ?_
    refine va_sld hx hb hXs hbl hbA hS (show vp_in 0 6 from vp_in_nI (n := 0) (by decide) (by decide)) dL_law_36 ?_
    refine lv_bipush (v := 63) hx hb dL_law_37 (by decide) ?_
    refine lv_iand hx hb dL_law_39 ?_
    obtain ⟨j, hj, ej⟩ := pk_andE (xs (Int32.toNatClampNeg 0)) (m := 63) 6 (by decide)
    refine as_i (nI j) ej ?_
    rcases Nat.lt_or_ge 40 j with hj4 | hj4
    · refine lv_tableOut (tgt := 1457) hx hb dL_law_40 (Or.inr (by rw [nI_toInt (by omega)]; omega)) (by decide) ?_
      exact law_end C0 hS (lv_sub hl [0, 4] rfl) (by decide) (by decide)
    have hcs : j = 0 ∨ j = 1 ∨ j = 2 ∨ j = 3 ∨ j = 4 ∨ j = 5 ∨ j = 6 ∨ j = 7 ∨ j = 8 ∨ j = 9 ∨ j = 10 ∨ j = 11 ∨ j = 12 ∨ j = 13 ∨ j = 14 ∨ j = 15 ∨ j = 16 ∨ j = 17 ∨ j = 18 ∨ j = 19 ∨ j = 20 ∨ j = 21 ∨ j = 22 ∨ j = 23 ∨ j = 24 ∨ j = 25 ∨ j = 26 ∨ j = 27 ∨ j = 28 ∨ j = 29 ∨ j = 30 ∨ j = 31 ∨ j = 32 ∨ j = 33 ∨ j = 34 ∨ j = 35 ∨ j = 36 ∨ j = 37 ∨ j = 38 ∨ j = 39 ∨ j = 40 := by omega
    clear ej hj hj4
    rcases hcs with rfl | rfl | rfl | rfl | rfl | rfl | rfl | rfl | rfl | rfl | rfl | rfl | rfl | rfl | rfl | rfl | rfl | rfl | rfl | rfl | rfl | rfl | rfl | rfl | rfl | rfl | rfl | rfl | rfl | rfl | rfl | rfl | rfl | rfl | rfl | rfl | rfl | rfl | rfl | rfl | rfl
    · refine lv_tableIn (off := 180) (tgt := 220) hx hb dL_law_40 (by decide) (by decide) (by decide) (by decide) ?_
      exact lc_0 hl0 C0 dC dI cy ad ai al aq am mi ml qo hX hM hEX hK hP hD hS hl
    · refine lv_tableIn (off := 253) (tgt := 293) hx hb dL_law_40 (by decide) (by decide) (by decide) (by decide) ?_
      exact lc_1 hl0 C0 dC dI cy ad ai al aq am mi ml qo hX hM hEX hK hP hD hS hl
    · refine lv_tableIn (off := 278) (tgt := 318) hx hb dL_law_40 (by decide) (by decide) (by decide) (by decide) ?_
      exact lc_2 hl0 C0 dC dI cy ad ai al aq am mi ml qo hX hM hEX hK hP hD hS hl
    · refine lv_tableIn (off := 291) (tgt := 331) hx hb dL_law_40 (by decide) (by decide) (by decide) (by decide) ?_
      exact lc_3 hl0 C0 dC dI cy ad ai al aq am mi ml qo hX hM hEX hK hP hD hS hl
    · refine lv_tableIn (off := 304) (tgt := 344) hx hb dL_law_40 (by decide) (by decide) (by decide) (by decide) ?_
      exact lc_4 hl0 C0 dC dI cy ad ai al aq am mi ml qo hX hM hEX hK hP hD hS hl
    · refine lv_tableIn (off := 372) (tgt := 412) hx hb dL_law_40 (by decide) (by decide) (by decide) (by decide) ?_
      exact lc_5 hl0 C0 dC dI cy ad ai al aq am mi ml qo hX hM hEX hK hP hD hS hl
    · refine lv_tableIn (off := 409) (tgt := 449) hx hb dL_law_40 (by decide) (by decide) (by decide) (by decide) ?_
      exact lc_6 hl0 C0 dC dI cy ad ai al aq am mi ml qo hX hM hEX hK hP hD hS hl
    · refine lv_tableIn (off := 446) (tgt := 486) hx hb dL_law_40 (by decide) (by decide) (by decide) (by decide) ?_
      exact lc_7 hl0 C0 dC dI cy ad ai al aq am mi ml qo hX hM hEX hK hP hD hS hl
    · refine lv_tableIn (off := 483) (tgt := 523) hx hb dL_law_40 (by decide) (by decide) (by decide) (by decide) ?_
      exact lc_8 hl0 C0 dC dI cy ad ai al aq am mi ml qo hX hM hEX hK hP hD hS hl
    · refine lv_tableIn (off := 508) (tgt := 548) hx hb dL_law_40 (by decide) (by decide) (by decide) (by decide) ?_
      exact lc_9 hl0 C0 dC dI cy ad ai al aq am mi ml qo hX hM hEX hK hP hD hS hl
    · refine lv_tableIn (off := 545) (tgt := 585) hx hb dL_law_40 (by decide) (by decide) (by decide) (by decide) ?_
      exact lc_10 hl0 C0 dC dI cy ad ai al aq am mi ml qo hX hM hEX hK hP hD hS hl
    · refine lv_tableIn (off := 582) (tgt := 622) hx hb dL_law_40 (by decide) (by decide) (by decide) (by decide) ?_
      exact lc_11 hl0 C0 dC dI cy ad ai al aq am mi ml qo hX hM hEX hK hP hD hS hl
    · refine lv_tableIn (off := 607) (tgt := 647) hx hb dL_law_40 (by decide) (by decide) (by decide) (by decide) ?_
      exact lc_12 hl0 C0 dC dI cy ad ai al aq am mi ml qo hX hM hEX hK hP hD hS hl
    · refine lv_tableIn (off := 644) (tgt := 684) hx hb dL_law_40 (by decide) (by decide) (by decide) (by decide) ?_
      exact lc_13 hl0 C0 dC dI cy ad ai al aq am mi ml qo hX hM hEX hK hP hD hS hl
    · refine lv_tableIn (off := 693) (tgt := 733) hx hb dL_law_40 (by decide) (by decide) (by decide) (by decide) ?_
      exact lc_14 hl0 C0 dC dI cy ad ai al aq am mi ml qo hX hM hEX hK hP hD hS hl
    · refine lv_tableIn (off := 718) (tgt := 758) hx hb dL_law_40 (by decide) (by decide) (by decide) (by decide) ?_
      exact lc_15 hl0 C0 dC dI cy ad ai al aq am mi ml qo hX hM hEX hK hP hD hS hl
    · refine lv_tableIn (off := 767) (tgt := 807) hx hb dL_law_40 (by decide) (by decide) (by decide) (by decide) ?_
      exact lc_16 hl0 C0 dC dI cy ad ai al aq am mi ml qo hX hM hEX hK hP hD hS hl
    · refine lv_tableIn (off := 816) (tgt := 856) hx hb dL_law_40 (by decide) (by decide) (by decide) (by decide) ?_
      exact lc_17 hl0 C0 dC dI cy ad ai al aq am mi ml qo hX hM hEX hK hP hD hS hl
    · refine lv_tableIn (off := 841) (tgt := 881) hx hb dL_law_40 (by decide) (by decide) (by decide) (by decide) ?_
      exact lc_18 hl0 C0 dC dI cy ad ai al aq am mi ml qo hX hM hEX hK hP hD hS hl
    · refine lv_tableIn (off := 866) (tgt := 906) hx hb dL_law_40 (by decide) (by decide) (by decide) (by decide) ?_
      exact lc_19 hl0 C0 dC dI cy ad ai al aq am mi ml qo hX hM hEX hK hP hD hS hl
    · refine lv_tableIn (off := 879) (tgt := 919) hx hb dL_law_40 (by decide) (by decide) (by decide) (by decide) ?_
      exact lc_20 hl0 C0 dC dI cy ad ai al aq am mi ml qo hX hM hEX hK hP hD hS hl
    · refine lv_tableIn (off := 904) (tgt := 944) hx hb dL_law_40 (by decide) (by decide) (by decide) (by decide) ?_
      exact lc_21 hl0 C0 dC dI cy ad ai al aq am mi ml qo hX hM hEX hK hP hD hS hl
    · refine lv_tableIn (off := 941) (tgt := 981) hx hb dL_law_40 (by decide) (by decide) (by decide) (by decide) ?_
      exact lc_22 hl0 C0 dC dI cy ad ai al aq am mi ml qo hX hM hEX hK hP hD hS hl
    · refine lv_tableIn (off := 966) (tgt := 1006) hx hb dL_law_40 (by decide) (by decide) (by decide) (by decide) ?_
      exact lc_23 hl0 C0 dC dI cy ad ai al aq am mi ml qo hX hM hEX hK hP hD hS hl
    · refine lv_tableIn (off := 979) (tgt := 1019) hx hb dL_law_40 (by decide) (by decide) (by decide) (by decide) ?_
      exact lc_24 hl0 C0 dC dI cy ad ai al aq am mi ml qo hX hM hEX hK hP hD hS hl
    · refine lv_tableIn (off := 993) (tgt := 1033) hx hb dL_law_40 (by decide) (by decide) (by decide) (by decide) ?_
      exact lc_25 hl0 C0 dC dI cy ad ai al aq am mi ml qo hX hM hEX hK hP hD hS hl
    · refine lv_tableIn (off := 1018) (tgt := 1058) hx hb dL_law_40 (by decide) (by decide) (by decide) (by decide) ?_
      exact lc_26 hl0 C0 dC dI cy ad ai al aq am mi ml qo hX hM hEX hK hP hD hS hl
    · refine lv_tableIn (off := 1055) (tgt := 1095) hx hb dL_law_40 (by decide) (by decide) (by decide) (by decide) ?_
      exact lc_27 hl0 C0 dC dI cy ad ai al aq am mi ml qo hX hM hEX hK hP hD hS hl
    · refine lv_tableIn (off := 1080) (tgt := 1120) hx hb dL_law_40 (by decide) (by decide) (by decide) (by decide) ?_
      exact lc_28 hl0 C0 dC dI cy ad ai al aq am mi ml qo hX hM hEX hK hP hD hS hl
    · refine lv_tableIn (off := 1105) (tgt := 1145) hx hb dL_law_40 (by decide) (by decide) (by decide) (by decide) ?_
      exact lc_29 hl0 C0 dC dI cy ad ai al aq am mi ml qo hX hM hEX hK hP hD hS hl
    · refine lv_tableIn (off := 1118) (tgt := 1158) hx hb dL_law_40 (by decide) (by decide) (by decide) (by decide) ?_
      exact lc_30 hl0 C0 dC dI cy ad ai al aq am mi ml qo hX hM hEX hK hP hD hS hl
    · refine lv_tableIn (off := 1143) (tgt := 1183) hx hb dL_law_40 (by decide) (by decide) (by decide) (by decide) ?_
      exact lc_31 hl0 C0 dC dI cy ad ai al aq am mi ml qo hX hM hEX hK hP hD hS hl
    · refine lv_tableIn (off := 1168) (tgt := 1208) hx hb dL_law_40 (by decide) (by decide) (by decide) (by decide) ?_
      exact lc_32 hl0 C0 dC dI cy ad ai al aq am mi ml qo hX hM hEX hK hP hD hS hl
    · refine lv_tableIn (off := 1205) (tgt := 1245) hx hb dL_law_40 (by decide) (by decide) (by decide) (by decide) ?_
      exact lc_33 hl0 C0 dC dI cy ad ai al aq am mi ml qo hX hM hEX hK hP hD hS hl
    · refine lv_tableIn (off := 1254) (tgt := 1294) hx hb dL_law_40 (by decide) (by decide) (by decide) (by decide) ?_
      exact lc_34 hl0 C0 dC dI cy ad ai al aq am mi ml qo hX hM hEX hK hP hD hS hl
    · refine lv_tableIn (off := 1279) (tgt := 1319) hx hb dL_law_40 (by decide) (by decide) (by decide) (by decide) ?_
      exact lc_35 hl0 C0 dC dI cy ad ai al aq am mi ml qo hX hM hEX hK hP hD hS hl
    · refine lv_tableIn (off := 1304) (tgt := 1344) hx hb dL_law_40 (by decide) (by decide) (by decide) (by decide) ?_
      exact lc_36 hl0 C0 dC dI cy ad ai al aq am mi ml qo hX hM hEX hK hP hD hS hl
    · refine lv_tableIn (off := 1317) (tgt := 1357) hx hb dL_law_40 (by decide) (by decide) (by decide) (by decide) ?_
      exact lc_37 hl0 C0 dC dI cy ad ai al aq am mi ml qo hX hM hEX hK hP hD hS hl
    · refine lv_tableIn (off := 1342) (tgt := 1382) hx hb dL_law_40 (by decide) (by decide) (by decide) (by decide) ?_
      exact lc_38 hl0 C0 dC dI cy ad ai al aq am mi ml qo hX hM hEX hK hP hD hS hl
    · refine lv_tableIn (off := 1367) (tgt := 1407) hx hb dL_law_40 (by decide) (by decide) (by decide) (by decide) ?_
      exact lc_39 hl0 C0 dC dI cy ad ai al aq am mi ml qo hX hM hEX hK hP hD hS hl
    · refine lv_tableIn (off := 1392) (tgt := 1432) hx hb dL_law_40 (by decide) (by decide) (by decide) (by decide) ?_
      exact lc_40 hl0 C0 dC dI cy ad ai al aq am mi ml qo hX hM hEX hK hP hD hS hl
set_option maxHeartbeats 8000000 in
set_option maxRecDepth 100000 in
/-- THE LAW, from its entry -/
theorem whole_start {p : Program} {e : Env} {s : State} {m : MethodId} {below : List Frame} {meth : Method} {c : Code} (l : Launch) (hl0 : l.stackTraces = false) {b L : Nat} {xs : Nat → Int32} (hL : L ≤ 6) (C0 : lw_At p s m meth c b L xs) : W p l e room_1 s m #[Value.ref b] below meth c s.heap [] 0 0 (lw_Z below #[Value.ref b] s) (entryFrame m ([Value.ref b] : List Value).toArray 7) := by
  obtain ⟨hx, hb, hr, hml, hown, htsL, hXs, hbl, hlocks, hgv⟩ := id C0
  have hown : s.vm.findClass RL = some m.cls := hown
  have hts : ∀ w ∈ GW, w.before #[Value.ref b] s = true := fun w hw => htsL w (List.mem_filter.mp hw).1
  have hA : ∀ q : Nat, s.heap.size ≤ q → FA s q := fun _ h => h
  have hbA : ¬ FA s b := Nat.not_le.mpr hbl
  obtain ⟨kS, vS, hE⟩ := env_c htsL hgv
  have hEX := env_x htsL hgv
  obtain ⟨c0, iS0, hKn0⟩ := u_known (C := RJ4) (T := TJ4) (N := 4) (n := 4) hts inJ4 (hts _ t331)
  obtain ⟨c1, iS1, hKn1⟩ := u_known (C := RX0) (T := TX0) (N := 10) (n := 10) hts inX0 (hts _ t170)
  obtain ⟨c2, iS2, hKn2⟩ := u_known (C := RX1) (T := TX1) (N := 9) (n := 9) hts inX1 (hts _ t368)
  obtain ⟨c3, iS3, hKn3⟩ := u_known (C := RX2) (T := TX2) (N := 5) (n := 5) hts inX2 (hts _ t147)
  obtain ⟨c4, iS4, hKn4⟩ := u_known (C := RX3) (T := TX3) (N := 1) (n := 1) hts inX3 (hts _ t304)
  obtain ⟨c5, iS5, hKn5⟩ := u_known (C := RX4) (T := TX4) (N := 11) (n := 11) hts inX4 (hts _ t219)
  obtain ⟨c6, iS6, hKn6⟩ := u_known (C := RX5) (T := TX5) (N := 3) (n := 3) hts inX5 (hts _ t212)
  obtain ⟨c7, iS7, hKn7⟩ := u_known (C := RX6) (T := TX6) (N := 6) (n := 6) hts inX6 (hts _ t434)
  obtain ⟨c8, iS8, hKn8⟩ := u_known (C := RX7) (T := TX7) (N := 3) (n := 3) hts inX7 (hts _ t314)
  obtain ⟨c9, iS9, hKn9⟩ := u_known (C := RX8) (T := TX8) (N := 12) (n := 12) hts inX8 (hts _ t38)
  obtain ⟨c10, iS10, hKn10⟩ := u_known (C := RX9) (T := TX9) (N := 3) (n := 3) hts inX9 (hts _ t362)
  obtain ⟨c11, iS11, hKn11⟩ := u_known (C := RX10) (T := TX10) (N := 17) (n := 17) hts inX10 (hts _ t30)
  obtain ⟨c12, iS12, hKn12⟩ := u_known (C := RX11) (T := TX11) (N := 47) (n := 47) hts inX11 (hts _ t1431)
  obtain ⟨dC, dI, hKc⟩ : ∃ (dC : Nat → ClassId) (dI : Nat → Nat → Nat), ∀ (k : Nat) (q : vw_C), vwCl[k]? = some q → u_Kn s q.1 q.2.1 q.2.2 (dC k) (dI k) := by
    refine ⟨fun k => [c0, c1, c2, c3, c4, c5, c6, c7, c8, c9, c10, c11, c12].getD k c0, fun k => [iS0, iS1, iS2, iS3, iS4, iS5, iS6, iS7, iS8, iS9, iS10, iS11, iS12].getD k iS0, ?_⟩
    intro k q hq
    match k, hq with
    | 0, hq => cases hq; exact hKn0
    | 1, hq => cases hq; exact hKn1
    | 2, hq => cases hq; exact hKn2
    | 3, hq => cases hq; exact hKn3
    | 4, hq => cases hq; exact hKn4
    | 5, hq => cases hq; exact hKn5
    | 6, hq => cases hq; exact hKn6
    | 7, hq => cases hq; exact hKn7
    | 8, hq => cases hq; exact hKn8
    | 9, hq => cases hq; exact hKn9
    | 10, hq => cases hq; exact hKn10
    | 11, hq => cases hq; exact hKn11
    | 12, hq => cases hq; exact hKn12
    | k + 13, hq => simp [vwCl] at hq
  obtain ⟨y0, a0, b0⟩ := ty_prim (hts _ t143) (fun C h => by cases h)
  obtain ⟨y1, a1, b1⟩ := ty_prim (hts _ t144) (fun C h => by cases h)
  obtain ⟨y2, a2, b2⟩ := ty_prim (hts _ t430) (fun C h => by cases h)
  obtain ⟨y3, a3, b3⟩ := ty_prim (hts _ t145) (fun C h => by cases h)
  obtain ⟨y4, a4, b4⟩ := ty_refs (va_AO.use (A := #[Value.ref b]) hE.2.2.2.2.1)
  obtain ⟨y5, a5, b5⟩ := ty_refs (va_AO.use (A := #[Value.ref b]) hE.2.2.2.2.2.1)
  obtain ⟨cy, ey0, ey1, ey2, ey3, ey4, ey5⟩ : ∃ cy : Nat → ClassId, cy 0 = y0 ∧ cy 1 = y1 ∧ cy 2 = y2 ∧ cy 3 = y3 ∧ cy 4 = y4 ∧ cy 5 = y5 := ⟨fun k => [y0, y1, y2, y3, y4, y5].getD k y0, rfl, rfl, rfl, rfl, rfl, rfl⟩
  have hK : va_K (dC, dI) vwCl (TY cy) s := by
    refine ⟨hKc, fun k q hq => ?_⟩
    match k, hq with
    | 0, hq => cases hq; rw [ey0]; exact ⟨a0, b0⟩
    | 1, hq => cases hq; rw [ey1]; exact ⟨a1, b1⟩
    | 2, hq => cases hq; rw [ey2]; exact ⟨a2, b2⟩
    | 3, hq => cases hq; rw [ey3]; exact ⟨a3, b3⟩
    | 4, hq => cases hq; rw [ey4]; exact ⟨a4, b4⟩
    | 5, hq => cases hq; rw [ey5]; exact ⟨a5, b5⟩
    | k + 6, hq => simp [TY] at hq
  have hS : va_S (FA s) s.heap s.heap [] := va_S.rf
  have hP : va_P (dC, dI) vwCl [] s.heap := fun k q h => by simp at h
  have hD : va_D (FA s) [] := ⟨fun i j p q h => by simp at h, fun k q h => by simp at h⟩
  have hl := lv_entry ([.ref b]) (n := 7) (Nat.le_of_ble_eq_true rfl)
  rw [lg_entry_eq]
  generalize (lg_sl ([.ref b]) ++ List.replicate (7 - (lg_sl ([.ref b])).length) Slot.unset).toArray = ls at hl ⊢
  have hl : lv_has ls 7 [(0, .ref b)] := hl
  refine va_new (ci := 11) (fs := [.null, .null, .null, .null, .null, .null, .null, .null, .null, .null, .null, .null, .null, .int 0, .int 0, .int 0, .int 0]) (C := RX10) (T := TX10) (N := 17) hx hb hts inX10 tyX10 tkX10 hown (hts _ t29) (hts _ t30) (hts _ t1) hK hP hD hS hA rfl dfX10 (Nat.le_of_ble_eq_true rfl) (Nat.le_of_ble_eq_true rfl) dL_law_0 (fun q0 H hP hD hS => ?_)
  have hP : va_P (dC, dI) vwCl [(q0, .inr (11, [.null, .null, .null, .null, .null, .null, .null, .null, .null, .null, .null, .null, .null, .int 0, .int 0, .int 0, .int 0]))] H := hP
  have hD : va_D (FA s) [(q0, .inr (11, [.null, .null, .null, .null, .null, .null, .null, .null, .null, .null, .null, .null, .null, .int 0, .int 0, .int 0, .int 0]))] := hD
  refine W.widen (k := 1) (n := 17) (by decide) (by decide) ?_
  refine lv_dup hx hb dL_law_3 rfl ?_
  refine jn_v (wr := []) (rI (As := []) (rest := [.ref q0]) ⟨hx, hb, hml, hown, hts⟩ (n_LP l dC dI cy _ (FA s) kS vS q0 (fun q hq => va_free hD hS hA [0] rfl q hq)) (cw_L_15 hts rfl rfl ⟨Nat.le_of_ble_eq_true rfl, Nat.le_of_ble_eq_true rfl⟩) hP hD hK [0] rfl rfl EnvC.calling (EnvC.at hE hS (fun _ h => h) (fun _ h => h)) rfl hl.1 rfl (Nat.le_of_ble_eq_true rfl) dL_law_4 ⟨Nat.le_of_ble_eq_true rfl, Nat.le_of_ble_eq_true rfl⟩) hP hD hS hA [0] [] rfl rfl rfl (by decide) (fun u H locs hp hP hD hS => ?_)
  obtain ⟨ad, ai, al, aq⟩ := u
  have hX : OkX ad ai aq := ⟨hp.1, hp.2.1, hp.2.2.1, hp.2.2.2.1, hp.2.2.2.2.1⟩
  have hq0 : ad 0 = q0 := hp.2.2.2.2.2
  subst hq0
  have hP : va_P (dC, dI) vwCl (FX cy ad ai al aq) H := hP
  have hD : va_D (FA s) (FX cy ad ai al aq) := hD
  refine W.widen (k := 215) (n := 7548) (by decide) (by decide) ?_
  refine lv_astore_n (lv' := [(1, .ref (ad 0)), (0, .ref b)]) hx hb dL_law_7 rfl hl (by decide) rfl (fun ls hl => ?_)
  refine va_new (ci := 12) (fs := [.int 0, .null, .int 0, .int 0, .int 0, .int 0, .int 0, .int 0, .int 0, .int 0, .int 0, .int 0, .long 0, .int 0, .null, .null, .null, .null, .null, .null, .null, .null, .null, .null, .int 0, .int 0, .null, .null, .null, .int 0, .null, .null, .int 0, .int 0, .int 0, .null, .int 0, .int 0, .null, .null, .int 0, .int 0, .null, .int 0, .int 0, .int 0, .int 0]) (C := RX11) (T := TX11) (N := 47) hx hb hts inX11 tyX11 tkX11 hown (hts _ t1437) (hts _ t1431) (hts _ t18) hK hP hD hS hA rfl dfX11 (Nat.le_of_ble_eq_true rfl) (Nat.le_of_ble_eq_true rfl) dL_law_8 (fun q1 H hP hD hS => ?_)
  refine W.widen (k := 216) (n := 7595) (by decide) (by decide) ?_
  refine lv_dup hx hb dL_law_11 rfl ?_
  refine jn_v (wr := FX cy ad ai al aq) (rI (As := []) (rest := [.ref q1]) ⟨hx, hb, hml, hown, hts⟩ (n_MO l dC dI cy _ q1) (cw_L_18 hts rfl rfl ⟨Nat.le_of_ble_eq_true rfl, Nat.le_of_ble_eq_true rfl⟩) hP hD hK [114] rfl rfl bl0 e0 rfl hl.1 rfl (Nat.le_of_ble_eq_true rfl) dL_law_12 ⟨Nat.le_of_ble_eq_true rfl, Nat.le_of_ble_eq_true rfl⟩) hP hD hS hA [114] [0, 1, 2, 3, 4, 5, 6, 7, 8, 9, 10, 11, 12, 13, 14, 15, 16, 17, 18, 19, 20, 21, 22, 23, 24, 25, 26, 27, 28, 29, 30, 31, 32, 33, 34, 35, 36, 37, 38, 39, 40, 41, 42, 43, 44, 45, 46, 47, 48, 49, 50, 51, 52, 53, 54, 55, 56, 57, 58, 59, 60, 61, 62, 63, 64, 65, 66, 67, 68, 69, 70, 71, 72, 73, 74, 75, 76, 77, 78, 79, 80, 81, 82, 83, 84, 85, 86, 87, 88, 89, 90, 91, 92, 93, 94, 95, 96, 97, 98, 99, 100, 101, 102, 103, 104, 105, 106, 107, 108, 109, 110, 111, 112, 113] rfl rfl (by decide +kernel) (by decide +kernel) (fun u H locs hp hP hD hS => ?_)
  obtain ⟨am, mi, ml⟩ := u
  have hM : OkM mi := ⟨hp.1, hp.2.1⟩
  have hq1 : am 0 = q1 := hp.2.2
  subst hq1
  have hP : va_P (dC, dI) vwCl (FX cy ad ai al aq ++ FM cy am mi ml) H := hP
  have hD : va_D (FA s) (FX cy ad ai al aq ++ FM cy am mi ml) := hD
  refine W.widen (k := 236) (n := 23835) (by decide) (by decide) ?_
  refine lv_astore_n (lv' := [(2, .ref (am 0)), (1, .ref (ad 0)), (0, .ref b)]) hx hb dL_law_15 rfl hl (by decide) rfl (fun ls hl => ?_)
  refine lv_iconst (v := 1) hx hb dL_law_16 (by decide) ?_
  refine na_x (atype := .long) (a0 := (1, .inr (.inl (fun _ => 0)))) (ty := .long) hx hb (hts _ t144) rfl 1 rfl hK hP hD hS hA (fun _ => rfl) (by decide) (N' := 1) rfl (Nat.le_of_ble_eq_true rfl) (Nat.le_of_ble_eq_true rfl) (Nat.le_of_ble_eq_true rfl) dL_law_17 (fun qo H hP hD hS => ?_)
  have hP : va_P (dC, dI) vwCl (FX cy ad ai al aq ++ FM cy am mi ml) H := hP.sub [0, 1, 2, 3, 4, 5, 6, 7, 8, 9, 10, 11, 12, 13, 14, 15, 16, 17, 18, 19, 20, 21, 22, 23, 24, 25, 26, 27, 28, 29, 30, 31, 32, 33, 34, 35, 36, 37, 38, 39, 40, 41, 42, 43, 44, 45, 46, 47, 48, 49, 50, 51, 52, 53, 54, 55, 56, 57, 58, 59, 60, 61, 62, 63, 64, 65, 66, 67, 68, 69, 70, 71, 72, 73, 74, 75, 76, 77, 78, 79, 80, 81, 82, 83, 84, 85, 86, 87, 88, 89, 90, 91, 92, 93, 94, 95, 96, 97, 98, 99, 100, 101, 102, 103, 104, 105, 106, 107, 108, 109, 110, 111, 112, 113, 114, 115, 116, 117, 118, 119, 120, 121, 122, 123, 124, 125, 126, 127, 128, 129, 130, 131, 132, 133, 134] rfl
  have hD : va_D (FA s) (FX cy ad ai al aq ++ FM cy am mi ml) := hD.sub [0, 1, 2, 3, 4, 5, 6, 7, 8, 9, 10, 11, 12, 13, 14, 15, 16, 17, 18, 19, 20, 21, 22, 23, 24, 25, 26, 27, 28, 29, 30, 31, 32, 33, 34, 35, 36, 37, 38, 39, 40, 41, 42, 43, 44, 45, 46, 47, 48, 49, 50, 51, 52, 53, 54, 55, 56, 57, 58, 59, 60, 61, 62, 63, 64, 65, 66, 67, 68, 69, 70, 71, 72, 73, 74, 75, 76, 77, 78, 79, 80, 81, 82, 83, 84, 85, 86, 87, 88, 89, 90, 91, 92, 93, 94, 95, 96, 97, 98, 99, 100, 101, 102, 103, 104, 105, 106, 107, 108, 109, 110, 111, 112, 113, 114, 115, 116, 117, 118, 119, 120, 121, 122, 123, 124, 125, 126, 127, 128, 129, 130, 131, 132, 133, 134] (by decide +kernel) rfl
  refine W.widen (k := 237) (n := 23836) (by decide) (by decide) ?_
  refine lv_astore_n (lv' := [(3, .ref qo), (2, .ref (am 0)), (1, .ref (ad 0)), (0, .ref b)]) hx hb dL_law_19 rfl hl (by decide) rfl (fun ls hl => ?_)
  refine lv_iconst (v := 0) hx hb dL_law_20 (by decide) ?_
  refine lv_istore (lv' := [(4, .int 0), (3, .ref qo), (2, .ref (am 0)), (1, .ref (ad 0)), (0, .ref b)]) hx hb dL_law_21 hl (by decide) rfl (fun ls hl => ?_)
  exact law_head hl0 hL C0 dC dI cy ad ai al aq am mi ml qo hX hM hEX hK hP hD hS hl
set_option maxHeartbeats 4000000 in
theorem lw_walk (l : Launch) (hl0 : l.stackTraces = false) (b : Addr) (xs : List Int32) : MetFree l x (headSpec (Jvm.Cond.code x code maxLocals ret :: tables_1) room_1) (lw_P b xs) (fun _ _ _ _ _ => True) lw_Q := by
  refine MetFree.of_bodyS (code := code) (maxLocals := maxLocals) (ret := ret) (by decide) ?_ ?_
  · intro args s m h hn
    obtain ⟨meth, c, h1, h2, h3, h4, h5, h6, -, -⟩ := Cond.code_spec hn (atoms_spec (ws := Jvm.Cond.code x code maxLocals ret :: tables_1) h _ List.mem_cons_self)
    exact ⟨meth, c, h1, h2, h3, h4, h5, h6⟩
  · intro p e s m args below meth c s₁ B hml0 hP _
    obtain ⟨rfl, hx, hbd, hgv⟩ := hP
    obtain ⟨scr, harrAt, hlist, hof, hsmall⟩ := hx
    obtain ⟨hcb, hkn, -, -⟩ := State.arrayAt?_spec harrAt
    have hown : s.vm.findClass R_law = some m.cls := findClass_of_methodNamed B.named
    have hts0 : ∀ c ∈ (Jvm.Cond.code x code maxLocals ret :: tables_1), c.before #[Value.ref b] s = true := atoms_spec (ws := Jvm.Cond.code x code maxLocals ret :: tables_1) B.pre
    have hts : ∀ w ∈ lw_tbl, w.before #[Value.ref b] s = true := k2_hts_sels lw_privs (fun w hw => hts0 w (List.mem_cons_of_mem _ hw)) lw_privs_ok
    have hml : c.maxLocals = 7 := B.maxLocals_eq (hts0 _ List.mem_cons_self)
    have X₀ : Stand p l e room_1 s m #[Value.ref b] below meth c s₁ [] 0 0 := Stand.of_body B
    have hh0 : s₁.heap = s.heap := by rw [B.state]; rfl
    have hsz : scr.slots.size = xs.length := by rw [← Array.length_toList, hlist, List.length_map]
    have hval : ∀ j : Nat, j < xs.length → scr.slots[j]? = some (.int (xs.getD j 0)) := fun j hj => by
      rw [← Array.getElem?_toList, hlist]
      simp [hj]
    have hbl : b < s.heap.size := (Array.getElem?_eq_some_iff.mp hcb).1
    have hX : va_X b xs.length (fun j => xs.getD j 0) s s.heap := ⟨scr, hcb, hof, hkn, hsz, hval⟩
    have K : W p l e room_1 s m #[Value.ref b] below meth c s₁.heap [] 0 0 (lw_Z below #[Value.ref b] s) (entryFrame m ([Value.ref b] : List Value).toArray 7) := by
      rw [hh0]
      exact whole_start l hl0 hbd ⟨B.exec, B.bytes, B.returns, hml, hown, hts, hX, hbl, B.notSynchronized, hgv⟩
    obtain ⟨t, a1, o, b1, b2, b3⟩ := K s₁ rfl X₀
    exact ⟨t, o, a1, b1, b2, b3⟩
theorem lw_pre_spec {args : Array Value} {s : State} (h : (Jvm.Cond.and given_1 narrow_1).before args s = true) (hr : rest_1_c.before args s = true) : ∃ (b : Addr) (xs : List Int32), lw_P b xs args s := by
  have hs := flat_of_before _ h
  have hq := flat_of_before _ hr
  have hc : (Cond.count 1).before args s = true := hs _ (by decide +kernel)
  have harr : (Cond.arrayOf (.arg 0) .int).before args s = true := hs _ (by decide +kernel)
  have hle : (Cond.le (.length (.arg 0)) (.int 6)).before args s = true := hs _ (by decide +kernel)
  have hlen : (Cond.isInt (.length (.arg 0))).before args s = true := hq _ (by decide +kernel)
  have hall : (Cond.all (.arg 0) (.isInt (.elem (.arg 0) (.index 0)))).before args s = true := hq _ (by decide +kernel)
  obtain ⟨b, xs, hb, hx⟩ := State.ints_of_pre rfl harr hlen hall
  have hsm : xs.length < 2 ^ 31 := hx.choose_spec.2.2.2
  have hev : (Term.length (.arg 0)).eval args s none [] s = some (.int xs.length.toInt32) := hx.length_eval hb
  have hv := Cond.le_ints hev (show (Term.int 6).eval args s none [] s = some (.int 6) from rfl)
  have hd : xs.length.toInt32 ≤ 6 := by
    simpa [Cond.before, Cond.holds, hv] using hle
  have hN : xs.length ≤ 6 := (Int32.ofNat_le_ofNat hsm (by decide)).mp (show Int32.ofNat xs.length ≤ Int32.ofNat 6 from hd)
  exact ⟨b, xs, Cond.one_arg hc (show args[0]? = some (.ref b) from hb), hx, hN, h⟩
theorem lw_comes (l : Launch) (hl0 : l.stackTraces = false) : Comes l x (Jvm.Cond.code x code maxLocals ret :: tables_1) room_1 (fun tb e args s => Calls_1 tb e args s ∧ rest_1 tb e args s ∧ Pre_1 tb e args s)
    (fun _ _ args s o t => lw_Q args s o t) := by
  intro p e ha hc hk s m args below hf hfit hheap happ hpre
  obtain ⟨b, xs, hP⟩ := lw_pre_spec hpre.2.2 hpre.2.1
  obtain ⟨k, o, h1, h2, h3, hQ⟩ := lw_walk l hl0 b xs p e ha hc hk s m args below hf ((Spec.applies_iff_loose hf).mp happ).1 hP trivial
  exact ⟨k, o, h1, h2, h3, hQ⟩
theorem lw_frame {s t : State} {o : Outcome} {args : Array Value} (h : Framed s o t [] 600002 7302232) :
    Framed s o t (fieldLocs frame_1_writes args s ++ arrayLocs frame_1_arrays args s ++ staticLocs frame_1_statics s) 600002 7302232 := h
theorem lw_limb (L : Cond) (hL : ∀ (args : Array Value) (s t : State), L.after args s (.returned (some (.int 1))) t = true) :
    ArmFor flags0 classFile x code maxLocals ret World_1 tables_1 room_1 Calls_1 rest_1 Pre_1
      (fun tb e a s o t => postC L tb e a s o t ∧ Framed s o t (fieldLocs frame_1_writes a s ++ arrayLocs frame_1_arrays a s ++ staticLocs frame_1_statics s) 600002 7302232) := by
  intro l hfl _ _ p e ha hc hk s m args below hf hfit hheap happ hpre
  have hl0 : l.stackTraces = false := by unfold Launch.stackTraces; rw [hfl]; decide +kernel
  obtain ⟨k, o, h1, h2, h3, rfl, hF⟩ := lw_comes l hl0 p e ha hc hk s m args below hf hfit hheap happ hpre
  exact ⟨k, _, h1, h2, h3, hL args s _, lw_frame hF⟩
theorem i_vc : Claimed_1_1 ∧ Claimed_1_2 := ⟨lw_limb limb_1_1 (fun args s t => by simp [limb_1_1, Cond.after, Cond.holds, Cond.value]), lw_limb limb_1_2 (fun args s t => Cond.after_iff.mpr (by
  first | (rw [show limb_1_2 = Cond.eq .result (.int 1) from rfl, Cond.eq_ints (x := 1) (y := 1) rfl rfl]; simp; done) | (simp [limb_1_2, Cond.value, Term.eval]; done)))⟩

