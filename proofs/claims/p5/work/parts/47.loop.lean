def fi0 (ly : Nat → Int32) : Nat → Nat → Int32 := fun i j => bif (Nat.beq i 200 && Nat.beq j 10) then ly 8 else bif (Nat.beq i 189 && Nat.beq j 10) then ly 7 else bif (Nat.beq i 178 && Nat.beq j 10) then ly 6 else bif (Nat.beq i 167 && Nat.beq j 10) then ly 5 else bif (Nat.beq i 156 && Nat.beq j 10) then ly 4 else bif (Nat.beq i 145 && Nat.beq j 10) then ly 3 else bif (Nat.beq i 134 && Nat.beq j 10) then ly 2 else bif (Nat.beq i 123 && Nat.beq j 10) then ly 1 else bif (Nat.beq i 107 && Nat.beq j 10) then ly 12 else bif (Nat.beq i 101 && Nat.beq j 8) then 10 else bif (Nat.beq i 101 && Nat.beq j 7) then 60 else bif (Nat.beq i 84 && Nat.beq j 10) then ly 11 else bif (Nat.beq i 78 && Nat.beq j 8) then 10 else bif (Nat.beq i 78 && Nat.beq j 7) then 60 else bif (Nat.beq i 61 && Nat.beq j 10) then ly 10 else bif (Nat.beq i 55 && Nat.beq j 8) then 10 else bif (Nat.beq i 55 && Nat.beq j 7) then 60 else bif (Nat.beq i 38 && Nat.beq j 10) then ly 9 else bif (Nat.beq i 32 && Nat.beq j 8) then 10 else bif (Nat.beq i 32 && Nat.beq j 7) then 60 else bif (Nat.beq i 12 && Nat.beq j 10) then ly 0 else bif (Nat.beq i 0 && Nat.beq j 14) then (-1) else 0
def gi0 : Nat → Int32 := fun j => bif Nat.beq j 25 then (-1) else 0
theorem ring0 {q : Nat → Option Nat} {j a : Nat} {i : Int} {k : Int32} (hk : k.toInt = 0) (hi : i = j) (hj : j ≤ 8) (h : q j = some a) : ∀ z : Int32, 0 ≤ z.toInt ∧ z.toInt ≤ 8 → (z.toInt = k.toInt + i ∨ z.toInt = k.toInt + i - 9) → q (Int32.toNatClampNeg z) = some a := by
  intro z h1 h2
  rw [x_n (x := z) (n := j) ⟨by omega, by omega⟩]; exact h
set_option maxHeartbeats 8000000 in
set_option maxRecDepth 100000 in
/-- the loop's head: no call is left, or one, and then the head again -/
theorem law_step {p : Program} {l : Launch} {e : Env} {s : State} {m : MethodId} {below : List Frame} {meth : Method} {c : Code} {b L : Nat} {xs : Nat → Int32} (hl0 : l.stackTraces = false) (C0 : lw_At p s m meth c b L xs) (hL : L ≤ 3072) (dC : Nat → ClassId) (dI : Nat → Nat → Nat) (cy : Nat → ClassId) (qo : Nat) (hK : va_K (dC, dI) vwCl (TY cy) s) (hEX : EnvX (FA s) s) (kT vT : Nat → Nat) (hEB : EnvB (FA s) kT vT s) (C S : Nat) (hC : C + 100 ≤ 500000) (hC2 : S + 1000 ≤ 7000000) (i4 : Int32) (h0 : 0 ≤ i4.toInt) (ih : i4.toInt + 6 ≤ (L : Int) → ∀ z4 : Int32, z4.toInt = i4.toInt + 6 → LH p l e s m below meth c b qo dC dI cy (C + 20) (S + 1000) z4) : LH p l e s m below meth c b qo dC dI cy C S i4 := by
  intro ad ai al aq fi fl nb am mi ml gi gw fo hX hM hR H locs hP hD hS ls hl
  obtain ⟨hx, hb, hr, hml, hown, htsL, hXs, hbl, hlocks, hgv⟩ := id C0
  have hbA : ¬ FA s b := Nat.not_le.mpr hbl
  refine lv_iload hx hb dL_law_23 (lv_at hl 0 rfl) ?_
  refine lv_aload_n hx hb dL_law_25 rfl (lv_at hl 4 rfl) ?_
  refine va_slen hx hb hXs hbl hbA hS dL_law_26 ?_
  refine lv_bipush (v := 6) hx hb dL_law_27 (by decide) ?_
  refine lv_isub hx hb dL_law_29 ?_
  have k6 : (6 : Int32).toInt = 6 := by decide
  have kL : (Int32.ofNat L).toInt = (L : Int) := nI_toInt (n := L) (by omega)
  obtain ⟨z6, e6⟩ : ∃ z : Int32, z = Int32.ofNat L - 6 := ⟨_, rfl⟩
  refine as_i z6 e6.symm ?_
  have b6 : z6.toInt = (L : Int) - 6 := by rw [i_sub e6 (by omega) (by omega), kL, k6]
  refine lv_icmp_gt (tgt := 1434) hx hb dL_law_30 (by decide) (fun c9 => ?_) (fun c9 => ?_)
  · refine lv_iconst (v := 1) hx hb dL_law_1434 (by decide) ?_
    refine va_forget (fun q hq => hS.2.2 q hq) ?_
    refine W.widen (k := 601024) (n := 7293034) (by omega) (by omega) ?_
    exact lw_ret hx hb hr hlocks dL_law_1435
  · have c8 : ¬ (z6.toInt < i4.toInt) := fun h9 => c9 (i_lt.mpr h9)
    have ih := ih (by omega)
    refine lv_aload_n hx hb dL_law_33 rfl (lv_at hl 4 rfl) ?_
    refine lv_iload hx hb dL_law_34 (lv_at hl 0 rfl) ?_
    refine va_sld hx hb hXs hbl hbA hS (show vp_in i4 L from vp_in_iff.mpr ⟨by omega, by omega⟩) dL_law_36 ?_
    refine lv_bipush (v := 63) hx hb dL_law_37 (by decide) ?_
    refine lv_iand hx hb dL_law_39 ?_
    obtain ⟨j, hj, ej⟩ := pk_andE (xs (Int32.toNatClampNeg i4)) (m := 63) 6 (by decide)
    refine as_i (nI j) ej ?_
    rcases Nat.lt_or_ge 40 j with hj4 | hj4
    · refine lv_tableOut (tgt := 1428) hx hb dL_law_40 (Or.inr (by rw [nI_toInt (by omega)]; omega)) (by decide) ?_
      obtain ⟨z4, e4⟩ : ∃ z : Int32, z = i4 + 6 := ⟨_, rfl⟩
      have s4 := sc_ix hL ⟨h0, by omega⟩ e4 k6 (by decide) (by decide)
      refine lv_iinc (v := z4) (lv' := [(4, .int z4), (3, .ref qo), (2, .ref (am 0)), (1, .ref (ad 0)), (0, .ref b)]) hx hb dL_law_1428 hl (k := 0) rfl e4.symm (by decide) rfl (fun ls hl => ?_)
      refine lv_goto (tgt := 23) hx hb dL_law_1431 (by decide) ?_
      refine W.widen (k := C + 20) (n := S + 1000) (Nat.le_add_right _ _) (Nat.le_add_right _ _) ?_
      exact ih z4 s4.1 ad ai al aq fi fl nb am mi ml gi gw fo hX hM hR H locs hP hD hS ls hl
    have hcs : j = 0 ∨ j = 1 ∨ j = 2 ∨ j = 3 ∨ j = 4 ∨ j = 5 ∨ j = 6 ∨ j = 7 ∨ j = 8 ∨ j = 9 ∨ j = 10 ∨ j = 11 ∨ j = 12 ∨ j = 13 ∨ j = 14 ∨ j = 15 ∨ j = 16 ∨ j = 17 ∨ j = 18 ∨ j = 19 ∨ j = 20 ∨ j = 21 ∨ j = 22 ∨ j = 23 ∨ j = 24 ∨ j = 25 ∨ j = 26 ∨ j = 27 ∨ j = 28 ∨ j = 29 ∨ j = 30 ∨ j = 31 ∨ j = 32 ∨ j = 33 ∨ j = 34 ∨ j = 35 ∨ j = 36 ∨ j = 37 ∨ j = 38 ∨ j = 39 ∨ j = 40 := by omega
    clear ej hj hj4
    rcases hcs with rfl | rfl | rfl | rfl | rfl | rfl | rfl | rfl | rfl | rfl | rfl | rfl | rfl | rfl | rfl | rfl | rfl | rfl | rfl | rfl | rfl | rfl | rfl | rfl | rfl | rfl | rfl | rfl | rfl | rfl | rfl | rfl | rfl | rfl | rfl | rfl | rfl | rfl | rfl | rfl | rfl
    · refine lv_tableIn (off := 180) (tgt := 220) hx hb dL_law_40 (by decide) (by decide) (by decide) (by decide) ?_
      exact lc_0 hl0 C0 hL dC dI cy ad ai al aq fi fl nb am mi ml gi gw fo qo hK C S hC hC2 i4 ⟨h0, by omega⟩ ih hX hM hR hP hD hS hl
    · refine lv_tableIn (off := 253) (tgt := 293) hx hb dL_law_40 (by decide) (by decide) (by decide) (by decide) ?_
      exact lc_1 hl0 C0 hL dC dI cy ad ai al aq fi fl nb am mi ml gi gw fo qo hK C S hC hC2 i4 ⟨h0, by omega⟩ ih hX hM hR hP hD hS hl
    · refine lv_tableIn (off := 278) (tgt := 318) hx hb dL_law_40 (by decide) (by decide) (by decide) (by decide) ?_
      exact lc_2 hl0 C0 hL dC dI cy ad ai al aq fi fl nb am mi ml gi gw fo qo hK C S hC hC2 i4 ⟨h0, by omega⟩ ih hX hM hR hP hD hS hl
    · refine lv_tableIn (off := 291) (tgt := 331) hx hb dL_law_40 (by decide) (by decide) (by decide) (by decide) ?_
      exact lc_3 hl0 C0 hL dC dI cy ad ai al aq fi fl nb am mi ml gi gw fo qo hK C S hC hC2 i4 ⟨h0, by omega⟩ ih hX hM hR hP hD hS hl
    · refine lv_tableIn (off := 304) (tgt := 344) hx hb dL_law_40 (by decide) (by decide) (by decide) (by decide) ?_
      exact lc_4 hl0 C0 hL dC dI cy ad ai al aq fi fl nb am mi ml gi gw fo qo hK C S hC hC2 i4 ⟨h0, by omega⟩ ih hX hM hR hP hD hS hl hEX
    · refine lv_tableIn (off := 344) (tgt := 384) hx hb dL_law_40 (by decide) (by decide) (by decide) (by decide) ?_
      exact lc_5 hl0 C0 hL dC dI cy ad ai al aq fi fl nb am mi ml gi gw fo qo hK C S hC hC2 i4 ⟨h0, by omega⟩ ih hX hM hR hP hD hS hl
    · refine lv_tableIn (off := 381) (tgt := 421) hx hb dL_law_40 (by decide) (by decide) (by decide) (by decide) ?_
      exact lc_6 hl0 C0 hL dC dI cy ad ai al aq fi fl nb am mi ml gi gw fo qo hK C S hC hC2 i4 ⟨h0, by omega⟩ ih hX hM hR hP hD hS hl
    · refine lv_tableIn (off := 418) (tgt := 458) hx hb dL_law_40 (by decide) (by decide) (by decide) (by decide) ?_
      exact lc_7 hl0 C0 hL dC dI cy ad ai al aq fi fl nb am mi ml gi gw fo qo hK C S hC hC2 i4 ⟨h0, by omega⟩ ih hX hM hR hP hD hS hl
    · refine lv_tableIn (off := 455) (tgt := 495) hx hb dL_law_40 (by decide) (by decide) (by decide) (by decide) ?_
      exact lc_8 hl0 C0 hL dC dI cy ad ai al aq fi fl nb am mi ml gi gw fo qo hK C S hC hC2 i4 ⟨h0, by omega⟩ ih hX hM hR hP hD hS hl
    · refine lv_tableIn (off := 480) (tgt := 520) hx hb dL_law_40 (by decide) (by decide) (by decide) (by decide) ?_
      exact lc_9 hl0 C0 hL dC dI cy ad ai al aq fi fl nb am mi ml gi gw fo qo hK C S hC hC2 i4 ⟨h0, by omega⟩ ih hX hM hR hP hD hS hl
    · refine lv_tableIn (off := 517) (tgt := 557) hx hb dL_law_40 (by decide) (by decide) (by decide) (by decide) ?_
      exact lc_10 hl0 C0 hL dC dI cy ad ai al aq fi fl nb am mi ml gi gw fo qo hK C S hC hC2 i4 ⟨h0, by omega⟩ ih hX hM hR hP hD hS hl
    · refine lv_tableIn (off := 554) (tgt := 594) hx hb dL_law_40 (by decide) (by decide) (by decide) (by decide) ?_
      exact lc_11 hl0 C0 hL dC dI cy ad ai al aq fi fl nb am mi ml gi gw fo qo hK C S hC hC2 i4 ⟨h0, by omega⟩ ih hX hM hR hP hD hS hl
    · refine lv_tableIn (off := 579) (tgt := 619) hx hb dL_law_40 (by decide) (by decide) (by decide) (by decide) ?_
      exact lc_12 hl0 C0 hL dC dI cy ad ai al aq fi fl nb am mi ml gi gw fo qo hK C S hC hC2 i4 ⟨h0, by omega⟩ ih hX hM hR hP hD hS hl
    · refine lv_tableIn (off := 616) (tgt := 656) hx hb dL_law_40 (by decide) (by decide) (by decide) (by decide) ?_
      exact lc_13 hl0 C0 hL dC dI cy ad ai al aq fi fl nb am mi ml gi gw fo qo hK C S hC hC2 i4 ⟨h0, by omega⟩ ih hX hM hR hP hD hS hl
    · refine lv_tableIn (off := 665) (tgt := 705) hx hb dL_law_40 (by decide) (by decide) (by decide) (by decide) ?_
      exact lc_14 hl0 C0 hL dC dI cy ad ai al aq fi fl nb am mi ml gi gw fo qo hK C S hC hC2 i4 ⟨h0, by omega⟩ ih hX hM hR hP hD hS hl
    · refine lv_tableIn (off := 690) (tgt := 730) hx hb dL_law_40 (by decide) (by decide) (by decide) (by decide) ?_
      exact lc_15 hl0 C0 hL dC dI cy ad ai al aq fi fl nb am mi ml gi gw fo qo hK C S hC hC2 i4 ⟨h0, by omega⟩ ih hX hM hR hP hD hS hl
    · refine lv_tableIn (off := 739) (tgt := 779) hx hb dL_law_40 (by decide) (by decide) (by decide) (by decide) ?_
      exact lc_16 hl0 C0 hL dC dI cy ad ai al aq fi fl nb am mi ml gi gw fo qo hK C S hC hC2 i4 ⟨h0, by omega⟩ ih hX hM hR hP hD hS hl
    · refine lv_tableIn (off := 788) (tgt := 828) hx hb dL_law_40 (by decide) (by decide) (by decide) (by decide) ?_
      exact lc_17 hl0 C0 hL dC dI cy ad ai al aq fi fl nb am mi ml gi gw fo qo hK C S hC hC2 i4 ⟨h0, by omega⟩ ih hX hM hR hP hD hS hl
    · refine lv_tableIn (off := 813) (tgt := 853) hx hb dL_law_40 (by decide) (by decide) (by decide) (by decide) ?_
      exact lc_18 hl0 C0 hL dC dI cy ad ai al aq fi fl nb am mi ml gi gw fo qo hK C S hC hC2 i4 ⟨h0, by omega⟩ ih hX hM hR hP hD hS hl
    · refine lv_tableIn (off := 838) (tgt := 878) hx hb dL_law_40 (by decide) (by decide) (by decide) (by decide) ?_
      exact lc_19 hl0 C0 hL dC dI cy ad ai al aq fi fl nb am mi ml gi gw fo qo hK C S hC hC2 i4 ⟨h0, by omega⟩ ih hX hM hR hP hD hS hl
    · refine lv_tableIn (off := 851) (tgt := 891) hx hb dL_law_40 (by decide) (by decide) (by decide) (by decide) ?_
      exact lc_20 hl0 C0 hL dC dI cy ad ai al aq fi fl nb am mi ml gi gw fo qo hK C S hC hC2 i4 ⟨h0, by omega⟩ ih hX hM hR hP hD hS hl
    · refine lv_tableIn (off := 876) (tgt := 916) hx hb dL_law_40 (by decide) (by decide) (by decide) (by decide) ?_
      exact lc_21 hl0 C0 hL dC dI cy ad ai al aq fi fl nb am mi ml gi gw fo qo hK C S hC hC2 i4 ⟨h0, by omega⟩ ih hX hM hR hP hD hS hl
    · refine lv_tableIn (off := 913) (tgt := 953) hx hb dL_law_40 (by decide) (by decide) (by decide) (by decide) ?_
      exact lc_22 hl0 C0 hL dC dI cy ad ai al aq fi fl nb am mi ml gi gw fo qo hK C S hC hC2 i4 ⟨h0, by omega⟩ ih hX hM hR hP hD hS hl
    · refine lv_tableIn (off := 938) (tgt := 978) hx hb dL_law_40 (by decide) (by decide) (by decide) (by decide) ?_
      exact lc_23 hl0 C0 hL dC dI cy ad ai al aq fi fl nb am mi ml gi gw fo qo hK C S hC hC2 i4 ⟨h0, by omega⟩ ih hX hM hR hP hD hS hl
    · refine lv_tableIn (off := 951) (tgt := 991) hx hb dL_law_40 (by decide) (by decide) (by decide) (by decide) ?_
      exact lc_24 hl0 C0 hL dC dI cy ad ai al aq fi fl nb am mi ml gi gw fo qo hK C S hC hC2 i4 ⟨h0, by omega⟩ ih hX hM hR hP hD hS hl
    · refine lv_tableIn (off := 964) (tgt := 1004) hx hb dL_law_40 (by decide) (by decide) (by decide) (by decide) ?_
      exact lc_25 hl0 C0 hL dC dI cy ad ai al aq fi fl nb am mi ml gi gw fo qo hK C S hC hC2 i4 ⟨h0, by omega⟩ ih hX hM hR hP hD hS hl
    · refine lv_tableIn (off := 989) (tgt := 1029) hx hb dL_law_40 (by decide) (by decide) (by decide) (by decide) ?_
      exact lc_26 hl0 C0 hL dC dI cy ad ai al aq fi fl nb am mi ml gi gw fo qo hK C S hC hC2 i4 ⟨h0, by omega⟩ ih hX hM hR hP hD hS hl
    · refine lv_tableIn (off := 1026) (tgt := 1066) hx hb dL_law_40 (by decide) (by decide) (by decide) (by decide) ?_
      exact lc_27 hl0 C0 hL dC dI cy ad ai al aq fi fl nb am mi ml gi gw fo qo hK C S hC hC2 i4 ⟨h0, by omega⟩ ih hX hM hR hP hD hS hl
    · refine lv_tableIn (off := 1051) (tgt := 1091) hx hb dL_law_40 (by decide) (by decide) (by decide) (by decide) ?_
      exact lc_28 hl0 C0 hL dC dI cy ad ai al aq fi fl nb am mi ml gi gw fo qo hK C S hC hC2 i4 ⟨h0, by omega⟩ ih hX hM hR hP hD hS hl
    · refine lv_tableIn (off := 1076) (tgt := 1116) hx hb dL_law_40 (by decide) (by decide) (by decide) (by decide) ?_
      exact lc_29 hl0 C0 hL dC dI cy ad ai al aq fi fl nb am mi ml gi gw fo qo hK C S hC hC2 i4 ⟨h0, by omega⟩ ih hX hM hR hP hD hS hl
    · refine lv_tableIn (off := 1089) (tgt := 1129) hx hb dL_law_40 (by decide) (by decide) (by decide) (by decide) ?_
      exact lc_30 hl0 C0 hL dC dI cy ad ai al aq fi fl nb am mi ml gi gw fo qo hK C S hC hC2 i4 ⟨h0, by omega⟩ ih hX hM hR hP hD hS hl kT vT hEB
    · refine lv_tableIn (off := 1114) (tgt := 1154) hx hb dL_law_40 (by decide) (by decide) (by decide) (by decide) ?_
      exact lc_31 hl0 C0 hL dC dI cy ad ai al aq fi fl nb am mi ml gi gw fo qo hK C S hC hC2 i4 ⟨h0, by omega⟩ ih hX hM hR hP hD hS hl kT vT hEB
    · refine lv_tableIn (off := 1139) (tgt := 1179) hx hb dL_law_40 (by decide) (by decide) (by decide) (by decide) ?_
      exact lc_32 hl0 C0 hL dC dI cy ad ai al aq fi fl nb am mi ml gi gw fo qo hK C S hC hC2 i4 ⟨h0, by omega⟩ ih hX hM hR hP hD hS hl
    · refine lv_tableIn (off := 1176) (tgt := 1216) hx hb dL_law_40 (by decide) (by decide) (by decide) (by decide) ?_
      exact lc_33 hl0 C0 hL dC dI cy ad ai al aq fi fl nb am mi ml gi gw fo qo hK C S hC hC2 i4 ⟨h0, by omega⟩ ih hX hM hR hP hD hS hl
    · refine lv_tableIn (off := 1225) (tgt := 1265) hx hb dL_law_40 (by decide) (by decide) (by decide) (by decide) ?_
      exact lc_34 hl0 C0 hL dC dI cy ad ai al aq fi fl nb am mi ml gi gw fo qo hK C S hC hC2 i4 ⟨h0, by omega⟩ ih hX hM hR hP hD hS hl
    · refine lv_tableIn (off := 1250) (tgt := 1290) hx hb dL_law_40 (by decide) (by decide) (by decide) (by decide) ?_
      exact lc_35 hl0 C0 hL dC dI cy ad ai al aq fi fl nb am mi ml gi gw fo qo hK C S hC hC2 i4 ⟨h0, by omega⟩ ih hX hM hR hP hD hS hl
    · refine lv_tableIn (off := 1275) (tgt := 1315) hx hb dL_law_40 (by decide) (by decide) (by decide) (by decide) ?_
      exact lc_36 hl0 C0 hL dC dI cy ad ai al aq fi fl nb am mi ml gi gw fo qo hK C S hC hC2 i4 ⟨h0, by omega⟩ ih hX hM hR hP hD hS hl
    · refine lv_tableIn (off := 1288) (tgt := 1328) hx hb dL_law_40 (by decide) (by decide) (by decide) (by decide) ?_
      exact lc_37 hl0 C0 hL dC dI cy ad ai al aq fi fl nb am mi ml gi gw fo qo hK C S hC hC2 i4 ⟨h0, by omega⟩ ih hX hM hR hP hD hS hl
    · refine lv_tableIn (off := 1313) (tgt := 1353) hx hb dL_law_40 (by decide) (by decide) (by decide) (by decide) ?_
      exact lc_38 hl0 C0 hL dC dI cy ad ai al aq fi fl nb am mi ml gi gw fo qo hK C S hC hC2 i4 ⟨h0, by omega⟩ ih hX hM hR hP hD hS hl
    · refine lv_tableIn (off := 1338) (tgt := 1378) hx hb dL_law_40 (by decide) (by decide) (by decide) (by decide) ?_
      exact lc_39 hl0 C0 hL dC dI cy ad ai al aq fi fl nb am mi ml gi gw fo qo hK C S hC hC2 i4 ⟨h0, by omega⟩ ih hX hM hR hP hD hS hl
    · refine lv_tableIn (off := 1363) (tgt := 1403) hx hb dL_law_40 (by decide) (by decide) (by decide) (by decide) ?_
      exact lc_40 hl0 C0 hL dC dI cy ad ai al aq fi fl nb am mi ml gi gw fo qo hK C S hC hC2 i4 ⟨h0, by omega⟩ ih hX hM hR hP hD hS hl
theorem law_loop {p : Program} {l : Launch} {e : Env} {s : State} {m : MethodId} {below : List Frame} {meth : Method} {c : Code} {b L : Nat} {xs : Nat → Int32} (hl0 : l.stackTraces = false) (C0 : lw_At p s m meth c b L xs) (hL : L ≤ 3072) (dC : Nat → ClassId) (dI : Nat → Nat → Nat) (cy : Nat → ClassId) (qo : Nat) (hK : va_K (dC, dI) vwCl (TY cy) s) (hEX : EnvX (FA s) s) (kT vT : Nat → Nat) (hEB : EnvB (FA s) kT vT s) : ∀ (n C S : Nat) (i4 : Int32), 0 ≤ i4.toInt → (L : Int) - i4.toInt < 6 * (n : Int) + 6 → C + 20 * n + 100 ≤ 500000 → S + 1000 * n + 1000 ≤ 7000000 → LH p l e s m below meth c b qo dC dI cy C S i4 := by
  intro n
  induction n with
  | zero => intro C S i4 h0 h1 h2 h3; exact law_step hl0 C0 hL dC dI cy qo hK hEX kT vT hEB C S (by omega) (by omega) i4 h0 (fun h z hz => absurd h (by omega))
  | succ n ihn => intro C S i4 h0 h1 h2 h3; exact law_step hl0 C0 hL dC dI cy qo hK hEX kT vT hEB C S (by omega) (by omega) i4 h0 (fun h z hz => ihn (C + 20) (S + 1000) z (by omega) (by omega) (by omega) (by omega))
