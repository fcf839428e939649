abbrev cX8_isOfRun : ByteArray := prog_10_method_7_code
def yX8_isOfRun : MethodName := ⟨RX8, "isOfRun", "(I)Z"⟩
theorem t564 : Cond.code yX8_isOfRun cX8_isOfRun 1 (some .boolean) ∈ GW := gw_mem 678 (by decide +kernel) (by decide +kernel)
theorem dX8_isOfRun_0 : decode cX8_isOfRun 0 = .ok (.iload_n 0, 1) := by decide +kernel
theorem dX8_isOfRun_1 : decode cX8_isOfRun 1 = .ok (.bipush 97, 2) := by decide +kernel
theorem dX8_isOfRun_3 : decode cX8_isOfRun 3 = .ok (.if_icmp .lt 9, 3) := by decide +kernel
theorem dX8_isOfRun_12 : decode cX8_isOfRun 12 = .ok (.iload_n 0, 1) := by decide +kernel
theorem dX8_isOfRun_13 : decode cX8_isOfRun 13 = .ok (.bipush 48, 2) := by decide +kernel
theorem dX8_isOfRun_15 : decode cX8_isOfRun 15 = .ok (.if_icmp .lt 13, 3) := by decide +kernel
theorem dX8_isOfRun_28 : decode cX8_isOfRun 28 = .ok (.iconst 0, 1) := by decide +kernel
theorem dX8_isOfRun_29 : decode cX8_isOfRun 29 = .ok (.ireturn, 1) := by decide +kernel
theorem dX8_isOfRun_18 : decode cX8_isOfRun 18 = .ok (.iload_n 0, 1) := by decide +kernel
theorem dX8_isOfRun_19 : decode cX8_isOfRun 19 = .ok (.bipush 57, 2) := by decide +kernel
theorem dX8_isOfRun_21 : decode cX8_isOfRun 21 = .ok (.if_icmp .gt 7, 3) := by decide +kernel
theorem dX8_isOfRun_24 : decode cX8_isOfRun 24 = .ok (.iconst 1, 1) := by decide +kernel
theorem dX8_isOfRun_25 : decode cX8_isOfRun 25 = .ok (.goto 4, 3) := by decide +kernel
theorem dX8_isOfRun_6 : decode cX8_isOfRun 6 = .ok (.iload_n 0, 1) := by decide +kernel
theorem dX8_isOfRun_7 : decode cX8_isOfRun 7 = .ok (.bipush 122, 2) := by decide +kernel
theorem dX8_isOfRun_9 : decode cX8_isOfRun 9 = .ok (.if_icmp .le 15, 3) := by decide +kernel
set_option maxHeartbeats 4000000 in
set_option maxRecDepth 100000 in
theorem t_isOfRun (l : Launch) (dC : Nat → ClassId) (dI : Nat → Nat → Nat) (cy : Nat → ClassId) (vx : Int32)  : Met l yX8_isOfRun (wl yX8_isOfRun cX8_isOfRun 1 (some .boolean)) ({ frames := 0, cells := 0, slots := 0, locals := 0 }) (Pr (dC, dI) vwCl cy [] [.int vx]) (Ri (fun r => ((r = 0 ∧ (¬ ((97 ≤ (vx : Int32).toInt ∧ (vx : Int32).toInt ≤ 122) ∨ (48 ≤ (vx : Int32).toInt ∧ (vx : Int32).toInt ≤ 57)))) ∨ (r = 1 ∧ ((97 ≤ (vx : Int32).toInt ∧ (vx : Int32).toInt ≤ 122) ∨ (48 ≤ (vx : Int32).toInt ∧ (vx : Int32).toInt ≤ 57)))))) 0 0 (fun _ => False) := by
  refine mr RX8 rfl (by decide +kernel) (Nat.le_of_ble_eq_true rfl) ?_
  intro p e s m below meth c hx hb hr hlocks av9 hav hts hown hml hK hP hS Q9 hQ9 ls hl
  have hl : lv_has ls 1 [(0, .int vx)] := hl
  refine lv_iload_n hx hb dX8_isOfRun_0 rfl (lv_at hl 0 rfl) ?_
  refine lv_bipush (v := 97) hx hb dX8_isOfRun_1 (by decide) ?_
  have k_97 : (97 : Int32).toInt = 97 := by decide
  refine lv_icmp_lt (tgt := 12) hx hb dX8_isOfRun_3 (by decide) (fun c_1 => ?_) (fun c_1 => ?_)
  · skip
    have c_1 : vx.toInt < (97 : Int32).toInt := i_lt.mp c_1
    refine lv_iload_n hx hb dX8_isOfRun_12 rfl (lv_at hl 0 rfl) ?_
    refine lv_bipush (v := 48) hx hb dX8_isOfRun_13 (by decide) ?_
    have k_48 : (48 : Int32).toInt = 48 := by decide
    refine lv_icmp_lt (tgt := 28) hx hb dX8_isOfRun_15 (by decide) (fun c_2 => ?_) (fun c_2 => ?_)
    · skip
      have c_2 : vx.toInt < (48 : Int32).toInt := i_lt.mp c_2
      refine lv_iconst (v := 0) hx hb dX8_isOfRun_28 (by decide) ?_
      have k_0 : (0 : Int32).toInt = 0 := by decide
      rw [hQ9]
      exact rr_z hx hb hr hlocks (Or.inl rfl) (show ((0 : Int32) = 0 ∧ (¬ ((97 ≤ (vx : Int32).toInt ∧ (vx : Int32).toInt ≤ 122) ∨ (48 ≤ (vx : Int32).toInt ∧ (vx : Int32).toInt ≤ 57)))) ∨ ((0 : Int32) = 1 ∧ ((97 ≤ (vx : Int32).toInt ∧ (vx : Int32).toInt ≤ 122) ∨ (48 ≤ (vx : Int32).toInt ∧ (vx : Int32).toInt ≤ 57))) from Or.inl ⟨rfl, (show ¬ ((97 ≤ (vx : Int32).toInt ∧ (vx : Int32).toInt ≤ 122) ∨ (48 ≤ (vx : Int32).toInt ∧ (vx : Int32).toInt ≤ 57)) from (by omega))⟩) hS dX8_isOfRun_29
    · skip
      have c_2 : ¬ (vx.toInt < (48 : Int32).toInt) := fun h9 => c_2 (i_lt.mpr h9)
      refine lv_iload_n hx hb dX8_isOfRun_18 rfl (lv_at hl 0 rfl) ?_
      refine lv_bipush (v := 57) hx hb dX8_isOfRun_19 (by decide) ?_
      have k_57 : (57 : Int32).toInt = 57 := by decide
      refine lv_icmp_gt (tgt := 28) hx hb dX8_isOfRun_21 (by decide) (fun c_3 => ?_) (fun c_3 => ?_)
      · skip
        have c_3 : (57 : Int32).toInt < vx.toInt := i_lt.mp c_3
        refine lv_iconst (v := 0) hx hb dX8_isOfRun_28 (by decide) ?_
        have k_0 : (0 : Int32).toInt = 0 := by decide
        rw [hQ9]
        exact rr_z hx hb hr hlocks (Or.inl rfl) (show ((0 : Int32) = 0 ∧ (¬ ((97 ≤ (vx : Int32).toInt ∧ (vx : Int32).toInt ≤ 122) ∨ (48 ≤ (vx : Int32).toInt ∧ (vx : Int32).toInt ≤ 57)))) ∨ ((0 : Int32) = 1 ∧ ((97 ≤ (vx : Int32).toInt ∧ (vx : Int32).toInt ≤ 122) ∨ (48 ≤ (vx : Int32).toInt ∧ (vx : Int32).toInt ≤ 57))) from Or.inl ⟨rfl, (show ¬ ((97 ≤ (vx : Int32).toInt ∧ (vx : Int32).toInt ≤ 122) ∨ (48 ≤ (vx : Int32).toInt ∧ (vx : Int32).toInt ≤ 57)) from (by omega))⟩) hS dX8_isOfRun_29
      · skip
        have c_3 : ¬ ((57 : Int32).toInt < vx.toInt) := fun h9 => c_3 (i_lt.mpr h9)
        refine lv_iconst (v := 1) hx hb dX8_isOfRun_24 (by decide) ?_
        refine lv_goto (tgt := 29) hx hb dX8_isOfRun_25 (by decide) ?_
        have k_1 : (1 : Int32).toInt = 1 := by decide
        rw [hQ9]
        exact rr_z hx hb hr hlocks (Or.inr rfl) (show ((1 : Int32) = 0 ∧ (¬ ((97 ≤ (vx : Int32).toInt ∧ (vx : Int32).toInt ≤ 122) ∨ (48 ≤ (vx : Int32).toInt ∧ (vx : Int32).toInt ≤ 57)))) ∨ ((1 : Int32) = 1 ∧ ((97 ≤ (vx : Int32).toInt ∧ (vx : Int32).toInt ≤ 122) ∨ (48 ≤ (vx : Int32).toInt ∧ (vx : Int32).toInt ≤ 57))) from Or.inr (⟨rfl, (show ((97 ≤ (vx : Int32).toInt ∧ (vx : Int32).toInt ≤ 122) ∨ (48 ≤ (vx : Int32).toInt ∧ (vx : Int32).toInt ≤ 57)) from (by omega))⟩)) hS dX8_isOfRun_29
  · skip
    have c_1 : ¬ (vx.toInt < (97 : Int32).toInt) := fun h9 => c_1 (i_lt.mpr h9)
    refine lv_iload_n hx hb dX8_isOfRun_6 rfl (lv_at hl 0 rfl) ?_
    refine lv_bipush (v := 122) hx hb dX8_isOfRun_7 (by decide) ?_
    have k_122 : (122 : Int32).toInt = 122 := by decide
    refine lv_icmp_le (tgt := 24) hx hb dX8_isOfRun_9 (by decide) (fun c_4 => ?_) (fun c_4 => ?_)
    · skip
      have c_4 : vx.toInt ≤ (122 : Int32).toInt := i_le.mp c_4
      refine lv_iconst (v := 1) hx hb dX8_isOfRun_24 (by decide) ?_
      refine lv_goto (tgt := 29) hx hb dX8_isOfRun_25 (by decide) ?_
      have k_1 : (1 : Int32).toInt = 1 := by decide
      rw [hQ9]
      exact rr_z hx hb hr hlocks (Or.inr rfl) (show ((1 : Int32) = 0 ∧ (¬ ((97 ≤ (vx : Int32).toInt ∧ (vx : Int32).toInt ≤ 122) ∨ (48 ≤ (vx : Int32).toInt ∧ (vx : Int32).toInt ≤ 57)))) ∨ ((1 : Int32) = 1 ∧ ((97 ≤ (vx : Int32).toInt ∧ (vx : Int32).toInt ≤ 122) ∨ (48 ≤ (vx : Int32).toInt ∧ (vx : Int32).toInt ≤ 57))) from Or.inr (⟨rfl, (show ((97 ≤ (vx : Int32).toInt ∧ (vx : Int32).toInt ≤ 122) ∨ (48 ≤ (vx : Int32).toInt ∧ (vx : Int32).toInt ≤ 57)) from (by omega))⟩)) hS dX8_isOfRun_29
    · skip
      have c_4 : ¬ (vx.toInt ≤ (122 : Int32).toInt) := fun h9 => c_4 (i_le.mpr h9)
      refine lv_iload_n hx hb dX8_isOfRun_12 rfl (lv_at hl 0 rfl) ?_
      refine lv_bipush (v := 48) hx hb dX8_isOfRun_13 (by decide) ?_
      have k_48 : (48 : Int32).toInt = 48 := by decide
      refine lv_icmp_lt (tgt := 28) hx hb dX8_isOfRun_15 (by decide) (fun c9 => absurd (i_lt.mp c9) (by omega)) (fun _ => ?_)
      refine lv_iload_n hx hb dX8_isOfRun_18 rfl (lv_at hl 0 rfl) ?_
      refine lv_bipush (v := 57) hx hb dX8_isOfRun_19 (by decide) ?_
      have k_57 : (57 : Int32).toInt = 57 := by decide
      refine lv_icmp_gt (tgt := 28) hx hb dX8_isOfRun_21 (by decide) (fun _ => ?_) (fun c9 => (c9 (i_lt.mpr (by omega))).elim)
      refine lv_iconst (v := 0) hx hb dX8_isOfRun_28 (by decide) ?_
      have k_0 : (0 : Int32).toInt = 0 := by decide
      rw [hQ9]
      exact rr_z hx hb hr hlocks (Or.inl rfl) (show ((0 : Int32) = 0 ∧ (¬ ((97 ≤ (vx : Int32).toInt ∧ (vx : Int32).toInt ≤ 122) ∨ (48 ≤ (vx : Int32).toInt ∧ (vx : Int32).toInt ≤ 57)))) ∨ ((0 : Int32) = 1 ∧ ((97 ≤ (vx : Int32).toInt ∧ (vx : Int32).toInt ≤ 122) ∨ (48 ≤ (vx : Int32).toInt ∧ (vx : Int32).toInt ≤ 57))) from Or.inl ⟨rfl, (show ¬ ((97 ≤ (vx : Int32).toInt ∧ (vx : Int32).toInt ≤ 122) ∨ (48 ≤ (vx : Int32).toInt ∧ (vx : Int32).toInt ≤ 57)) from (by omega))⟩) hS dX8_isOfRun_29
abbrev cX8_isSign : ByteArray := prog_10_method_8_code
def yX8_isSign : MethodName := ⟨RX8, "isSign", "(I)Z"⟩
theorem t575 : Cond.code yX8_isSign cX8_isSign 1 (some .boolean) ∈ GW := gw_mem 689 (by decide +kernel) (by decide +kernel)
theorem dX8_isSign_0 : decode cX8_isSign 0 = .ok (.iload_n 0, 1) := by decide +kernel
theorem dX8_isSign_1 : decode cX8_isSign 1 = .ok (.bipush 59, 2) := by decide +kernel
theorem dX8_isSign_3 : decode cX8_isSign 3 = .ok (.if_icmp .eq 33, 3) := by decide +kernel
theorem dX8_isSign_36 : decode cX8_isSign 36 = .ok (.iconst 1, 1) := by decide +kernel
theorem dX8_isSign_37 : decode cX8_isSign 37 = .ok (.goto 4, 3) := by decide +kernel
theorem dX8_isSign_41 : decode cX8_isSign 41 = .ok (.ireturn, 1) := by decide +kernel
theorem dX8_isSign_6 : decode cX8_isSign 6 = .ok (.iload_n 0, 1) := by decide +kernel
theorem dX8_isSign_7 : decode cX8_isSign 7 = .ok (.bipush 60, 2) := by decide +kernel
theorem dX8_isSign_9 : decode cX8_isSign 9 = .ok (.if_icmp .eq 27, 3) := by decide +kernel
theorem dX8_isSign_12 : decode cX8_isSign 12 = .ok (.iload_n 0, 1) := by decide +kernel
theorem dX8_isSign_13 : decode cX8_isSign 13 = .ok (.bipush 61, 2) := by decide +kernel
theorem dX8_isSign_15 : decode cX8_isSign 15 = .ok (.if_icmp .eq 21, 3) := by decide +kernel
theorem dX8_isSign_18 : decode cX8_isSign 18 = .ok (.iload_n 0, 1) := by decide +kernel
theorem dX8_isSign_19 : decode cX8_isSign 19 = .ok (.bipush 62, 2) := by decide +kernel
theorem dX8_isSign_21 : decode cX8_isSign 21 = .ok (.if_icmp .eq 15, 3) := by decide +kernel
theorem dX8_isSign_24 : decode cX8_isSign 24 = .ok (.iload_n 0, 1) := by decide +kernel
theorem dX8_isSign_25 : decode cX8_isSign 25 = .ok (.bipush 40, 2) := by decide +kernel
theorem dX8_isSign_27 : decode cX8_isSign 27 = .ok (.if_icmp .eq 9, 3) := by decide +kernel
theorem dX8_isSign_30 : decode cX8_isSign 30 = .ok (.iload_n 0, 1) := by decide +kernel
theorem dX8_isSign_31 : decode cX8_isSign 31 = .ok (.bipush 41, 2) := by decide +kernel
theorem dX8_isSign_33 : decode cX8_isSign 33 = .ok (.if_icmp .ne 7, 3) := by decide +kernel
theorem dX8_isSign_40 : decode cX8_isSign 40 = .ok (.iconst 0, 1) := by decide +kernel
set_option maxHeartbeats 4000000 in
set_option maxRecDepth 100000 in
theorem t_isSign (l : Launch) (dC : Nat → ClassId) (dI : Nat → Nat → Nat) (cy : Nat → ClassId) (vx : Int32)  : Met l yX8_isSign (wl yX8_isSign cX8_isSign 1 (some .boolean)) ({ frames := 0, cells := 0, slots := 0, locals := 0 }) (Pr (dC, dI) vwCl cy [] [.int vx]) (Ri (fun r => ((r = 0 ∧ (¬ ((vx : Int32).toInt = 59 ∨ (vx : Int32).toInt = 60 ∨ (vx : Int32).toInt = 61 ∨ (vx : Int32).toInt = 62 ∨ (vx : Int32).toInt = 40 ∨ (vx : Int32).toInt = 41))) ∨ (r = 1 ∧ ((vx : Int32).toInt = 59 ∨ (vx : Int32).toInt = 60 ∨ (vx : Int32).toInt = 61 ∨ (vx : Int32).toInt = 62 ∨ (vx : Int32).toInt = 40 ∨ (vx : Int32).toInt = 41))))) 0 0 (fun _ => False) := by
  refine mr RX8 rfl (by decide +kernel) (Nat.le_of_ble_eq_true rfl) ?_
  intro p e s m below meth c hx hb hr hlocks av9 hav hts hown hml hK hP hS Q9 hQ9 ls hl
  have hl : lv_has ls 1 [(0, .int vx)] := hl
  refine lv_iload_n hx hb dX8_isSign_0 rfl (lv_at hl 0 rfl) ?_
  refine lv_bipush (v := 59) hx hb dX8_isSign_1 (by decide) ?_
  have k_59 : (59 : Int32).toInt = 59 := by decide
  refine lv_icmp_eq (tgt := 36) hx hb dX8_isSign_3 (by decide) (fun c_1 => ?_) (fun c_1 => ?_)
  · skip
    have c_1 : vx.toInt = (59 : Int32).toInt := i_eq.mp c_1
    refine lv_iconst (v := 1) hx hb dX8_isSign_36 (by decide) ?_
    refine lv_goto (tgt := 41) hx hb dX8_isSign_37 (by decide) ?_
    have k_1 : (1 : Int32).toInt = 1 := by decide
    rw [hQ9]
    exact rr_z hx hb hr hlocks (Or.inr rfl) (show ((1 : Int32) = 0 ∧ (¬ ((vx : Int32).toInt = 59 ∨ (vx : Int32).toInt = 60 ∨ (vx : Int32).toInt = 61 ∨ (vx : Int32).toInt = 62 ∨ (vx : Int32).toInt = 40 ∨ (vx : Int32).toInt = 41))) ∨ ((1 : Int32) = 1 ∧ ((vx : Int32).toInt = 59 ∨ (vx : Int32).toInt = 60 ∨ (vx : Int32).toInt = 61 ∨ (vx : Int32).toInt = 62 ∨ (vx : Int32).toInt = 40 ∨ (vx : Int32).toInt = 41)) from Or.inr (⟨rfl, (show ((vx : Int32).toInt = 59 ∨ (vx : Int32).toInt = 60 ∨ (vx : Int32).toInt = 61 ∨ (vx : Int32).toInt = 62 ∨ (vx : Int32).toInt = 40 ∨ (vx : Int32).toInt = 41) from (by omega))⟩)) hS dX8_isSign_41
  · skip
    have c_1 : ¬ (vx.toInt = (59 : Int32).toInt) := fun h9 => c_1 (i_eq.mpr h9)
    refine lv_iload_n hx hb dX8_isSign_6 rfl (lv_at hl 0 rfl) ?_
    refine lv_bipush (v := 60) hx hb dX8_isSign_7 (by decide) ?_
    have k_60 : (60 : Int32).toInt = 60 := by decide
    refine lv_icmp_eq (tgt := 36) hx hb dX8_isSign_9 (by decide) (fun c_2 => ?_) (fun c_2 => ?_)
    · skip
      have c_2 : vx.toInt = (60 : Int32).toInt := i_eq.mp c_2
      refine lv_iconst (v := 1) hx hb dX8_isSign_36 (by decide) ?_
      refine lv_goto (tgt := 41) hx hb dX8_isSign_37 (by decide) ?_
      have k_1 : (1 : Int32).toInt = 1 := by decide
      rw [hQ9]
      exact rr_z hx hb hr hlocks (Or.inr rfl) (show ((1 : Int32) = 0 ∧ (¬ ((vx : Int32).toInt = 59 ∨ (vx : Int32).toInt = 60 ∨ (vx : Int32).toInt = 61 ∨ (vx : Int32).toInt = 62 ∨ (vx : Int32).toInt = 40 ∨ (vx : Int32).toInt = 41))) ∨ ((1 : Int32) = 1 ∧ ((vx : Int32).toInt = 59 ∨ (vx : Int32).toInt = 60 ∨ (vx : Int32).toInt = 61 ∨ (vx : Int32).toInt = 62 ∨ (vx : Int32).toInt = 40 ∨ (vx : Int32).toInt = 41)) from Or.inr (⟨rfl, (show ((vx : Int32).toInt = 59 ∨ (vx : Int32).toInt = 60 ∨ (vx : Int32).toInt = 61 ∨ (vx : Int32).toInt = 62 ∨ (vx : Int32).toInt = 40 ∨ (vx : Int32).toInt = 41) from (by omega))⟩)) hS dX8_isSign_41
    · skip
      have c_2 : ¬ (vx.toInt = (60 : Int32).toInt) := fun h9 => c_2 (i_eq.mpr h9)
      refine lv_iload_n hx hb dX8_isSign_12 rfl (lv_at hl 0 rfl) ?_
      refine lv_bipush (v := 61) hx hb dX8_isSign_13 (by decide) ?_
      have k_61 : (61 : Int32).toInt = 61 := by decide
      refine lv_icmp_eq (tgt := 36) hx hb dX8_isSign_15 (by decide) (fun c_3 => ?_) (fun c_3 => ?_)
      · skip
        have c_3 : vx.toInt = (61 : Int32).toInt := i_eq.mp c_3
        refine lv_iconst (v := 1) hx hb dX8_isSign_36 (by decide) ?_
        refine lv_goto (tgt := 41) hx hb dX8_isSign_37 (by decide) ?_
        have k_1 : (1 : Int32).toInt = 1 := by decide
        rw [hQ9]
        exact rr_z hx hb hr hlocks (Or.inr rfl) (show ((1 : Int32) = 0 ∧ (¬ ((vx : Int32).toInt = 59 ∨ (vx : Int32).toInt = 60 ∨ (vx : Int32).toInt = 61 ∨ (vx : Int32).toInt = 62 ∨ (vx : Int32).toInt = 40 ∨ (vx : Int32).toInt = 41))) ∨ ((1 : Int32) = 1 ∧ ((vx : Int32).toInt = 59 ∨ (vx : Int32).toInt = 60 ∨ (vx : Int32).toInt = 61 ∨ (vx : Int32).toInt = 62 ∨ (vx : Int32).toInt = 40 ∨ (vx : Int32).toInt = 41)) from Or.inr (⟨rfl, (show ((vx : Int32).toInt = 59 ∨ (vx : Int32).toInt = 60 ∨ (vx : Int32).toInt = 61 ∨ (vx : Int32).toInt = 62 ∨ (vx : Int32).toInt = 40 ∨ (vx : Int32).toInt = 41) from (by omega))⟩)) hS dX8_isSign_41
      · skip
        have c_3 : ¬ (vx.toInt = (61 : Int32).toInt) := fun h9 => c_3 (i_eq.mpr h9)
        refine lv_iload_n hx hb dX8_isSign_18 rfl (lv_at hl 0 rfl) ?_
        refine lv_bipush (v := 62) hx hb dX8_isSign_19 (by decide) ?_
        have k_62 : (62 : Int32).toInt = 62 := by decide
        refine lv_icmp_eq (tgt := 36) hx hb dX8_isSign_21 (by decide) (fun c_4 => ?_) (fun c_4 => ?_)
        · skip
          have c_4 : vx.toInt = (62 : Int32).toInt := i_eq.mp c_4
          refine lv_iconst (v := 1) hx hb dX8_isSign_36 (by decide) ?_
          refine lv_goto (tgt := 41) hx hb dX8_isSign_37 (by decide) ?_
          have k_1 : (1 : Int32).toInt = 1 := by decide
          rw [hQ9]
          exact rr_z hx hb hr hlocks (Or.inr rfl) (show ((1 : Int32) = 0 ∧ (¬ ((vx : Int32).toInt = 59 ∨ (vx : Int32).toInt = 60 ∨ (vx : Int32).toInt = 61 ∨ (vx : Int32).toInt = 62 ∨ (vx : Int32).toInt = 40 ∨ (vx : Int32).toInt = 41))) ∨ ((1 : Int32) = 1 ∧ ((vx : Int32).toInt = 59 ∨ (vx : Int32).toInt = 60 ∨ (vx : Int32).toInt = 61 ∨ (vx : Int32).toInt = 62 ∨ (vx : Int32).toInt = 40 ∨ (vx : Int32).toInt = 41)) from Or.inr (⟨rfl, (show ((vx : Int32).toInt = 59 ∨ (vx : Int32).toInt = 60 ∨ (vx : Int32).toInt = 61 ∨ (vx : Int32).toInt = 62 ∨ (vx : Int32).toInt = 40 ∨ (vx : Int32).toInt = 41) from (by omega))⟩)) hS dX8_isSign_41
        · skip
          have c_4 : ¬ (vx.toInt = (62 : Int32).toInt) := fun h9 => c_4 (i_eq.mpr h9)
          refine lv_iload_n hx hb dX8_isSign_24 rfl (lv_at hl 0 rfl) ?_
          refine lv_bipush (v := 40) hx hb dX8_isSign_25 (by decide) ?_
          have k_40 : (40 : Int32).toInt = 40 := by decide
          refine lv_icmp_eq (tgt := 36) hx hb dX8_isSign_27 (by decide) (fun c_5 => ?_) (fun c_5 => ?_)
          · skip
            have c_5 : vx.toInt = (40 : Int32).toInt := i_eq.mp c_5
            refine lv_iconst (v := 1) hx hb dX8_isSign_36 (by decide) ?_
            refine lv_goto (tgt := 41) hx hb dX8_isSign_37 (by decide) ?_
            have k_1 : (1 : Int32).toInt = 1 := by decide
            rw [hQ9]
            exact rr_z hx hb hr hlocks (Or.inr rfl) (show ((1 : Int32) = 0 ∧ (¬ ((vx : Int32).toInt = 59 ∨ (vx : Int32).toInt = 60 ∨ (vx : Int32).toInt = 61 ∨ (vx : Int32).toInt = 62 ∨ (vx : Int32).toInt = 40 ∨ (vx : Int32).toInt = 41))) ∨ ((1 : Int32) = 1 ∧ ((vx : Int32).toInt = 59 ∨ (vx : Int32).toInt = 60 ∨ (vx : Int32).toInt = 61 ∨ (vx : Int32).toInt = 62 ∨ (vx : Int32).toInt = 40 ∨ (vx : Int32).toInt = 41)) from Or.inr (⟨rfl, (show ((vx : Int32).toInt = 59 ∨ (vx : Int32).toInt = 60 ∨ (vx : Int32).toInt = 61 ∨ (vx : Int32).toInt = 62 ∨ (vx : Int32).toInt = 40 ∨ (vx : Int32).toInt = 41) from (by omega))⟩)) hS dX8_isSign_41
          · skip
            have c_5 : ¬ (vx.toInt = (40 : Int32).toInt) := fun h9 => c_5 (i_eq.mpr h9)
            refine lv_iload_n hx hb dX8_isSign_30 rfl (lv_at hl 0 rfl) ?_
            refine lv_bipush (v := 41) hx hb dX8_isSign_31 (by decide) ?_
            have k_41 : (41 : Int32).toInt = 41 := by decide
            refine lv_icmp_ne (tgt := 40) hx hb dX8_isSign_33 (by decide) (fun c_6 => ?_) (fun c_6 => ?_)
            · skip
              have c_6 : ¬ (vx.toInt = (41 : Int32).toInt) := fun h9 => c_6 (i_eq.mpr h9)
              refine lv_iconst (v := 0) hx hb dX8_isSign_40 (by decide) ?_
              have k_0 : (0 : Int32).toInt = 0 := by decide
              rw [hQ9]
              exact rr_z hx hb hr hlocks (Or.inl rfl) (show ((0 : Int32) = 0 ∧ (¬ ((vx : Int32).toInt = 59 ∨ (vx : Int32).toInt = 60 ∨ (vx : Int32).toInt = 61 ∨ (vx : Int32).toInt = 62 ∨ (vx : Int32).toInt = 40 ∨ (vx : Int32).toInt = 41))) ∨ ((0 : Int32) = 1 ∧ ((vx : Int32).toInt = 59 ∨ (vx : Int32).toInt = 60 ∨ (vx : Int32).toInt = 61 ∨ (vx : Int32).toInt = 62 ∨ (vx : Int32).toInt = 40 ∨ (vx : Int32).toInt = 41)) from Or.inl ⟨rfl, (show ¬ ((vx : Int32).toInt = 59 ∨ (vx : Int32).toInt = 60 ∨ (vx : Int32).toInt = 61 ∨ (vx : Int32).toInt = 62 ∨ (vx : Int32).toInt = 40 ∨ (vx : Int32).toInt = 41) from (by omega))⟩) hS dX8_isSign_41
            · skip
              have c_6 : vx.toInt = (41 : Int32).toInt := i_eq.mp c_6
              refine lv_iconst (v := 1) hx hb dX8_isSign_36 (by decide) ?_
              refine lv_goto (tgt := 41) hx hb dX8_isSign_37 (by decide) ?_
              have k_1 : (1 : Int32).toInt = 1 := by decide
              rw [hQ9]
              exact rr_z hx hb hr hlocks (Or.inr rfl) (show ((1 : Int32) = 0 ∧ (¬ ((vx : Int32).toInt = 59 ∨ (vx : Int32).toInt = 60 ∨ (vx : Int32).toInt = 61 ∨ (vx : Int32).toInt = 62 ∨ (vx : Int32).toInt = 40 ∨ (vx : Int32).toInt = 41))) ∨ ((1 : Int32) = 1 ∧ ((vx : Int32).toInt = 59 ∨ (vx : Int32).toInt = 60 ∨ (vx : Int32).toInt = 61 ∨ (vx : Int32).toInt = 62 ∨ (vx : Int32).toInt = 40 ∨ (vx : Int32).toInt = 41)) from Or.inr (⟨rfl, (show ((vx : Int32).toInt = 59 ∨ (vx : Int32).toInt = 60 ∨ (vx : Int32).toInt = 61 ∨ (vx : Int32).toInt = 62 ∨ (vx : Int32).toInt = 40 ∨ (vx : Int32).toInt = 41) from (by omega))⟩)) hS dX8_isSign_41
abbrev cX8_findWord : ByteArray := prog_10_method_6_code
def yX8_findWord : MethodName := ⟨RX8, "findWord", "()I"⟩
theorem t572 : Cond.code yX8_findWord cX8_findWord 2 (some .int) ∈ GW := gw_mem 686 (by decide +kernel) (by decide +kernel)
theorem dX8_findWord_0 : decode cX8_findWord 0 = .ok (.iconst 0, 1) := by decide +kernel
theorem dX8_findWord_1 : decode cX8_findWord 1 = .ok (.istore_n 1, 1) := by decide +kernel
theorem dX8_findWord_2 : decode cX8_findWord 2 = .ok (.iload_n 1, 1) := by decide +kernel
theorem dX8_findWord_3 : decode cX8_findWord 3 = .ok (.bipush 29, 2) := by decide +kernel
theorem dX8_findWord_5 : decode cX8_findWord 5 = .ok (.if_icmp .ge 25, 3) := by decide +kernel
theorem dX8_findWord_30 : decode cX8_findWord 30 = .ok (.iconst (-1), 1) := by decide +kernel
theorem dX8_findWord_31 : decode cX8_findWord 31 = .ok (.ireturn, 1) := by decide +kernel
theorem dX8_findWord_8 : decode cX8_findWord 8 = .ok (.aload_n 0, 1) := by decide +kernel
theorem dX8_findWord_9 : decode cX8_findWord 9 = .ok (.getfield 15, 3) := by decide +kernel
theorem t95 : Cond.fieldLink RX8 15 "LikenessPound$Tape" "wordCodes" "[J" ∈ GW := gw_mem 209 (by decide +kernel) (by decide +kernel)
theorem gf_X8_15 {p : Program} {l : Launch} {e : Env} {R : Room} {s : State} {m : MethodId} {args : Array Value} {below : List Frame} {meth : Method} {c : Code} {H : Heap} {locs : List Loc} {cells slots : Nat} {Q : State → Prop} {cc : ByteArray} {pc : Nat} {ls : Array Slot} {rest : List Value} {D : va_G} {a : Nat} {tys : List (ClassId × FieldType)} {ws : va_W} (hx : p.tables.exec = Jvm.exec) (hb : c.code = cc) (hts : ∀ w ∈ GW, w.before args s = true) (hown : s.vm.findClass RX8 = some m.cls) (hK : va_K D vwCl tys s) (hP : va_P D vwCl ws H) (q0 : Nat) {fs : List Value} (he : ws[q0]? = some (a, .inr (9, fs))) {v : Value} (hv : fs[1]? = some v) (hdg : decode cc pc = .ok (.getfield 15, 3)) (kk : W p l e R s m args below meth c H locs cells slots Q (F0 m (pc + 3) ls (v :: rest))) : W p l e R s m args below meth c H locs cells slots Q (F0 m pc ls (.ref a :: rest)) := va_get (C := RX8) (T := TX8) (N := 12) (ci := 9) hx hb hts inX8 hown hK hP q0 he rfl 1 (by decide) (hts _ t95) (fun _ h => h) hv hdg kk
theorem dX8_findWord_12 : decode cX8_findWord 12 = .ok (.iload_n 1, 1) := by decide +kernel
theorem dX8_findWord_13 : decode cX8_findWord 13 = .ok (.laload, 1) := by decide +kernel
theorem dX8_findWord_14 : decode cX8_findWord 14 = .ok (.aload_n 0, 1) := by decide +kernel
theorem dX8_findWord_15 : decode cX8_findWord 15 = .ok (.getfield 73, 3) := by decide +kernel
theorem t110 : Cond.fieldLink RX8 73 "LikenessPound$Tape" "code" "J" ∈ GW := gw_mem 224 (by decide +kernel) (by decide +kernel)
theorem gf_X8_73 {p : Program} {l : Launch} {e : Env} {R : Room} {s : State} {m : MethodId} {args : Array Value} {below : List Frame} {meth : Method} {c : Code} {H : Heap} {locs : List Loc} {cells slots : Nat} {Q : State → Prop} {cc : ByteArray} {pc : Nat} {ls : Array Slot} {rest : List Value} {D : va_G} {a : Nat} {tys : List (ClassId × FieldType)} {ws : va_W} (hx : p.tables.exec = Jvm.exec) (hb : c.code = cc) (hts : ∀ w ∈ GW, w.before args s = true) (hown : s.vm.findClass RX8 = some m.cls) (hK : va_K D vwCl tys s) (hP : va_P D vwCl ws H) (q0 : Nat) {fs : List Value} (he : ws[q0]? = some (a, .inr (9, fs))) {v : Value} (hv : fs[8]? = some v) (hdg : decode cc pc = .ok (.getfield 73, 3)) (kk : W p l e R s m args below meth c H locs cells slots Q (F0 m (pc + 3) ls (v :: rest))) : W p l e R s m args below meth c H locs cells slots Q (F0 m pc ls (.ref a :: rest)) := va_get (C := RX8) (T := TX8) (N := 12) (ci := 9) hx hb hts inX8 hown hK hP q0 he rfl 8 (by decide) (hts _ t110) (fun _ h => h) hv hdg kk
theorem dX8_findWord_18 : decode cX8_findWord 18 = .ok (.lcmp, 1) := by decide +kernel
theorem dX8_findWord_19 : decode cX8_findWord 19 = .ok (.ifCond .ne 5, 3) := by decide +kernel
theorem dX8_findWord_24 : decode cX8_findWord 24 = .ok (.iinc 1 1, 3) := by decide +kernel
theorem dX8_findWord_27 : decode cX8_findWord 27 = .ok (.goto (-25), 3) := by decide +kernel
theorem dX8_findWord_22 : decode cX8_findWord 22 = .ok (.iload_n 1, 1) := by decide +kernel
theorem dX8_findWord_23 : decode cX8_findWord 23 = .ok (.ireturn, 1) := by decide +kernel
set_option maxHeartbeats 4000000 in
set_option maxRecDepth 100000 in
theorem t_findWord (l : Launch) (dC : Nat → ClassId) (dI : Nat → Nat → Nat) (cy : Nat → ClassId) (vt : Nat) (vt1 : Nat) (vt2 : Nat) (vtL : Int32) (vtli : Int32) (vta : Int32) (vtk : Int32) (vtst : Int32) (vtw : Int32) (vtc : Int64) (vtn : Int32) (vtfk : Int32) (vtfp : Int32) (vtco : Nat → Int64)  : Met l yX8_findWord (wl yX8_findWord cX8_findWord 2 (some .int)) ({ frames := 0, cells := 0, slots := 0, locals := 0 }) (Pr (dC, dI) vwCl cy [(vt, .inr (9, [.ref vt1, .ref vt2, .int vtL, .int vtli, .int vta, .int vtk, .int vtst, .int vtw, .long vtc, .int vtn, .int vtfk, .int vtfp])), (vt2, .inl (cy 1, 29, .inr (.inl vtco)))] [.ref vt]) (Ri (fun r => (-1 ≤ (r : Int32).toInt ∧ (r : Int32).toInt ≤ 28) ∧ ((r : Int32).toInt = tksr vtco 0 vtc 29 0))) 0 0 (fun _ => False) := by
  refine mr RX8 rfl (by decide +kernel) (Nat.le_of_ble_eq_true rfl) ?_
  intro p e s m below meth c hx hb hr hlocks av9 hav hts hown hml hK hP hS Q9 hQ9 ls hl
  have hl : lv_has ls 2 [(0, .ref vt)] := hl
  refine lv_iconst (v := 0) hx hb dX8_findWord_0 (by decide) ?_
  refine lv_istore_n (lv' := [(1, .int 0), (0, .ref vt)]) hx hb dX8_findWord_1 rfl hl (by decide) rfl (fun ls hl => ?_)
  have loop1 : ∀ (n1 : Nat) (x_2 : Int32), (0 ≤ x_2.toInt ∧ x_2.toInt ≤ 29) → (tksr vtco 0 vtc 29 x_2.toInt = tksr vtco 0 vtc 29 0) → 29 - x_2.toInt < (n1 : Int) → ∀ (H : Heap) (locs : List Loc), va_P (dC, dI) vwCl [(vt, .inr (9, [.ref vt1, .ref vt2, .int vtL, .int vtli, .int vta, .int vtk, .int vtst, .int vtw, .long vtc, .int vtn, .int vtfk, .int vtfp])), (vt2, .inl (cy 1, 29, .inr (.inl vtco)))] H → va_S (fun _ => False) s.heap H locs → ∀ ls : Array Slot, lv_has ls 2 [(1, .int x_2), (0, .ref vt)] → W p l e ({ frames := 0, cells := 0, slots := 0, locals := 0 }) s m av9 below meth c H locs 0 0 Q9 (F0 m 2 ls []) := by
    intro n1
    induction n1 with
    | zero =>
      intro x_2 bx_2 v1_0 hn1 H locs hP hS ls hl
      exfalso; omega
    | succ n1 ih1 =>
      intro x_2 bx_2 v1_0 hn1 H locs hP hS ls hl
      refine lv_iload_n hx hb dX8_findWord_2 rfl (lv_at hl 0 rfl) ?_
      refine lv_bipush (v := 29) hx hb dX8_findWord_3 (by decide) ?_
      have k_29 : (29 : Int32).toInt = 29 := by decide
      refine lv_icmp_ge (tgt := 30) hx hb dX8_findWord_5 (by decide) (fun c_3 => ?_) (fun c_3 => ?_)
      · skip
        have c_3 : (29 : Int32).toInt ≤ x_2.toInt := i_le.mp c_3
        refine lv_iconst (v := (-1)) hx hb dX8_findWord_30 (by decide) ?_
        have k_m1 : ((-1) : Int32).toInt = (-1) := by decide
        rw [hQ9]
        exact rr_i hx hb hr hlocks ⟨(show -1 ≤ (((-1) : Int32) : Int32).toInt ∧ (((-1) : Int32) : Int32).toInt ≤ 28 from ⟨by omega, by omega⟩), (show (((-1) : Int32) : Int32).toInt = tksr vtco 0 vtc 29 0 from (k_m1.trans (Eq.trans (tksr_end (f := vtco) (o := 0) (c := vtc) (show 29 ≤ x_2.toInt by omega)).symm v1_0)))⟩ hS dX8_findWord_31
      · skip
        have c_3 : ¬ ((29 : Int32).toInt ≤ x_2.toInt) := fun h9 => c_3 (i_le.mpr h9)
        refine lv_aload_n hx hb dX8_findWord_8 rfl (lv_at hl 1 rfl) ?_
        refine gf_X8_15 hx hb hts hown hK hP 0 rfl rfl dX8_findWord_9 ?_
        refine lv_iload_n hx hb dX8_findWord_12 rfl (lv_at hl 0 rfl) ?_
        have hin_4 : vp_in x_2 29 := vp_in_iff.mpr ⟨by omega, by omega⟩
        refine va_lald hx hb hK hP 1 1 rfl rfl hin_4 dX8_findWord_13 ?_
        refine lv_topl (fun y_5 ey_5 => ?_)
        refine lv_aload_n hx hb dX8_findWord_14 rfl (lv_at hl 1 rfl) ?_
        refine gf_X8_73 hx hb hts hown hK hP 0 rfl rfl dX8_findWord_15 ?_
        refine W.lcmp hx hb dX8_findWord_18 ?_
        refine lv_topi (fun z_6 ez_6 => ?_)
        have k_0 : (0 : Int32).toInt = 0 := by decide
        refine lv_if_ne (tgt := 24) hx hb dX8_findWord_19 (by decide) (fun c_7 => ?_) (fun c_7 => ?_)
        · skip
          have c_7 : ¬ (z_6.toInt = (0 : Int32).toInt) := fun h9 => c_7 (i_eq.mpr h9)
          obtain ⟨z_8, ez_8⟩ : ∃ z : Int32, z = x_2 + 1 := ⟨_, rfl⟩
          have k_1 : (1 : Int32).toInt = 1 := by decide
          have bz_8 : z_8.toInt = x_2.toInt + (1 : Int32).toInt := i_add ez_8 (by omega) (by omega)
          refine lv_iinc (v := z_8) (lv' := [(1, .int z_8), (0, .ref vt)]) hx hb dX8_findWord_24 hl (k := 0) rfl ez_8.symm (by decide) rfl (fun ls hl => ?_)
          refine lv_goto (tgt := 2) hx hb dX8_findWord_27 (by decide) ?_
          exact ih1 z_8 ⟨by omega, by omega⟩ (Eq.trans (congrArg (fun q9 => tksr vtco 0 vtc 29 q9) (show z_8.toInt = x_2.toInt + 1 by omega)) (Eq.trans (tksr_go (f := vtco) (o := 0) (c := vtc) (show x_2.toInt < 29 by omega) (fun h9 => c_7 ((l_cmp0 ez_6).mpr ((tkrow ey_5).symm.trans h9)))) v1_0)) (by omega) _ _ (hP.sub [0, 1] rfl) hS ls (lv_sub hl [0, 1] rfl)
        · skip
          have c_7 : z_6.toInt = (0 : Int32).toInt := i_eq.mp c_7
          refine lv_iload_n hx hb dX8_findWord_22 rfl (lv_at hl 0 rfl) ?_
          rw [hQ9]
          exact rr_i hx hb hr hlocks ⟨(show -1 ≤ (x_2 : Int32).toInt ∧ (x_2 : Int32).toInt ≤ 28 from ⟨by omega, by omega⟩), (show (x_2 : Int32).toInt = tksr vtco 0 vtc 29 0 from (Eq.trans (tksr_hit (f := vtco) (o := 0) (c := vtc) (show x_2.toInt < 29 by omega) ((tkrow ey_5).trans ((l_cmp0 ez_6).mp c_7))).symm v1_0))⟩ hS dX8_findWord_23
  have k_0 : (0 : Int32).toInt = 0 := by decide
  exact loop1 ((29 - (0 : Int32).toInt).toNat + 1) 0 ⟨by omega, by omega⟩ (by rw [k_0]) (by omega) _ _ hP hS ls (lv_sub hl [0, 1] rfl)
abbrev cX1_findMan : ByteArray := prog_3_method_8_code
def yX1_findMan : MethodName := ⟨RX1, "findMan", "(J)I"⟩
theorem t598 : Cond.code yX1_findMan cX1_findMan 4 (some .int) ∈ GW := gw_mem 712 (by decide +kernel) (by decide +kernel)
theorem dX1_findMan_0 : decode cX1_findMan 0 = .ok (.iconst 0, 1) := by decide +kernel
theorem dX1_findMan_1 : decode cX1_findMan 1 = .ok (.istore_n 3, 1) := by decide +kernel
theorem dX1_findMan_2 : decode cX1_findMan 2 = .ok (.iload_n 3, 1) := by decide +kernel
theorem dX1_findMan_3 : decode cX1_findMan 3 = .ok (.aload_n 0, 1) := by decide +kernel
theorem dX1_findMan_4 : decode cX1_findMan 4 = .ok (.getfield 36, 3) := by decide +kernel
theorem t390 : Cond.fieldLink RX1 36 "LikenessPound$Colony" "men" "I" ∈ GW := gw_mem 504 (by decide +kernel) (by decide +kernel)
theorem gf_X1_36 {p : Program} {l : Launch} {e : Env} {R : Room} {s : State} {m : MethodId} {args : Array Value} {below : List Frame} {meth : Method} {c : Code} {H : Heap} {locs : List Loc} {cells slots : Nat} {Q : State → Prop} {cc : ByteArray} {pc : Nat} {ls : Array Slot} {rest : List Value} {D : va_G} {a : Nat} {tys : List (ClassId × FieldType)} {ws : va_W} (hx : p.tables.exec = Jvm.exec) (hb : c.code = cc) (hts : ∀ w ∈ GW, w.before args s = true) (hown : s.vm.findClass RX1 = some m.cls) (hK : va_K D vwCl tys s) (hP : va_P D vwCl ws H) (q0 : Nat) {fs : List Value} (he : ws[q0]? = some (a, .inr (2, fs))) {v : Value} (hv : fs[5]? = some v) (hdg : decode cc pc = .ok (.getfield 36, 3)) (kk : W p l e R s m args below meth c H locs cells slots Q (F0 m (pc + 3) ls (v :: rest))) : W p l e R s m args below meth c H locs cells slots Q (F0 m pc ls (.ref a :: rest)) := va_get (C := RX1) (T := TX1) (N := 9) (ci := 2) hx hb hts inX1 hown hK hP q0 he rfl 5 (by decide) (hts _ t390) (fun _ h => h) hv hdg kk
theorem dX1_findMan_7 : decode cX1_findMan 7 = .ok (.if_icmp .ge 22, 3) := by decide +kernel
theorem dX1_findMan_29 : decode cX1_findMan 29 = .ok (.iconst (-1), 1) := by decide +kernel
theorem dX1_findMan_30 : decode cX1_findMan 30 = .ok (.ireturn, 1) := by decide +kernel
theorem dX1_findMan_10 : decode cX1_findMan 10 = .ok (.aload_n 0, 1) := by decide +kernel
theorem dX1_findMan_11 : decode cX1_findMan 11 = .ok (.getfield 9, 3) := by decide +kernel
theorem t373 : Cond.fieldLink RX1 9 "LikenessPound$Colony" "manCode" "[J" ∈ GW := gw_mem 487 (by decide +kernel) (by decide +kernel)
theorem gf_X1_9 {p : Program} {l : Launch} {e : Env} {R : Room} {s : State} {m : MethodId} {args : Array Value} {below : List Frame} {meth : Method} {c : Code} {H : Heap} {locs : List Loc} {cells slots : Nat} {Q : State → Prop} {cc : ByteArray} {pc : Nat} {ls : Array Slot} {rest : List Value} {D : va_G} {a : Nat} {tys : List (ClassId × FieldType)} {ws : va_W} (hx : p.tables.exec = Jvm.exec) (hb : c.code = cc) (hts : ∀ w ∈ GW, w.before args s = true) (hown : s.vm.findClass RX1 = some m.cls) (hK : va_K D vwCl tys s) (hP : va_P D vwCl ws H) (q0 : Nat) {fs : List Value} (he : ws[q0]? = some (a, .inr (2, fs))) {v : Value} (hv : fs[0]? = some v) (hdg : decode cc pc = .ok (.getfield 9, 3)) (kk : W p l e R s m args below meth c H locs cells slots Q (F0 m (pc + 3) ls (v :: rest))) : W p l e R s m args below meth c H locs cells slots Q (F0 m pc ls (.ref a :: rest)) := va_get (C := RX1) (T := TX1) (N := 9) (ci := 2) hx hb hts inX1 hown hK hP q0 he rfl 0 (by decide) (hts _ t373) (fun _ h => h) hv hdg kk
theorem dX1_findMan_14 : decode cX1_findMan 14 = .ok (.iload_n 3, 1) := by decide +kernel
theorem dX1_findMan_15 : decode cX1_findMan 15 = .ok (.laload, 1) := by decide +kernel
theorem dX1_findMan_16 : decode cX1_findMan 16 = .ok (.lload_n 1, 1) := by decide +kernel
theorem dX1_findMan_17 : decode cX1_findMan 17 = .ok (.lcmp, 1) := by decide +kernel
theorem dX1_findMan_18 : decode cX1_findMan 18 = .ok (.ifCond .ne 5, 3) := by decide +kernel
theorem dX1_findMan_23 : decode cX1_findMan 23 = .ok (.iinc 3 1, 3) := by decide +kernel
theorem dX1_findMan_26 : decode cX1_findMan 26 = .ok (.goto (-24), 3) := by decide +kernel
theorem dX1_findMan_21 : decode cX1_findMan 21 = .ok (.iload_n 3, 1) := by decide +kernel
theorem dX1_findMan_22 : decode cX1_findMan 22 = .ok (.ireturn, 1) := by decide +kernel
set_option maxHeartbeats 4000000 in
set_option maxRecDepth 100000 in
theorem t_findMan (l : Launch) (dC : Nat → ClassId) (dI : Nat → Nat → Nat) (cy : Nat → ClassId) (vc : Nat) (vc1 : Nat) (vc2 : Nat) (vc3 : Nat) (vc4 : Nat) (vc5 : Nat) (vcm : Int32) (vcd : Int32) (vcr : Int32) (vcw : Int32) (vcf1 : Nat → Int64) (vco : Int64) (r_vcm : 0 ≤ (vcm : Int32).toInt ∧ (vcm : Int32).toInt ≤ 7) (r_vcd : 0 ≤ (vcd : Int32).toInt ∧ (vcd : Int32).toInt ≤ 10) : Met l yX1_findMan (wl yX1_findMan cX1_findMan 4 (some .int)) ({ frames := 0, cells := 0, slots := 0, locals := 0 }) (Pr (dC, dI) vwCl cy [(vc, .inr (2, [.ref vc1, .ref vc2, .ref vc3, .ref vc4, .ref vc5, .int vcm, .int vcd, .int vcr, .int vcw])), (vc1, .inl (cy 1, 7, .inr (.inl vcf1)))] [.ref vc, .long vco]) (Ri (fun r => (-1 ≤ (r : Int32).toInt ∧ (r : Int32).toInt ≤ 6) ∧ ((r : Int32).toInt = tksr vcf1 0 vco (vcm : Int32).toInt 0))) 0 0 (fun _ => False) := by
  refine mr RX1 rfl (by decide +kernel) (Nat.le_of_ble_eq_true rfl) ?_
  intro p e s m below meth c hx hb hr hlocks av9 hav hts hown hml hK hP hS Q9 hQ9 ls hl
  have hl : lv_has ls 4 [(0, .ref vc), (1, .long vco)] := hl
  refine lv_iconst (v := 0) hx hb dX1_findMan_0 (by decide) ?_
  refine lv_istore_n (lv' := [(3, .int 0), (0, .ref vc), (1, .long vco)]) hx hb dX1_findMan_1 rfl hl (by decide) rfl (fun ls hl => ?_)
  have loop1 : ∀ (n1 : Nat) (x_2 : Int32), (0 ≤ x_2.toInt ∧ x_2.toInt ≤ 29) → (tksr vcf1 0 vco vcm.toInt x_2.toInt = tksr vcf1 0 vco vcm.toInt 0) → 29 - x_2.toInt < (n1 : Int) → ∀ (H : Heap) (locs : List Loc), va_P (dC, dI) vwCl [(vc, .inr (2, [.ref vc1, .ref vc2, .ref vc3, .ref vc4, .ref vc5, .int vcm, .int vcd, .int vcr, .int vcw])), (vc1, .inl (cy 1, 7, .inr (.inl vcf1)))] H → va_S (fun _ => False) s.heap H locs → ∀ ls : Array Slot, lv_has ls 4 [(3, .int x_2), (0, .ref vc), (1, .long vco)] → W p l e ({ frames := 0, cells := 0, slots := 0, locals := 0 }) s m av9 below meth c H locs 0 0 Q9 (F0 m 2 ls []) := by
    intro n1
    induction n1 with
    | zero =>
      intro x_2 bx_2 v1_0 hn1 H locs hP hS ls hl
      exfalso; omega
    | succ n1 ih1 =>
      intro x_2 bx_2 v1_0 hn1 H locs hP hS ls hl
      refine lv_iload_n hx hb dX1_findMan_2 rfl (lv_at hl 0 rfl) ?_
      refine lv_aload_n hx hb dX1_findMan_3 rfl (lv_at hl 1 rfl) ?_
      refine gf_X1_36 hx hb hts hown hK hP 0 rfl rfl dX1_findMan_4 ?_
      refine lv_icmp_ge (tgt := 29) hx hb dX1_findMan_7 (by decide) (fun c_3 => ?_) (fun c_3 => ?_)
      · skip
        have c_3 : vcm.toInt ≤ x_2.toInt := i_le.mp c_3
        refine lv_iconst (v := (-1)) hx hb dX1_findMan_29 (by decide) ?_
        have k_m1 : ((-1) : Int32).toInt = (-1) := by decide
        rw [hQ9]
        exact rr_i hx hb hr hlocks ⟨(show -1 ≤ (((-1) : Int32) : Int32).toInt ∧ (((-1) : Int32) : Int32).toInt ≤ 6 from ⟨by omega, by omega⟩), (show (((-1) : Int32) : Int32).toInt = tksr vcf1 0 vco (vcm : Int32).toInt 0 from (k_m1.trans (Eq.trans (tksr_end (f := vcf1) (o := 0) (c := vco) (show vcm.toInt ≤ x_2.toInt by omega)).symm v1_0)))⟩ hS dX1_findMan_30
      · skip
        have c_3 : ¬ (vcm.toInt ≤ x_2.toInt) := fun h9 => c_3 (i_le.mpr h9)
        refine lv_aload_n hx hb dX1_findMan_10 rfl (lv_at hl 1 rfl) ?_
        refine gf_X1_9 hx hb hts hown hK hP 0 rfl rfl dX1_findMan_11 ?_
        refine lv_iload_n hx hb dX1_findMan_14 rfl (lv_at hl 0 rfl) ?_
        have hin_4 : vp_in x_2 7 := vp_in_iff.mpr ⟨by omega, by omega⟩
        refine va_lald hx hb hK hP 1 1 rfl rfl hin_4 dX1_findMan_15 ?_
        refine lv_topl (fun y_5 ey_5 => ?_)
        refine lv_lload_n hx hb dX1_findMan_16 rfl (lv_at hl 2 rfl) ?_
        refine W.lcmp hx hb dX1_findMan_17 ?_
        refine lv_topi (fun z_6 ez_6 => ?_)
        have k_0 : (0 : Int32).toInt = 0 := by decide
        refine lv_if_ne (tgt := 23) hx hb dX1_findMan_18 (by decide) (fun c_7 => ?_) (fun c_7 => ?_)
        · skip
          have c_7 : ¬ (z_6.toInt = (0 : Int32).toInt) := fun h9 => c_7 (i_eq.mpr h9)
          obtain ⟨z_8, ez_8⟩ : ∃ z : Int32, z = x_2 + 1 := ⟨_, rfl⟩
          have k_1 : (1 : Int32).toInt = 1 := by decide
          have bz_8 : z_8.toInt = x_2.toInt + (1 : Int32).toInt := i_add ez_8 (by omega) (by omega)
          refine lv_iinc (v := z_8) (lv' := [(3, .int z_8), (0, .ref vc), (1, .long vco)]) hx hb dX1_findMan_23 hl (k := 0) rfl ez_8.symm (by decide) rfl (fun ls hl => ?_)
          refine lv_goto (tgt := 2) hx hb dX1_findMan_26 (by decide) ?_
          exact ih1 z_8 ⟨by omega, by omega⟩ (Eq.trans (congrArg (fun q9 => tksr vcf1 0 vco vcm.toInt q9) (show z_8.toInt = x_2.toInt + 1 by omega)) (Eq.trans (tksr_go (f := vcf1) (o := 0) (c := vco) (show x_2.toInt < vcm.toInt by omega) (fun h9 => c_7 ((l_cmp0 ez_6).mpr ((tkrow ey_5).symm.trans h9)))) v1_0)) (by omega) _ _ (hP.sub [0, 1] rfl) hS ls (lv_sub hl [0, 1, 2] rfl)
        · skip
          have c_7 : z_6.toInt = (0 : Int32).toInt := i_eq.mp c_7
          refine lv_iload_n hx hb dX1_findMan_21 rfl (lv_at hl 0 rfl) ?_
          rw [hQ9]
          exact rr_i hx hb hr hlocks ⟨(show -1 ≤ (x_2 : Int32).toInt ∧ (x_2 : Int32).toInt ≤ 6 from ⟨by omega, by omega⟩), (show (x_2 : Int32).toInt = tksr vcf1 0 vco (vcm : Int32).toInt 0 from (Eq.trans (tksr_hit (f := vcf1) (o := 0) (c := vco) (show x_2.toInt < vcm.toInt by omega) ((tkrow ey_5).trans ((l_cmp0 ez_6).mp c_7))).symm v1_0))⟩ hS dX1_findMan_22
  have k_0 : (0 : Int32).toInt = 0 := by decide
  exact loop1 ((29 - (0 : Int32).toInt).toNat + 1) 0 ⟨by omega, by omega⟩ (by rw [k_0]) (by omega) _ _ hP hS ls (lv_sub hl [0, 1, 2] rfl)
abbrev cX1_findDeed : ByteArray := prog_3_method_9_code
def yX1_findDeed : MethodName := ⟨RX1, "findDeed", "(J)I"⟩
theorem t602 : Cond.code yX1_findDeed cX1_findDeed 4 (some .int) ∈ GW := gw_mem 716 (by decide +kernel) (by decide +kernel)
theorem dX1_findDeed_0 : decode cX1_findDeed 0 = .ok (.iconst 0, 1) := by decide +kernel
theorem dX1_findDeed_1 : decode cX1_findDeed 1 = .ok (.istore_n 3, 1) := by decide +kernel
theorem dX1_findDeed_2 : decode cX1_findDeed 2 = .ok (.iload_n 3, 1) := by decide +kernel
theorem dX1_findDeed_3 : decode cX1_findDeed 3 = .ok (.aload_n 0, 1) := by decide +kernel
theorem dX1_findDeed_4 : decode cX1_findDeed 4 = .ok (.getfield 39, 3) := by decide +kernel
theorem t396 : Cond.fieldLink RX1 39 "LikenessPound$Colony" "deeds" "I" ∈ GW := gw_mem 510 (by decide +kernel) (by decide +kernel)
theorem gf_X1_39 {p : Program} {l : Launch} {e : Env} {R : Room} {s : State} {m : MethodId} {args : Array Value} {below : List Frame} {meth : Method} {c : Code} {H : Heap} {locs : List Loc} {cells slots : Nat} {Q : State → Prop} {cc : ByteArray} {pc : Nat} {ls : Array Slot} {rest : List Value} {D : va_G} {a : Nat} {tys : List (ClassId × FieldType)} {ws : va_W} (hx : p.tables.exec = Jvm.exec) (hb : c.code = cc) (hts : ∀ w ∈ GW, w.before args s = true) (hown : s.vm.findClass RX1 = some m.cls) (hK : va_K D vwCl tys s) (hP : va_P D vwCl ws H) (q0 : Nat) {fs : List Value} (he : ws[q0]? = some (a, .inr (2, fs))) {v : Value} (hv : fs[6]? = some v) (hdg : decode cc pc = .ok (.getfield 39, 3)) (kk : W p l e R s m args below meth c H locs cells slots Q (F0 m (pc + 3) ls (v :: rest))) : W p l e R s m args below meth c H locs cells slots Q (F0 m pc ls (.ref a :: rest)) := va_get (C := RX1) (T := TX1) (N := 9) (ci := 2) hx hb hts inX1 hown hK hP q0 he rfl 6 (by decide) (hts _ t396) (fun _ h => h) hv hdg kk
theorem dX1_findDeed_7 : decode cX1_findDeed 7 = .ok (.if_icmp .ge 22, 3) := by decide +kernel
theorem dX1_findDeed_29 : decode cX1_findDeed 29 = .ok (.iconst (-1), 1) := by decide +kernel
theorem dX1_findDeed_30 : decode cX1_findDeed 30 = .ok (.ireturn, 1) := by decide +kernel
theorem dX1_findDeed_10 : decode cX1_findDeed 10 = .ok (.aload_n 0, 1) := by decide +kernel
theorem dX1_findDeed_11 : decode cX1_findDeed 11 = .ok (.getfield 15, 3) := by decide +kernel
theorem t375 : Cond.fieldLink RX1 15 "LikenessPound$Colony" "deedCode" "[J" ∈ GW := gw_mem 489 (by decide +kernel) (by decide +kernel)
theorem gf_X1_15 {p : Program} {l : Launch} {e : Env} {R : Room} {s : State} {m : MethodId} {args : Array Value} {below : List Frame} {meth : Method} {c : Code} {H : Heap} {locs : List Loc} {cells slots : Nat} {Q : State → Prop} {cc : ByteArray} {pc : Nat} {ls : Array Slot} {rest : List Value} {D : va_G} {a : Nat} {tys : List (ClassId × FieldType)} {ws : va_W} (hx : p.tables.exec = Jvm.exec) (hb : c.code = cc) (hts : ∀ w ∈ GW, w.before args s = true) (hown : s.vm.findClass RX1 = some m.cls) (hK : va_K D vwCl tys s) (hP : va_P D vwCl ws H) (q0 : Nat) {fs : List Value} (he : ws[q0]? = some (a, .inr (2, fs))) {v : Value} (hv : fs[1]? = some v) (hdg : decode cc pc = .ok (.getfield 15, 3)) (kk : W p l e R s m args below meth c H locs cells slots Q (F0 m (pc + 3) ls (v :: rest))) : W p l e R s m args below meth c H locs cells slots Q (F0 m pc ls (.ref a :: rest)) := va_get (C := RX1) (T := TX1) (N := 9) (ci := 2) hx hb hts inX1 hown hK hP q0 he rfl 1 (by decide) (hts _ t375) (fun _ h => h) hv hdg kk
theorem dX1_findDeed_14 : decode cX1_findDeed 14 = .ok (.iload_n 3, 1) := by decide +kernel
theorem dX1_findDeed_15 : decode cX1_findDeed 15 = .ok (.laload, 1) := by decide +kernel
theorem dX1_findDeed_16 : decode cX1_findDeed 16 = .ok (.lload_n 1, 1) := by decide +kernel
theorem dX1_findDeed_17 : decode cX1_findDeed 17 = .ok (.lcmp, 1) := by decide +kernel
theorem dX1_findDeed_18 : decode cX1_findDeed 18 = .ok (.ifCond .ne 5, 3) := by decide +kernel
theorem dX1_findDeed_23 : decode cX1_findDeed 23 = .ok (.iinc 3 1, 3) := by decide +kernel
theorem dX1_findDeed_26 : decode cX1_findDeed 26 = .ok (.goto (-24), 3) := by decide +kernel
theorem dX1_findDeed_21 : decode cX1_findDeed 21 = .ok (.iload_n 3, 1) := by decide +kernel
theorem dX1_findDeed_22 : decode cX1_findDeed 22 = .ok (.ireturn, 1) := by decide +kernel
set_option maxHeartbeats 4000000 in
set_option maxRecDepth 100000 in
theorem t_findDeed (l : Launch) (dC : Nat → ClassId) (dI : Nat → Nat → Nat) (cy : Nat → ClassId) (vc : Nat) (vc1 : Nat) (vc2 : Nat) (vc3 : Nat) (vc4 : Nat) (vc5 : Nat) (vcm : Int32) (vcd : Int32) (vcr : Int32) (vcw : Int32) (vcf2 : Nat → Int64) (vco : Int64) (r_vcm : 0 ≤ (vcm : Int32).toInt ∧ (vcm : Int32).toInt ≤ 7) (r_vcd : 0 ≤ (vcd : Int32).toInt ∧ (vcd : Int32).toInt ≤ 10) : Met l yX1_findDeed (wl yX1_findDeed cX1_findDeed 4 (some .int)) ({ frames := 0, cells := 0, slots := 0, locals := 0 }) (Pr (dC, dI) vwCl cy [(vc, .inr (2, [.ref vc1, .ref vc2, .ref vc3, .ref vc4, .ref vc5, .int vcm, .int vcd, .int vcr, .int vcw])), (vc2, .inl (cy 1, 10, .inr (.inl vcf2)))] [.ref vc, .long vco]) (Ri (fun r => (-1 ≤ (r : Int32).toInt ∧ (r : Int32).toInt ≤ 9) ∧ ((r : Int32).toInt = tksr vcf2 0 vco (vcd : Int32).toInt 0))) 0 0 (fun _ => False) := by
  refine mr RX1 rfl (by decide +kernel) (Nat.le_of_ble_eq_true rfl) ?_
  intro p e s m below meth c hx hb hr hlocks av9 hav hts hown hml hK hP hS Q9 hQ9 ls hl
  have hl : lv_has ls 4 [(0, .ref vc), (1, .long vco)] := hl
  refine lv_iconst (v := 0) hx hb dX1_findDeed_0 (by decide) ?_
  refine lv_istore_n (lv' := [(3, .int 0), (0, .ref vc), (1, .long vco)]) hx hb dX1_findDeed_1 rfl hl (by decide) rfl (fun ls hl => ?_)
  have loop1 : ∀ (n1 : Nat) (x_2 : Int32), (0 ≤ x_2.toInt ∧ x_2.toInt ≤ 29) → (tksr vcf2 0 vco vcd.toInt x_2.toInt = tksr vcf2 0 vco vcd.toInt 0) → 29 - x_2.toInt < (n1 : Int) → ∀ (H : Heap) (locs : List Loc), va_P (dC, dI) vwCl [(vc, .inr (2, [.ref vc1, .ref vc2, .ref vc3, .ref vc4, .ref vc5, .int vcm, .int vcd, .int vcr, .int vcw])), (vc2, .inl (cy 1, 10, .inr (.inl vcf2)))] H → va_S (fun _ => False) s.heap H locs → ∀ ls : Array Slot, lv_has ls 4 [(3, .int x_2), (0, .ref vc), (1, .long vco)] → W p l e ({ frames := 0, cells := 0, slots := 0, locals := 0 }) s m av9 below meth c H locs 0 0 Q9 (F0 m 2 ls []) := by
    intro n1
    induction n1 with
    | zero =>
      intro x_2 bx_2 v1_0 hn1 H locs hP hS ls hl
      exfalso; omega
    | succ n1 ih1 =>
      intro x_2 bx_2 v1_0 hn1 H locs hP hS ls hl
      refine lv_iload_n hx hb dX1_findDeed_2 rfl (lv_at hl 0 rfl) ?_
      refine lv_aload_n hx hb dX1_findDeed_3 rfl (lv_at hl 1 rfl) ?_
      refine gf_X1_39 hx hb hts hown hK hP 0 rfl rfl dX1_findDeed_4 ?_
      refine lv_icmp_ge (tgt := 29) hx hb dX1_findDeed_7 (by decide) (fun c_3 => ?_) (fun c_3 => ?_)
      · skip
        have c_3 : vcd.toInt ≤ x_2.toInt := i_le.mp c_3
        refine lv_iconst (v := (-1)) hx hb dX1_findDeed_29 (by decide) ?_
        have k_m1 : ((-1) : Int32).toInt = (-1) := by decide
        rw [hQ9]
        exact rr_i hx hb hr hlocks ⟨(show -1 ≤ (((-1) : Int32) : Int32).toInt ∧ (((-1) : Int32) : Int32).toInt ≤ 9 from ⟨by omega, by omega⟩), (show (((-1) : Int32) : Int32).toInt = tksr vcf2 0 vco (vcd : Int32).toInt 0 from (k_m1.trans (Eq.trans (tksr_end (f := vcf2) (o := 0) (c := vco) (show vcd.toInt ≤ x_2.toInt by omega)).symm v1_0)))⟩ hS dX1_findDeed_30
      · skip
        have c_3 : ¬ (vcd.toInt ≤ x_2.toInt) := fun h9 => c_3 (i_le.mpr h9)
        refine lv_aload_n hx hb dX1_findDeed_10 rfl (lv_at hl 1 rfl) ?_
        refine gf_X1_15 hx hb hts hown hK hP 0 rfl rfl dX1_findDeed_11 ?_
        refine lv_iload_n hx hb dX1_findDeed_14 rfl (lv_at hl 0 rfl) ?_
        have hin_4 : vp_in x_2 10 := vp_in_iff.mpr ⟨by omega, by omega⟩
        refine va_lald hx hb hK hP 1 1 rfl rfl hin_4 dX1_findDeed_15 ?_
        refine lv_topl (fun y_5 ey_5 => ?_)
        refine lv_lload_n hx hb dX1_findDeed_16 rfl (lv_at hl 2 rfl) ?_
        refine W.lcmp hx hb dX1_findDeed_17 ?_
        refine lv_topi (fun z_6 ez_6 => ?_)
        have k_0 : (0 : Int32).toInt = 0 := by decide
        refine lv_if_ne (tgt := 23) hx hb dX1_findDeed_18 (by decide) (fun c_7 => ?_) (fun c_7 => ?_)
        · skip
          have c_7 : ¬ (z_6.toInt = (0 : Int32).toInt) := fun h9 => c_7 (i_eq.mpr h9)
          obtain ⟨z_8, ez_8⟩ : ∃ z : Int32, z = x_2 + 1 := ⟨_, rfl⟩
          have k_1 : (1 : Int32).toInt = 1 := by decide
          have bz_8 : z_8.toInt = x_2.toInt + (1 : Int32).toInt := i_add ez_8 (by omega) (by omega)
          refine lv_iinc (v := z_8) (lv' := [(3, .int z_8), (0, .ref vc), (1, .long vco)]) hx hb dX1_findDeed_23 hl (k := 0) rfl ez_8.symm (by decide) rfl (fun ls hl => ?_)
          refine lv_goto (tgt := 2) hx hb dX1_findDeed_26 (by decide) ?_
          exact ih1 z_8 ⟨by omega, by omega⟩ (Eq.trans (congrArg (fun q9 => tksr vcf2 0 vco vcd.toInt q9) (show z_8.toInt = x_2.toInt + 1 by omega)) (Eq.trans (tksr_go (f := vcf2) (o := 0) (c := vco) (show x_2.toInt < vcd.toInt by omega) (fun h9 => c_7 ((l_cmp0 ez_6).mpr ((tkrow ey_5).symm.trans h9)))) v1_0)) (by omega) _ _ (hP.sub [0, 1] rfl) hS ls (lv_sub hl [0, 1, 2] rfl)
        · skip
          have c_7 : z_6.toInt = (0 : Int32).toInt := i_eq.mp c_7
          refine lv_iload_n hx hb dX1_findDeed_21 rfl (lv_at hl 0 rfl) ?_
          rw [hQ9]
          exact rr_i hx hb hr hlocks ⟨(show -1 ≤ (x_2 : Int32).toInt ∧ (x_2 : Int32).toInt ≤ 9 from ⟨by omega, by omega⟩), (show (x_2 : Int32).toInt = tksr vcf2 0 vco (vcd : Int32).toInt 0 from (Eq.trans (tksr_hit (f := vcf2) (o := 0) (c := vco) (show x_2.toInt < vcd.toInt by omega) ((tkrow ey_5).trans ((l_cmp0 ez_6).mp c_7))).symm v1_0))⟩ hS dX1_findDeed_22
  have k_0 : (0 : Int32).toInt = 0 := by decide
  exact loop1 ((29 - (0 : Int32).toInt).toNat + 1) 0 ⟨by omega, by omega⟩ (by rw [k_0]) (by omega) _ _ hP hS ls (lv_sub hl [0, 1, 2] rfl)
