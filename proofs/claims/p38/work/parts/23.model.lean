abbrev cX11_spelt : ByteArray := prog_13_method_17_code
def yX11_spelt : MethodName := ⟨RX11, "spelt", "(IIIIIII)J"⟩
theorem t1625 : Cond.code yX11_spelt cX11_spelt 9 (some .long) ∈ GW := gw_mem 1739 (by decide +kernel) (by decide +kernel)
theorem dX11_spelt_0 : decode cX11_spelt 0 = .ok (.ldc2_w 54, 3) := by decide +kernel
theorem dX11_spelt_3 : decode cX11_spelt 3 = .ok (.iload_n 0, 1) := by decide +kernel
theorem dX11_spelt_4 : decode cX11_spelt 4 = .ok (.i2l, 1) := by decide +kernel
theorem dX11_spelt_5 : decode cX11_spelt 5 = .ok (.ldc2_w 56, 3) := by decide +kernel
theorem dX11_spelt_8 : decode cX11_spelt 8 = .ok (.lsub, 1) := by decide +kernel
theorem dX11_spelt_9 : decode cX11_spelt 9 = .ok (.lmul, 1) := by decide +kernel
theorem dX11_spelt_10 : decode cX11_spelt 10 = .ok (.iload_n 1, 1) := by decide +kernel
theorem dX11_spelt_11 : decode cX11_spelt 11 = .ok (.i2l, 1) := by decide +kernel
theorem dX11_spelt_12 : decode cX11_spelt 12 = .ok (.ladd, 1) := by decide +kernel
theorem dX11_spelt_13 : decode cX11_spelt 13 = .ok (.ldc2_w 56, 3) := by decide +kernel
theorem dX11_spelt_16 : decode cX11_spelt 16 = .ok (.lsub, 1) := by decide +kernel
theorem dX11_spelt_17 : decode cX11_spelt 17 = .ok (.lstore 7, 2) := by decide +kernel
theorem dX11_spelt_19 : decode cX11_spelt 19 = .ok (.iload_n 2, 1) := by decide +kernel
theorem dX11_spelt_20 : decode cX11_spelt 20 = .ok (.ifCond .le 18, 3) := by decide +kernel
theorem dX11_spelt_38 : decode cX11_spelt 38 = .ok (.iload_n 3, 1) := by decide +kernel
theorem dX11_spelt_39 : decode cX11_spelt 39 = .ok (.ifCond .le 18, 3) := by decide +kernel
theorem dX11_spelt_57 : decode cX11_spelt 57 = .ok (.iload 4, 2) := by decide +kernel
theorem dX11_spelt_59 : decode cX11_spelt 59 = .ok (.ifCond .le 19, 3) := by decide +kernel
theorem dX11_spelt_78 : decode cX11_spelt 78 = .ok (.iload 5, 2) := by decide +kernel
theorem dX11_spelt_80 : decode cX11_spelt 80 = .ok (.ifCond .le 19, 3) := by decide +kernel
theorem dX11_spelt_99 : decode cX11_spelt 99 = .ok (.iload 6, 2) := by decide +kernel
theorem dX11_spelt_101 : decode cX11_spelt 101 = .ok (.ifCond .le 19, 3) := by decide +kernel
theorem dX11_spelt_120 : decode cX11_spelt 120 = .ok (.lload 7, 2) := by decide +kernel
theorem dX11_spelt_122 : decode cX11_spelt 122 = .ok (.lreturn, 1) := by decide +kernel
set_option maxHeartbeats 4000000 in
set_option maxRecDepth 100000 in
theorem m_spelt_no (l : Launch) (dC : Nat → ClassId) (dI : Nat → Nat → Nat) (cy : Nat → ClassId)   : Met l yX11_spelt (wl yX11_spelt cX11_spelt 9 (some .long)) ({ frames := 0, cells := 0, slots := 0, locals := 0 }) (Pr (dC, dI) vwCl cy [] [.int 110, .int 111, .int 0, .int 0, .int 0, .int 0, .int 0]) (Rl (fun r => ((r : Int64).toInt = 393))) 0 0 (fun _ => False) := by
  refine mr RX11 rfl (by decide +kernel) (Nat.le_of_ble_eq_true rfl) ?_
  intro p e s m below meth c hx hb hr hlocks av9 hav hts hown hml hK hP hS Q9 hQ9 ls hl
  have hl : lv_has ls 9 [(0, .int 110), (1, .int 111), (2, .int 0), (3, .int 0), (4, .int 0), (5, .int 0), (6, .int 0)] := hl
  refine lv_ldc2 hx hb hown (hts _ t1610) dX11_spelt_0 ?_
  refine lv_iload_n hx hb dX11_spelt_3 rfl (lv_at hl 0 rfl) ?_
  refine lv_i2l (v := 110) hx hb dX11_spelt_4 (by decide) ?_
  refine lv_ldc2 hx hb hown (hts _ t1611) dX11_spelt_5 ?_
  refine lv_lsub hx hb dX11_spelt_8 ?_
  refine as_l 14 (by decide) ?_
  refine lv_lmul hx hb dX11_spelt_9 ?_
  refine as_l 378 (by decide) ?_
  refine lv_iload_n hx hb dX11_spelt_10 rfl (lv_at hl 1 rfl) ?_
  refine lv_i2l (v := 111) hx hb dX11_spelt_11 (by decide) ?_
  refine lv_ladd hx hb dX11_spelt_12 ?_
  refine as_l 489 (by decide) ?_
  refine lv_ldc2 hx hb hown (hts _ t1611) dX11_spelt_13 ?_
  refine lv_lsub hx hb dX11_spelt_16 ?_
  refine as_l 393 (by decide) ?_
  refine lv_lstore (lv' := [(7, .long 393), (0, .int 110), (1, .int 111), (2, .int 0), (3, .int 0), (4, .int 0), (5, .int 0), (6, .int 0)]) hx hb dX11_spelt_17 hl (by decide) rfl (fun ls hl => ?_)
  refine lv_iload_n hx hb dX11_spelt_19 rfl (lv_at hl 3 rfl) ?_
  refine lv_if_le (tgt := 38) hx hb dX11_spelt_20 (by decide) (fun _ => ?_) (fun c9 => absurd (by decide) c9)
  refine lv_iload_n hx hb dX11_spelt_38 rfl (lv_at hl 4 rfl) ?_
  refine lv_if_le (tgt := 57) hx hb dX11_spelt_39 (by decide) (fun _ => ?_) (fun c9 => absurd (by decide) c9)
  refine lv_iload hx hb dX11_spelt_57 (lv_at hl 5 rfl) ?_
  refine lv_if_le (tgt := 78) hx hb dX11_spelt_59 (by decide) (fun _ => ?_) (fun c9 => absurd (by decide) c9)
  refine lv_iload hx hb dX11_spelt_78 (lv_at hl 6 rfl) ?_
  refine lv_if_le (tgt := 99) hx hb dX11_spelt_80 (by decide) (fun _ => ?_) (fun c9 => absurd (by decide) c9)
  refine lv_iload hx hb dX11_spelt_99 (lv_at hl 7 rfl) ?_
  refine lv_if_le (tgt := 120) hx hb dX11_spelt_101 (by decide) (fun _ => ?_) (fun c9 => absurd (by decide) c9)
  refine lv_lload hx hb dX11_spelt_120 (lv_at hl 0 rfl) ?_
  rw [hQ9]
  exact rr_l hx hb hr hlocks (show ((393 : Int64) : Int64).toInt = 393 from (by decide)) hS dX11_spelt_122
set_option maxHeartbeats 4000000 in
set_option maxRecDepth 100000 in
theorem m_spelt_is (l : Launch) (dC : Nat → ClassId) (dI : Nat → Nat → Nat) (cy : Nat → ClassId)   : Met l yX11_spelt (wl yX11_spelt cX11_spelt 9 (some .long)) ({ frames := 0, cells := 0, slots := 0, locals := 0 }) (Pr (dC, dI) vwCl cy [] [.int 105, .int 115, .int 0, .int 0, .int 0, .int 0, .int 0]) (Rl (fun r => ((r : Int64).toInt = 262))) 0 0 (fun _ => False) := by
  refine mr RX11 rfl (by decide +kernel) (Nat.le_of_ble_eq_true rfl) ?_
  intro p e s m below meth c hx hb hr hlocks av9 hav hts hown hml hK hP hS Q9 hQ9 ls hl
  have hl : lv_has ls 9 [(0, .int 105), (1, .int 115), (2, .int 0), (3, .int 0), (4, .int 0), (5, .int 0), (6, .int 0)] := hl
  refine lv_ldc2 hx hb hown (hts _ t1610) dX11_spelt_0 ?_
  refine lv_iload_n hx hb dX11_spelt_3 rfl (lv_at hl 0 rfl) ?_
  refine lv_i2l (v := 105) hx hb dX11_spelt_4 (by decide) ?_
  refine lv_ldc2 hx hb hown (hts _ t1611) dX11_spelt_5 ?_
  refine lv_lsub hx hb dX11_spelt_8 ?_
  refine as_l 9 (by decide) ?_
  refine lv_lmul hx hb dX11_spelt_9 ?_
  refine as_l 243 (by decide) ?_
  refine lv_iload_n hx hb dX11_spelt_10 rfl (lv_at hl 1 rfl) ?_
  refine lv_i2l (v := 115) hx hb dX11_spelt_11 (by decide) ?_
  refine lv_ladd hx hb dX11_spelt_12 ?_
  refine as_l 358 (by decide) ?_
  refine lv_ldc2 hx hb hown (hts _ t1611) dX11_spelt_13 ?_
  refine lv_lsub hx hb dX11_spelt_16 ?_
  refine as_l 262 (by decide) ?_
  refine lv_lstore (lv' := [(7, .long 262), (0, .int 105), (1, .int 115), (2, .int 0), (3, .int 0), (4, .int 0), (5, .int 0), (6, .int 0)]) hx hb dX11_spelt_17 hl (by decide) rfl (fun ls hl => ?_)
  refine lv_iload_n hx hb dX11_spelt_19 rfl (lv_at hl 3 rfl) ?_
  refine lv_if_le (tgt := 38) hx hb dX11_spelt_20 (by decide) (fun _ => ?_) (fun c9 => absurd (by decide) c9)
  refine lv_iload_n hx hb dX11_spelt_38 rfl (lv_at hl 4 rfl) ?_
  refine lv_if_le (tgt := 57) hx hb dX11_spelt_39 (by decide) (fun _ => ?_) (fun c9 => absurd (by decide) c9)
  refine lv_iload hx hb dX11_spelt_57 (lv_at hl 5 rfl) ?_
  refine lv_if_le (tgt := 78) hx hb dX11_spelt_59 (by decide) (fun _ => ?_) (fun c9 => absurd (by decide) c9)
  refine lv_iload hx hb dX11_spelt_78 (lv_at hl 6 rfl) ?_
  refine lv_if_le (tgt := 99) hx hb dX11_spelt_80 (by decide) (fun _ => ?_) (fun c9 => absurd (by decide) c9)
  refine lv_iload hx hb dX11_spelt_99 (lv_at hl 7 rfl) ?_
  refine lv_if_le (tgt := 120) hx hb dX11_spelt_101 (by decide) (fun _ => ?_) (fun c9 => absurd (by decide) c9)
  refine lv_lload hx hb dX11_spelt_120 (lv_at hl 0 rfl) ?_
  rw [hQ9]
  exact rr_l hx hb hr hlocks (show ((262 : Int64) : Int64).toInt = 262 from (by decide)) hS dX11_spelt_122
theorem dX11_spelt_23 : decode cX11_spelt 23 = .ok (.ldc2_w 54, 3) := by decide +kernel
theorem dX11_spelt_26 : decode cX11_spelt 26 = .ok (.lload 7, 2) := by decide +kernel
theorem dX11_spelt_28 : decode cX11_spelt 28 = .ok (.lmul, 1) := by decide +kernel
theorem dX11_spelt_29 : decode cX11_spelt 29 = .ok (.iload_n 2, 1) := by decide +kernel
theorem dX11_spelt_30 : decode cX11_spelt 30 = .ok (.i2l, 1) := by decide +kernel
theorem dX11_spelt_31 : decode cX11_spelt 31 = .ok (.ladd, 1) := by decide +kernel
theorem dX11_spelt_32 : decode cX11_spelt 32 = .ok (.ldc2_w 56, 3) := by decide +kernel
theorem dX11_spelt_35 : decode cX11_spelt 35 = .ok (.lsub, 1) := by decide +kernel
theorem dX11_spelt_36 : decode cX11_spelt 36 = .ok (.lstore 7, 2) := by decide +kernel
theorem dX11_spelt_42 : decode cX11_spelt 42 = .ok (.ldc2_w 54, 3) := by decide +kernel
theorem dX11_spelt_45 : decode cX11_spelt 45 = .ok (.lload 7, 2) := by decide +kernel
theorem dX11_spelt_47 : decode cX11_spelt 47 = .ok (.lmul, 1) := by decide +kernel
theorem dX11_spelt_48 : decode cX11_spelt 48 = .ok (.iload_n 3, 1) := by decide +kernel
theorem dX11_spelt_49 : decode cX11_spelt 49 = .ok (.i2l, 1) := by decide +kernel
theorem dX11_spelt_50 : decode cX11_spelt 50 = .ok (.ladd, 1) := by decide +kernel
theorem dX11_spelt_51 : decode cX11_spelt 51 = .ok (.ldc2_w 56, 3) := by decide +kernel
theorem dX11_spelt_54 : decode cX11_spelt 54 = .ok (.lsub, 1) := by decide +kernel
theorem dX11_spelt_55 : decode cX11_spelt 55 = .ok (.lstore 7, 2) := by decide +kernel
set_option maxHeartbeats 4000000 in
set_option maxRecDepth 100000 in
theorem m_spelt_room (l : Launch) (dC : Nat → ClassId) (dI : Nat → Nat → Nat) (cy : Nat → ClassId)   : Met l yX11_spelt (wl yX11_spelt cX11_spelt 9 (some .long)) ({ frames := 0, cells := 0, slots := 0, locals := 0 }) (Pr (dC, dI) vwCl cy [] [.int 114, .int 111, .int 111, .int 109, .int 0, .int 0, .int 0]) (Rl (fun r => ((r : Int64).toInt = 365647))) 0 0 (fun _ => False) := by
  refine mr RX11 rfl (by decide +kernel) (Nat.le_of_ble_eq_true rfl) ?_
  intro p e s m below meth c hx hb hr hlocks av9 hav hts hown hml hK hP hS Q9 hQ9 ls hl
  have hl : lv_has ls 9 [(0, .int 114), (1, .int 111), (2, .int 111), (3, .int 109), (4, .int 0), (5, .int 0), (6, .int 0)] := hl
  refine lv_ldc2 hx hb hown (hts _ t1610) dX11_spelt_0 ?_
  refine lv_iload_n hx hb dX11_spelt_3 rfl (lv_at hl 0 rfl) ?_
  refine lv_i2l (v := 114) hx hb dX11_spelt_4 (by decide) ?_
  refine lv_ldc2 hx hb hown (hts _ t1611) dX11_spelt_5 ?_
  refine lv_lsub hx hb dX11_spelt_8 ?_
  refine as_l 18 (by decide) ?_
  refine lv_lmul hx hb dX11_spelt_9 ?_
  refine as_l 486 (by decide) ?_
  refine lv_iload_n hx hb dX11_spelt_10 rfl (lv_at hl 1 rfl) ?_
  refine lv_i2l (v := 111) hx hb dX11_spelt_11 (by decide) ?_
  refine lv_ladd hx hb dX11_spelt_12 ?_
  refine as_l 597 (by decide) ?_
  refine lv_ldc2 hx hb hown (hts _ t1611) dX11_spelt_13 ?_
  refine lv_lsub hx hb dX11_spelt_16 ?_
  refine as_l 501 (by decide) ?_
  refine lv_lstore (lv' := [(7, .long 501), (0, .int 114), (1, .int 111), (2, .int 111), (3, .int 109), (4, .int 0), (5, .int 0), (6, .int 0)]) hx hb dX11_spelt_17 hl (by decide) rfl (fun ls hl => ?_)
  refine lv_iload_n hx hb dX11_spelt_19 rfl (lv_at hl 3 rfl) ?_
  refine lv_if_le (tgt := 38) hx hb dX11_spelt_20 (by decide) (fun c9 => absurd c9 (by decide)) (fun _ => ?_)
  refine lv_ldc2 hx hb hown (hts _ t1610) dX11_spelt_23 ?_
  refine lv_lload hx hb dX11_spelt_26 (lv_at hl 0 rfl) ?_
  refine lv_lmul hx hb dX11_spelt_28 ?_
  refine as_l 13527 (by decide) ?_
  refine lv_iload_n hx hb dX11_spelt_29 rfl (lv_at hl 3 rfl) ?_
  refine lv_i2l (v := 111) hx hb dX11_spelt_30 (by decide) ?_
  refine lv_ladd hx hb dX11_spelt_31 ?_
  refine as_l 13638 (by decide) ?_
  refine lv_ldc2 hx hb hown (hts _ t1611) dX11_spelt_32 ?_
  refine lv_lsub hx hb dX11_spelt_35 ?_
  refine as_l 13542 (by decide) ?_
  refine lv_lstore (lv' := [(7, .long 13542), (0, .int 114), (1, .int 111), (2, .int 111), (3, .int 109), (4, .int 0), (5, .int 0), (6, .int 0)]) hx hb dX11_spelt_36 hl (by decide) rfl (fun ls hl => ?_)
  refine lv_iload_n hx hb dX11_spelt_38 rfl (lv_at hl 4 rfl) ?_
  refine lv_if_le (tgt := 57) hx hb dX11_spelt_39 (by decide) (fun c9 => absurd c9 (by decide)) (fun _ => ?_)
  refine lv_ldc2 hx hb hown (hts _ t1610) dX11_spelt_42 ?_
  refine lv_lload hx hb dX11_spelt_45 (lv_at hl 0 rfl) ?_
  refine lv_lmul hx hb dX11_spelt_47 ?_
  refine as_l 365634 (by decide) ?_
  refine lv_iload_n hx hb dX11_spelt_48 rfl (lv_at hl 4 rfl) ?_
  refine lv_i2l (v := 109) hx hb dX11_spelt_49 (by decide) ?_
  refine lv_ladd hx hb dX11_spelt_50 ?_
  refine as_l 365743 (by decide) ?_
  refine lv_ldc2 hx hb hown (hts _ t1611) dX11_spelt_51 ?_
  refine lv_lsub hx hb dX11_spelt_54 ?_
  refine as_l 365647 (by decide) ?_
  refine lv_lstore (lv' := [(7, .long 365647), (0, .int 114), (1, .int 111), (2, .int 111), (3, .int 109), (4, .int 0), (5, .int 0), (6, .int 0)]) hx hb dX11_spelt_55 hl (by decide) rfl (fun ls hl => ?_)
  refine lv_iload hx hb dX11_spelt_57 (lv_at hl 5 rfl) ?_
  refine lv_if_le (tgt := 78) hx hb dX11_spelt_59 (by decide) (fun _ => ?_) (fun c9 => absurd (by decide) c9)
  refine lv_iload hx hb dX11_spelt_78 (lv_at hl 6 rfl) ?_
  refine lv_if_le (tgt := 99) hx hb dX11_spelt_80 (by decide) (fun _ => ?_) (fun c9 => absurd (by decide) c9)
  refine lv_iload hx hb dX11_spelt_99 (lv_at hl 7 rfl) ?_
  refine lv_if_le (tgt := 120) hx hb dX11_spelt_101 (by decide) (fun _ => ?_) (fun c9 => absurd (by decide) c9)
  refine lv_lload hx hb dX11_spelt_120 (lv_at hl 0 rfl) ?_
  rw [hQ9]
  exact rr_l hx hb hr hlocks (show ((365647 : Int64) : Int64).toInt = 365647 from (by decide)) hS dX11_spelt_122
set_option maxHeartbeats 4000000 in
set_option maxRecDepth 100000 in
theorem m_spelt_dark (l : Launch) (dC : Nat → ClassId) (dI : Nat → Nat → Nat) (cy : Nat → ClassId)   : Met l yX11_spelt (wl yX11_spelt cX11_spelt 9 (some .long)) ({ frames := 0, cells := 0, slots := 0, locals := 0 }) (Pr (dC, dI) vwCl cy [] [.int 100, .int 97, .int 114, .int 107, .int 0, .int 0, .int 0]) (Rl (fun r => ((r : Int64).toInt = 79958))) 0 0 (fun _ => False) := by
  refine mr RX11 rfl (by decide +kernel) (Nat.le_of_ble_eq_true rfl) ?_
  intro p e s m below meth c hx hb hr hlocks av9 hav hts hown hml hK hP hS Q9 hQ9 ls hl
  have hl : lv_has ls 9 [(0, .int 100), (1, .int 97), (2, .int 114), (3, .int 107), (4, .int 0), (5, .int 0), (6, .int 0)] := hl
  refine lv_ldc2 hx hb hown (hts _ t1610) dX11_spelt_0 ?_
  refine lv_iload_n hx hb dX11_spelt_3 rfl (lv_at hl 0 rfl) ?_
  refine lv_i2l (v := 100) hx hb dX11_spelt_4 (by decide) ?_
  refine lv_ldc2 hx hb hown (hts _ t1611) dX11_spelt_5 ?_
  refine lv_lsub hx hb dX11_spelt_8 ?_
  refine as_l 4 (by decide) ?_
  refine lv_lmul hx hb dX11_spelt_9 ?_
  refine as_l 108 (by decide) ?_
  refine lv_iload_n hx hb dX11_spelt_10 rfl (lv_at hl 1 rfl) ?_
  refine lv_i2l (v := 97) hx hb dX11_spelt_11 (by decide) ?_
  refine lv_ladd hx hb dX11_spelt_12 ?_
  refine as_l 205 (by decide) ?_
  refine lv_ldc2 hx hb hown (hts _ t1611) dX11_spelt_13 ?_
  refine lv_lsub hx hb dX11_spelt_16 ?_
  refine as_l 109 (by decide) ?_
  refine lv_lstore (lv' := [(7, .long 109), (0, .int 100), (1, .int 97), (2, .int 114), (3, .int 107), (4, .int 0), (5, .int 0), (6, .int 0)]) hx hb dX11_spelt_17 hl (by decide) rfl (fun ls hl => ?_)
  refine lv_iload_n hx hb dX11_spelt_19 rfl (lv_at hl 3 rfl) ?_
  refine lv_if_le (tgt := 38) hx hb dX11_spelt_20 (by decide) (fun c9 => absurd c9 (by decide)) (fun _ => ?_)
  refine lv_ldc2 hx hb hown (hts _ t1610) dX11_spelt_23 ?_
  refine lv_lload hx hb dX11_spelt_26 (lv_at hl 0 rfl) ?_
  refine lv_lmul hx hb dX11_spelt_28 ?_
  refine as_l 2943 (by decide) ?_
  refine lv_iload_n hx hb dX11_spelt_29 rfl (lv_at hl 3 rfl) ?_
  refine lv_i2l (v := 114) hx hb dX11_spelt_30 (by decide) ?_
  refine lv_ladd hx hb dX11_spelt_31 ?_
  refine as_l 3057 (by decide) ?_
  refine lv_ldc2 hx hb hown (hts _ t1611) dX11_spelt_32 ?_
  refine lv_lsub hx hb dX11_spelt_35 ?_
  refine as_l 2961 (by decide) ?_
  refine lv_lstore (lv' := [(7, .long 2961), (0, .int 100), (1, .int 97), (2, .int 114), (3, .int 107), (4, .int 0), (5, .int 0), (6, .int 0)]) hx hb dX11_spelt_36 hl (by decide) rfl (fun ls hl => ?_)
  refine lv_iload_n hx hb dX11_spelt_38 rfl (lv_at hl 4 rfl) ?_
  refine lv_if_le (tgt := 57) hx hb dX11_spelt_39 (by decide) (fun c9 => absurd c9 (by decide)) (fun _ => ?_)
  refine lv_ldc2 hx hb hown (hts _ t1610) dX11_spelt_42 ?_
  refine lv_lload hx hb dX11_spelt_45 (lv_at hl 0 rfl) ?_
  refine lv_lmul hx hb dX11_spelt_47 ?_
  refine as_l 79947 (by decide) ?_
  refine lv_iload_n hx hb dX11_spelt_48 rfl (lv_at hl 4 rfl) ?_
  refine lv_i2l (v := 107) hx hb dX11_spelt_49 (by decide) ?_
  refine lv_ladd hx hb dX11_spelt_50 ?_
  refine as_l 80054 (by decide) ?_
  refine lv_ldc2 hx hb hown (hts _ t1611) dX11_spelt_51 ?_
  refine lv_lsub hx hb dX11_spelt_54 ?_
  refine as_l 79958 (by decide) ?_
  refine lv_lstore (lv' := [(7, .long 79958), (0, .int 100), (1, .int 97), (2, .int 114), (3, .int 107), (4, .int 0), (5, .int 0), (6, .int 0)]) hx hb dX11_spelt_55 hl (by decide) rfl (fun ls hl => ?_)
  refine lv_iload hx hb dX11_spelt_57 (lv_at hl 5 rfl) ?_
  refine lv_if_le (tgt := 78) hx hb dX11_spelt_59 (by decide) (fun _ => ?_) (fun c9 => absurd (by decide) c9)
  refine lv_iload hx hb dX11_spelt_78 (lv_at hl 6 rfl) ?_
  refine lv_if_le (tgt := 99) hx hb dX11_spelt_80 (by decide) (fun _ => ?_) (fun c9 => absurd (by decide) c9)
  refine lv_iload hx hb dX11_spelt_99 (lv_at hl 7 rfl) ?_
  refine lv_if_le (tgt := 120) hx hb dX11_spelt_101 (by decide) (fun _ => ?_) (fun c9 => absurd (by decide) c9)
  refine lv_lload hx hb dX11_spelt_120 (lv_at hl 0 rfl) ?_
  rw [hQ9]
  exact rr_l hx hb hr hlocks (show ((79958 : Int64) : Int64).toInt = 79958 from (by decide)) hS dX11_spelt_122
theorem dX11_spelt_62 : decode cX11_spelt 62 = .ok (.ldc2_w 54, 3) := by decide +kernel
theorem dX11_spelt_65 : decode cX11_spelt 65 = .ok (.lload 7, 2) := by decide +kernel
theorem dX11_spelt_67 : decode cX11_spelt 67 = .ok (.lmul, 1) := by decide +kernel
theorem dX11_spelt_68 : decode cX11_spelt 68 = .ok (.iload 4, 2) := by decide +kernel
theorem dX11_spelt_70 : decode cX11_spelt 70 = .ok (.i2l, 1) := by decide +kernel
theorem dX11_spelt_71 : decode cX11_spelt 71 = .ok (.ladd, 1) := by decide +kernel
theorem dX11_spelt_72 : decode cX11_spelt 72 = .ok (.ldc2_w 56, 3) := by decide +kernel
theorem dX11_spelt_75 : decode cX11_spelt 75 = .ok (.lsub, 1) := by decide +kernel
theorem dX11_spelt_76 : decode cX11_spelt 76 = .ok (.lstore 7, 2) := by decide +kernel
set_option maxHeartbeats 4000000 in
set_option maxRecDepth 100000 in
theorem m_spelt_white (l : Launch) (dC : Nat → ClassId) (dI : Nat → Nat → Nat) (cy : Nat → ClassId)   : Met l yX11_spelt (wl yX11_spelt cX11_spelt 9 (some .long)) ({ frames := 0, cells := 0, slots := 0, locals := 0 }) (Pr (dC, dI) vwCl cy [] [.int 119, .int 104, .int 105, .int 116, .int 101, .int 0, .int 0]) (Rl (fun r => ((r : Int64).toInt = 12387713))) 0 0 (fun _ => False) := by
  refine mr RX11 rfl (by decide +kernel) (Nat.le_of_ble_eq_true rfl) ?_
  intro p e s m below meth c hx hb hr hlocks av9 hav hts hown hml hK hP hS Q9 hQ9 ls hl
  have hl : lv_has ls 9 [(0, .int 119), (1, .int 104), (2, .int 105), (3, .int 116), (4, .int 101), (5, .int 0), (6, .int 0)] := hl
  refine lv_ldc2 hx hb hown (hts _ t1610) dX11_spelt_0 ?_
  refine lv_iload_n hx hb dX11_spelt_3 rfl (lv_at hl 0 rfl) ?_
  refine lv_i2l (v := 119) hx hb dX11_spelt_4 (by decide) ?_
  refine lv_ldc2 hx hb hown (hts _ t1611) dX11_spelt_5 ?_
  refine lv_lsub hx hb dX11_spelt_8 ?_
  refine as_l 23 (by decide) ?_
  refine lv_lmul hx hb dX11_spelt_9 ?_
  refine as_l 621 (by decide) ?_
  refine lv_iload_n hx hb dX11_spelt_10 rfl (lv_at hl 1 rfl) ?_
  refine lv_i2l (v := 104) hx hb dX11_spelt_11 (by decide) ?_
  refine lv_ladd hx hb dX11_spelt_12 ?_
  refine as_l 725 (by decide) ?_
  refine lv_ldc2 hx hb hown (hts _ t1611) dX11_spelt_13 ?_
  refine lv_lsub hx hb dX11_spelt_16 ?_
  refine as_l 629 (by decide) ?_
  refine lv_lstore (lv' := [(7, .long 629), (0, .int 119), (1, .int 104), (2, .int 105), (3, .int 116), (4, .int 101), (5, .int 0), (6, .int 0)]) hx hb dX11_spelt_17 hl (by decide) rfl (fun ls hl => ?_)
  refine lv_iload_n hx hb dX11_spelt_19 rfl (lv_at hl 3 rfl) ?_
  refine lv_if_le (tgt := 38) hx hb dX11_spelt_20 (by decide) (fun c9 => absurd c9 (by decide)) (fun _ => ?_)
  refine lv_ldc2 hx hb hown (hts _ t1610) dX11_spelt_23 ?_
  refine lv_lload hx hb dX11_spelt_26 (lv_at hl 0 rfl) ?_
  refine lv_lmul hx hb dX11_spelt_28 ?_
  refine as_l 16983 (by decide) ?_
  refine lv_iload_n hx hb dX11_spelt_29 rfl (lv_at hl 3 rfl) ?_
  refine lv_i2l (v := 105) hx hb dX11_spelt_30 (by decide) ?_
  refine lv_ladd hx hb dX11_spelt_31 ?_
  refine as_l 17088 (by decide) ?_
  refine lv_ldc2 hx hb hown (hts _ t1611) dX11_spelt_32 ?_
  refine lv_lsub hx hb dX11_spelt_35 ?_
  refine as_l 16992 (by decide) ?_
  refine lv_lstore (lv' := [(7, .long 16992), (0, .int 119), (1, .int 104), (2, .int 105), (3, .int 116), (4, .int 101), (5, .int 0), (6, .int 0)]) hx hb dX11_spelt_36 hl (by decide) rfl (fun ls hl => ?_)
  refine lv_iload_n hx hb dX11_spelt_38 rfl (lv_at hl 4 rfl) ?_
  refine lv_if_le (tgt := 57) hx hb dX11_spelt_39 (by decide) (fun c9 => absurd c9 (by decide)) (fun _ => ?_)
  refine lv_ldc2 hx hb hown (hts _ t1610) dX11_spelt_42 ?_
  refine lv_lload hx hb dX11_spelt_45 (lv_at hl 0 rfl) ?_
  refine lv_lmul hx hb dX11_spelt_47 ?_
  refine as_l 458784 (by decide) ?_
  refine lv_iload_n hx hb dX11_spelt_48 rfl (lv_at hl 4 rfl) ?_
  refine lv_i2l (v := 116) hx hb dX11_spelt_49 (by decide) ?_
  refine lv_ladd hx hb dX11_spelt_50 ?_
  refine as_l 458900 (by decide) ?_
  refine lv_ldc2 hx hb hown (hts _ t1611) dX11_spelt_51 ?_
  refine lv_lsub hx hb dX11_spelt_54 ?_
  refine as_l 458804 (by decide) ?_
  refine lv_lstore (lv' := [(7, .long 458804), (0, .int 119), (1, .int 104), (2, .int 105), (3, .int 116), (4, .int 101), (5, .int 0), (6, .int 0)]) hx hb dX11_spelt_55 hl (by decide) rfl (fun ls hl => ?_)
  refine lv_iload hx hb dX11_spelt_57 (lv_at hl 5 rfl) ?_
  refine lv_if_le (tgt := 78) hx hb dX11_spelt_59 (by decide) (fun c9 => absurd c9 (by decide)) (fun _ => ?_)
  refine lv_ldc2 hx hb hown (hts _ t1610) dX11_spelt_62 ?_
  refine lv_lload hx hb dX11_spelt_65 (lv_at hl 0 rfl) ?_
  refine lv_lmul hx hb dX11_spelt_67 ?_
  refine as_l 12387708 (by decide) ?_
  refine lv_iload hx hb dX11_spelt_68 (lv_at hl 5 rfl) ?_
  refine lv_i2l (v := 101) hx hb dX11_spelt_70 (by decide) ?_
  refine lv_ladd hx hb dX11_spelt_71 ?_
  refine as_l 12387809 (by decide) ?_
  refine lv_ldc2 hx hb hown (hts _ t1611) dX11_spelt_72 ?_
  refine lv_lsub hx hb dX11_spelt_75 ?_
  refine as_l 12387713 (by decide) ?_
  refine lv_lstore (lv' := [(7, .long 12387713), (0, .int 119), (1, .int 104), (2, .int 105), (3, .int 116), (4, .int 101), (5, .int 0), (6, .int 0)]) hx hb dX11_spelt_76 hl (by decide) rfl (fun ls hl => ?_)
  refine lv_iload hx hb dX11_spelt_78 (lv_at hl 6 rfl) ?_
  refine lv_if_le (tgt := 99) hx hb dX11_spelt_80 (by decide) (fun _ => ?_) (fun c9 => absurd (by decide) c9)
  refine lv_iload hx hb dX11_spelt_99 (lv_at hl 7 rfl) ?_
  refine lv_if_le (tgt := 120) hx hb dX11_spelt_101 (by decide) (fun _ => ?_) (fun c9 => absurd (by decide) c9)
  refine lv_lload hx hb dX11_spelt_120 (lv_at hl 0 rfl) ?_
  rw [hQ9]
  exact rr_l hx hb hr hlocks (show ((12387713 : Int64) : Int64).toInt = 12387713 from (by decide)) hS dX11_spelt_122
set_option maxHeartbeats 4000000 in
set_option maxRecDepth 100000 in
theorem m_spelt_faint (l : Launch) (dC : Nat → ClassId) (dI : Nat → Nat → Nat) (cy : Nat → ClassId)   : Met l yX11_spelt (wl yX11_spelt cX11_spelt 9 (some .long)) ({ frames := 0, cells := 0, slots := 0, locals := 0 }) (Pr (dC, dI) vwCl cy [] [.int 102, .int 97, .int 105, .int 110, .int 116, .int 0, .int 0]) (Rl (fun r => ((r : Int64).toInt = 3215288))) 0 0 (fun _ => False) := by
  refine mr RX11 rfl (by decide +kernel) (Nat.le_of_ble_eq_true rfl) ?_
  intro p e s m below meth c hx hb hr hlocks av9 hav hts hown hml hK hP hS Q9 hQ9 ls hl
  have hl : lv_has ls 9 [(0, .int 102), (1, .int 97), (2, .int 105), (3, .int 110), (4, .int 116), (5, .int 0), (6, .int 0)] := hl
  refine lv_ldc2 hx hb hown (hts _ t1610) dX11_spelt_0 ?_
  refine lv_iload_n hx hb dX11_spelt_3 rfl (lv_at hl 0 rfl) ?_
  refine lv_i2l (v := 102) hx hb dX11_spelt_4 (by decide) ?_
  refine lv_ldc2 hx hb hown (hts _ t1611) dX11_spelt_5 ?_
  refine lv_lsub hx hb dX11_spelt_8 ?_
  refine as_l 6 (by decide) ?_
  refine lv_lmul hx hb dX11_spelt_9 ?_
  refine as_l 162 (by decide) ?_
  refine lv_iload_n hx hb dX11_spelt_10 rfl (lv_at hl 1 rfl) ?_
  refine lv_i2l (v := 97) hx hb dX11_spelt_11 (by decide) ?_
  refine lv_ladd hx hb dX11_spelt_12 ?_
  refine as_l 259 (by decide) ?_
  refine lv_ldc2 hx hb hown (hts _ t1611) dX11_spelt_13 ?_
  refine lv_lsub hx hb dX11_spelt_16 ?_
  refine as_l 163 (by decide) ?_
  refine lv_lstore (lv' := [(7, .long 163), (0, .int 102), (1, .int 97), (2, .int 105), (3, .int 110), (4, .int 116), (5, .int 0), (6, .int 0)]) hx hb dX11_spelt_17 hl (by decide) rfl (fun ls hl => ?_)
  refine lv_iload_n hx hb dX11_spelt_19 rfl (lv_at hl 3 rfl) ?_
  refine lv_if_le (tgt := 38) hx hb dX11_spelt_20 (by decide) (fun c9 => absurd c9 (by decide)) (fun _ => ?_)
  refine lv_ldc2 hx hb hown (hts _ t1610) dX11_spelt_23 ?_
  refine lv_lload hx hb dX11_spelt_26 (lv_at hl 0 rfl) ?_
  refine lv_lmul hx hb dX11_spelt_28 ?_
  refine as_l 4401 (by decide) ?_
  refine lv_iload_n hx hb dX11_spelt_29 rfl (lv_at hl 3 rfl) ?_
  refine lv_i2l (v := 105) hx hb dX11_spelt_30 (by decide) ?_
  refine lv_ladd hx hb dX11_spelt_31 ?_
  refine as_l 4506 (by decide) ?_
  refine lv_ldc2 hx hb hown (hts _ t1611) dX11_spelt_32 ?_
  refine lv_lsub hx hb dX11_spelt_35 ?_
  refine as_l 4410 (by decide) ?_
  refine lv_lstore (lv' := [(7, .long 4410), (0, .int 102), (1, .int 97), (2, .int 105), (3, .int 110), (4, .int 116), (5, .int 0), (6, .int 0)]) hx hb dX11_spelt_36 hl (by decide) rfl (fun ls hl => ?_)
  refine lv_iload_n hx hb dX11_spelt_38 rfl (lv_at hl 4 rfl) ?_
  refine lv_if_le (tgt := 57) hx hb dX11_spelt_39 (by decide) (fun c9 => absurd c9 (by decide)) (fun _ => ?_)
  refine lv_ldc2 hx hb hown (hts _ t1610) dX11_spelt_42 ?_
  refine lv_lload hx hb dX11_spelt_45 (lv_at hl 0 rfl) ?_
  refine lv_lmul hx hb dX11_spelt_47 ?_
  refine as_l 119070 (by decide) ?_
  refine lv_iload_n hx hb dX11_spelt_48 rfl (lv_at hl 4 rfl) ?_
  refine lv_i2l (v := 110) hx hb dX11_spelt_49 (by decide) ?_
  refine lv_ladd hx hb dX11_spelt_50 ?_
  refine as_l 119180 (by decide) ?_
  refine lv_ldc2 hx hb hown (hts _ t1611) dX11_spelt_51 ?_
  refine lv_lsub hx hb dX11_spelt_54 ?_
  refine as_l 119084 (by decide) ?_
  refine lv_lstore (lv' := [(7, .long 119084), (0, .int 102), (1, .int 97), (2, .int 105), (3, .int 110), (4, .int 116), (5, .int 0), (6, .int 0)]) hx hb dX11_spelt_55 hl (by decide) rfl (fun ls hl => ?_)
  refine lv_iload hx hb dX11_spelt_57 (lv_at hl 5 rfl) ?_
  refine lv_if_le (tgt := 78) hx hb dX11_spelt_59 (by decide) (fun c9 => absurd c9 (by decide)) (fun _ => ?_)
  refine lv_ldc2 hx hb hown (hts _ t1610) dX11_spelt_62 ?_
  refine lv_lload hx hb dX11_spelt_65 (lv_at hl 0 rfl) ?_
  refine lv_lmul hx hb dX11_spelt_67 ?_
  refine as_l 3215268 (by decide) ?_
  refine lv_iload hx hb dX11_spelt_68 (lv_at hl 5 rfl) ?_
  refine lv_i2l (v := 116) hx hb dX11_spelt_70 (by decide) ?_
  refine lv_ladd hx hb dX11_spelt_71 ?_
  refine as_l 3215384 (by decide) ?_
  refine lv_ldc2 hx hb hown (hts _ t1611) dX11_spelt_72 ?_
  refine lv_lsub hx hb dX11_spelt_75 ?_
  refine as_l 3215288 (by decide) ?_
  refine lv_lstore (lv' := [(7, .long 3215288), (0, .int 102), (1, .int 97), (2, .int 105), (3, .int 110), (4, .int 116), (5, .int 0), (6, .int 0)]) hx hb dX11_spelt_76 hl (by decide) rfl (fun ls hl => ?_)
  refine lv_iload hx hb dX11_spelt_78 (lv_at hl 6 rfl) ?_
  refine lv_if_le (tgt := 99) hx hb dX11_spelt_80 (by decide) (fun _ => ?_) (fun c9 => absurd (by decide) c9)
  refine lv_iload hx hb dX11_spelt_99 (lv_at hl 7 rfl) ?_
  refine lv_if_le (tgt := 120) hx hb dX11_spelt_101 (by decide) (fun _ => ?_) (fun c9 => absurd (by decide) c9)
  refine lv_lload hx hb dX11_spelt_120 (lv_at hl 0 rfl) ?_
  rw [hQ9]
  exact rr_l hx hb hr hlocks (show ((3215288 : Int64) : Int64).toInt = 3215288 from (by decide)) hS dX11_spelt_122
abbrev cX11_wordOf : ByteArray := prog_13_method_18_code
def yX11_wordOf : MethodName := ⟨RX11, "wordOf", "(I)J"⟩
theorem t1622 : Cond.code yX11_wordOf cX11_wordOf 1 (some .long) ∈ GW := gw_mem 1736 (by decide +kernel) (by decide +kernel)
theorem dX11_wordOf_0 : decode cX11_wordOf 0 = .ok (.iload_n 0, 1) := by decide +kernel
theorem dX11_wordOf_1 : decode cX11_wordOf 1 = .ok (.tableswitch 553 0 27 #[127, 141, 156, 171, 187, 201, 215, 230, 246, 261, 277, 295, 313, 328, 343, 358, 371, 385, 399, 414, 430, 445, 461, 479, 493, 508, 524, 539], 127) := by decide +kernel
theorem dX11_wordOf_415 : decode cX11_wordOf 415 = .ok (.bipush 102, 2) := by decide +kernel
theorem dX11_wordOf_417 : decode cX11_wordOf 417 = .ok (.bipush 97, 2) := by decide +kernel
theorem dX11_wordOf_419 : decode cX11_wordOf 419 = .ok (.bipush 105, 2) := by decide +kernel
theorem dX11_wordOf_421 : decode cX11_wordOf 421 = .ok (.bipush 110, 2) := by decide +kernel
theorem dX11_wordOf_423 : decode cX11_wordOf 423 = .ok (.bipush 116, 2) := by decide +kernel
theorem dX11_wordOf_425 : decode cX11_wordOf 425 = .ok (.iconst 0, 1) := by decide +kernel
theorem dX11_wordOf_426 : decode cX11_wordOf 426 = .ok (.iconst 0, 1) := by decide +kernel
theorem dX11_wordOf_427 : decode cX11_wordOf 427 = .ok (.invokestatic 58, 3) := by decide +kernel
theorem t1623 : Cond.methodLink RX11 58 yX11_spelt ∈ GW := gw_mem 1737 (by decide +kernel) (by decide +kernel)
theorem t1624 : Cond.static yX11_spelt ∈ GW := gw_mem 1738 (by decide +kernel) (by decide +kernel)
theorem cw_X11_58 {R : Room} {s : State} {args : Array Value} {rm : Room} {mc ms : Nat} (hts : ∀ w ∈ GW, w.before args s = true) (hrc : rm.cells = mc) (hrs : rm.slots = ms) (hR : rm.frames + 1 ≤ R.frames ∧ 8 + (9 + 11) + rm.locals ≤ R.locals) : CallB R s args RX11 58 yX11_spelt cX11_spelt 9 (some .long) (wl yX11_spelt cX11_spelt 9 (some .long)) rm mc ms 7 ∧ (Cond.static yX11_spelt).before args s = true := va_cwS 7 hts (gi_S t1623 t1624 t18 t1625) rfl hrc hrs (by decide +kernel) hR
theorem dX11_wordOf_430 : decode cX11_wordOf 430 = .ok (.lreturn, 1) := by decide +kernel
set_option maxHeartbeats 4000000 in
set_option maxRecDepth 100000 in
theorem m_wordOf_19 (l : Launch) (dC : Nat → ClassId) (dI : Nat → Nat → Nat) (cy : Nat → ClassId)   : Met l yX11_wordOf (wl yX11_wordOf cX11_wordOf 1 (some .long)) ({ frames := 1, cells := 0, slots := 0, locals := 64 }) (Pr (dC, dI) vwCl cy [] [.int 19]) (Rl (fun r => ((r : Int64).toInt = 3215288))) 0 0 (fun _ => False) := by
  refine mr RX11 rfl (by decide +kernel) (Nat.le_of_ble_eq_true rfl) ?_
  intro p e s m below meth c hx hb hr hlocks av9 hav hts hown hml hK hP hS Q9 hQ9 ls hl
  have hl : lv_has ls 1 [(0, .int 19)] := hl
  refine lv_iload_n hx hb dX11_wordOf_0 rfl (lv_at hl 0 rfl) ?_
  refine lv_tableIn (off := 414) (tgt := 415) hx hb dX11_wordOf_1 (by decide) (by decide) (by decide) (by decide) ?_
  refine lv_bipush (v := 102) hx hb dX11_wordOf_415 (by decide) ?_
  refine lv_bipush (v := 97) hx hb dX11_wordOf_417 (by decide) ?_
  refine lv_bipush (v := 105) hx hb dX11_wordOf_419 (by decide) ?_
  refine lv_bipush (v := 110) hx hb dX11_wordOf_421 (by decide) ?_
  refine lv_bipush (v := 116) hx hb dX11_wordOf_423 (by decide) ?_
  refine lv_iconst (v := 0) hx hb dX11_wordOf_425 (by decide) ?_
  refine lv_iconst (v := 0) hx hb dX11_wordOf_426 (by decide) ?_
  refine jr_l (rSr (As := [.int 102, .int 97, .int 105, .int 110, .int 116, .int 0, .int 0]) (rest := []) ⟨hx, hb, hml, hown, hts⟩ (m_spelt_faint l dC dI cy  ) (cw_X11_58 hts rfl rfl ⟨Nat.le_of_ble_eq_true rfl, Nat.le_of_ble_eq_true rfl⟩) hP hK [] rfl rfl hl.1 rfl (Nat.le_of_ble_eq_true rfl) dX11_wordOf_427 ⟨Nat.le_of_ble_eq_true rfl, Nat.le_of_ble_eq_true rfl⟩) hP hS (fun r_1 H locs hp_2 hP hS => ?_)
  have hp_2 : ((r_1 : Int64).toInt = 3215288) := hp_2
  have q_3 := hp_2
  rw [hQ9]
  exact rr_l hx hb hr hlocks (show (r_1 : Int64).toInt = 3215288 from q_3) hS dX11_wordOf_430
theorem dX11_wordOf_509 : decode cX11_wordOf 509 = .ok (.bipush 119, 2) := by decide +kernel
theorem dX11_wordOf_511 : decode cX11_wordOf 511 = .ok (.bipush 104, 2) := by decide +kernel
theorem dX11_wordOf_513 : decode cX11_wordOf 513 = .ok (.bipush 105, 2) := by decide +kernel
theorem dX11_wordOf_515 : decode cX11_wordOf 515 = .ok (.bipush 116, 2) := by decide +kernel
theorem dX11_wordOf_517 : decode cX11_wordOf 517 = .ok (.bipush 101, 2) := by decide +kernel
theorem dX11_wordOf_519 : decode cX11_wordOf 519 = .ok (.iconst 0, 1) := by decide +kernel
theorem dX11_wordOf_520 : decode cX11_wordOf 520 = .ok (.iconst 0, 1) := by decide +kernel
theorem dX11_wordOf_521 : decode cX11_wordOf 521 = .ok (.invokestatic 58, 3) := by decide +kernel
theorem dX11_wordOf_524 : decode cX11_wordOf 524 = .ok (.lreturn, 1) := by decide +kernel
set_option maxHeartbeats 4000000 in
set_option maxRecDepth 100000 in
theorem m_wordOf_25 (l : Launch) (dC : Nat → ClassId) (dI : Nat → Nat → Nat) (cy : Nat → ClassId)   : Met l yX11_wordOf (wl yX11_wordOf cX11_wordOf 1 (some .long)) ({ frames := 1, cells := 0, slots := 0, locals := 64 }) (Pr (dC, dI) vwCl cy [] [.int 25]) (Rl (fun r => ((r : Int64).toInt = 12387713))) 0 0 (fun _ => False) := by
  refine mr RX11 rfl (by decide +kernel) (Nat.le_of_ble_eq_true rfl) ?_
  intro p e s m below meth c hx hb hr hlocks av9 hav hts hown hml hK hP hS Q9 hQ9 ls hl
  have hl : lv_has ls 1 [(0, .int 25)] := hl
  refine lv_iload_n hx hb dX11_wordOf_0 rfl (lv_at hl 0 rfl) ?_
  refine lv_tableIn (off := 508) (tgt := 509) hx hb dX11_wordOf_1 (by decide) (by decide) (by decide) (by decide) ?_
  refine lv_bipush (v := 119) hx hb dX11_wordOf_509 (by decide) ?_
  refine lv_bipush (v := 104) hx hb dX11_wordOf_511 (by decide) ?_
  refine lv_bipush (v := 105) hx hb dX11_wordOf_513 (by decide) ?_
  refine lv_bipush (v := 116) hx hb dX11_wordOf_515 (by decide) ?_
  refine lv_bipush (v := 101) hx hb dX11_wordOf_517 (by decide) ?_
  refine lv_iconst (v := 0) hx hb dX11_wordOf_519 (by decide) ?_
  refine lv_iconst (v := 0) hx hb dX11_wordOf_520 (by decide) ?_
  refine jr_l (rSr (As := [.int 119, .int 104, .int 105, .int 116, .int 101, .int 0, .int 0]) (rest := []) ⟨hx, hb, hml, hown, hts⟩ (m_spelt_white l dC dI cy  ) (cw_X11_58 hts rfl rfl ⟨Nat.le_of_ble_eq_true rfl, Nat.le_of_ble_eq_true rfl⟩) hP hK [] rfl rfl hl.1 rfl (Nat.le_of_ble_eq_true rfl) dX11_wordOf_521 ⟨Nat.le_of_ble_eq_true rfl, Nat.le_of_ble_eq_true rfl⟩) hP hS (fun r_1 H locs hp_2 hP hS => ?_)
  have hp_2 : ((r_1 : Int64).toInt = 12387713) := hp_2
  have q_3 := hp_2
  rw [hQ9]
  exact rr_l hx hb hr hlocks (show (r_1 : Int64).toInt = 12387713 from q_3) hS dX11_wordOf_524
theorem dX11_wordOf_525 : decode cX11_wordOf 525 = .ok (.bipush 100, 2) := by decide +kernel
theorem dX11_wordOf_527 : decode cX11_wordOf 527 = .ok (.bipush 97, 2) := by decide +kernel
theorem dX11_wordOf_529 : decode cX11_wordOf 529 = .ok (.bipush 114, 2) := by decide +kernel
theorem dX11_wordOf_531 : decode cX11_wordOf 531 = .ok (.bipush 107, 2) := by decide +kernel
theorem dX11_wordOf_533 : decode cX11_wordOf 533 = .ok (.iconst 0, 1) := by decide +kernel
theorem dX11_wordOf_534 : decode cX11_wordOf 534 = .ok (.iconst 0, 1) := by decide +kernel
theorem dX11_wordOf_535 : decode cX11_wordOf 535 = .ok (.iconst 0, 1) := by decide +kernel
theorem dX11_wordOf_536 : decode cX11_wordOf 536 = .ok (.invokestatic 58, 3) := by decide +kernel
theorem dX11_wordOf_539 : decode cX11_wordOf 539 = .ok (.lreturn, 1) := by decide +kernel
set_option maxHeartbeats 4000000 in
set_option maxRecDepth 100000 in
theorem m_wordOf_26 (l : Launch) (dC : Nat → ClassId) (dI : Nat → Nat → Nat) (cy : Nat → ClassId)   : Met l yX11_wordOf (wl yX11_wordOf cX11_wordOf 1 (some .long)) ({ frames := 1, cells := 0, slots := 0, locals := 64 }) (Pr (dC, dI) vwCl cy [] [.int 26]) (Rl (fun r => ((r : Int64).toInt = 79958))) 0 0 (fun _ => False) := by
  refine mr RX11 rfl (by decide +kernel) (Nat.le_of_ble_eq_true rfl) ?_
  intro p e s m below meth c hx hb hr hlocks av9 hav hts hown hml hK hP hS Q9 hQ9 ls hl
  have hl : lv_has ls 1 [(0, .int 26)] := hl
  refine lv_iload_n hx hb dX11_wordOf_0 rfl (lv_at hl 0 rfl) ?_
  refine lv_tableIn (off := 524) (tgt := 525) hx hb dX11_wordOf_1 (by decide) (by decide) (by decide) (by decide) ?_
  refine lv_bipush (v := 100) hx hb dX11_wordOf_525 (by decide) ?_
  refine lv_bipush (v := 97) hx hb dX11_wordOf_527 (by decide) ?_
  refine lv_bipush (v := 114) hx hb dX11_wordOf_529 (by decide) ?_
  refine lv_bipush (v := 107) hx hb dX11_wordOf_531 (by decide) ?_
  refine lv_iconst (v := 0) hx hb dX11_wordOf_533 (by decide) ?_
  refine lv_iconst (v := 0) hx hb dX11_wordOf_534 (by decide) ?_
  refine lv_iconst (v := 0) hx hb dX11_wordOf_535 (by decide) ?_
  refine jr_l (rSr (As := [.int 100, .int 97, .int 114, .int 107, .int 0, .int 0, .int 0]) (rest := []) ⟨hx, hb, hml, hown, hts⟩ (m_spelt_dark l dC dI cy  ) (cw_X11_58 hts rfl rfl ⟨Nat.le_of_ble_eq_true rfl, Nat.le_of_ble_eq_true rfl⟩) hP hK [] rfl rfl hl.1 rfl (Nat.le_of_ble_eq_true rfl) dX11_wordOf_536 ⟨Nat.le_of_ble_eq_true rfl, Nat.le_of_ble_eq_true rfl⟩) hP hS (fun r_1 H locs hp_2 hP hS => ?_)
  have hp_2 : ((r_1 : Int64).toInt = 79958) := hp_2
  have q_3 := hp_2
  rw [hQ9]
  exact rr_l hx hb hr hlocks (show (r_1 : Int64).toInt = 79958 from q_3) hS dX11_wordOf_539
theorem dX11_spelt_104 : decode cX11_spelt 104 = .ok (.ldc2_w 54, 3) := by decide +kernel
theorem dX11_spelt_107 : decode cX11_spelt 107 = .ok (.lload 7, 2) := by decide +kernel
theorem dX11_spelt_109 : decode cX11_spelt 109 = .ok (.lmul, 1) := by decide +kernel
theorem dX11_spelt_110 : decode cX11_spelt 110 = .ok (.iload 6, 2) := by decide +kernel
theorem dX11_spelt_112 : decode cX11_spelt 112 = .ok (.i2l, 1) := by decide +kernel
theorem dX11_spelt_113 : decode cX11_spelt 113 = .ok (.ladd, 1) := by decide +kernel
theorem dX11_spelt_114 : decode cX11_spelt 114 = .ok (.ldc2_w 56, 3) := by decide +kernel
theorem dX11_spelt_117 : decode cX11_spelt 117 = .ok (.lsub, 1) := by decide +kernel
theorem dX11_spelt_118 : decode cX11_spelt 118 = .ok (.lstore 7, 2) := by decide +kernel
theorem dX11_spelt_83 : decode cX11_spelt 83 = .ok (.ldc2_w 54, 3) := by decide +kernel
theorem dX11_spelt_86 : decode cX11_spelt 86 = .ok (.lload 7, 2) := by decide +kernel
theorem dX11_spelt_88 : decode cX11_spelt 88 = .ok (.lmul, 1) := by decide +kernel
theorem dX11_spelt_89 : decode cX11_spelt 89 = .ok (.iload 5, 2) := by decide +kernel
theorem dX11_spelt_91 : decode cX11_spelt 91 = .ok (.i2l, 1) := by decide +kernel
theorem dX11_spelt_92 : decode cX11_spelt 92 = .ok (.ladd, 1) := by decide +kernel
theorem dX11_spelt_93 : decode cX11_spelt 93 = .ok (.ldc2_w 56, 3) := by decide +kernel
theorem dX11_spelt_96 : decode cX11_spelt 96 = .ok (.lsub, 1) := by decide +kernel
theorem dX11_spelt_97 : decode cX11_spelt 97 = .ok (.lstore 7, 2) := by decide +kernel
set_option maxHeartbeats 4000000 in
set_option maxRecDepth 100000 in
theorem m_spelt (l : Launch) (dC : Nat → ClassId) (dI : Nat → Nat → Nat) (cy : Nat → ClassId) (va : Int32) (vb : Int32) (vc1 : Int32) (vd : Int32) (ve1 : Int32) (vf : Int32) (vg : Int32)  : Met l yX11_spelt (wl yX11_spelt cX11_spelt 9 (some .long)) ({ frames := 0, cells := 0, slots := 0, locals := 0 }) (Pr (dC, dI) vwCl cy [] [.int va, .int vb, .int vc1, .int vd, .int ve1, .int vf, .int vg]) (Rl (fun r => True)) 0 0 (fun _ => False) := by
  refine mr RX11 rfl (by decide +kernel) (Nat.le_of_ble_eq_true rfl) ?_
  intro p e s m below meth c hx hb hr hlocks av9 hav hts hown hml hK hP hS Q9 hQ9 ls hl
  have hl : lv_has ls 9 [(0, .int va), (1, .int vb), (2, .int vc1), (3, .int vd), (4, .int ve1), (5, .int vf), (6, .int vg)] := hl
  refine lv_ldc2 hx hb hown (hts _ t1610) dX11_spelt_0 ?_
  refine lv_iload_n hx hb dX11_spelt_3 rfl (lv_at hl 0 rfl) ?_
  refine lv_i2l hx hb dX11_spelt_4 rfl ?_
  refine lv_topl (fun y_1 ey_1 => ?_)
  refine lv_ldc2 hx hb hown (hts _ t1611) dX11_spelt_5 ?_
  refine lv_lsub hx hb dX11_spelt_8 ?_
  refine lv_topl (fun y_2 ey_2 => ?_)
  refine lv_lmul hx hb dX11_spelt_9 ?_
  refine lv_topl (fun y_3 ey_3 => ?_)
  refine lv_iload_n hx hb dX11_spelt_10 rfl (lv_at hl 1 rfl) ?_
  refine lv_i2l hx hb dX11_spelt_11 rfl ?_
  refine lv_topl (fun y_4 ey_4 => ?_)
  refine lv_ladd hx hb dX11_spelt_12 ?_
  refine lv_topl (fun y_5 ey_5 => ?_)
  refine lv_ldc2 hx hb hown (hts _ t1611) dX11_spelt_13 ?_
  refine lv_lsub hx hb dX11_spelt_16 ?_
  refine lv_topl (fun y_6 ey_6 => ?_)
  refine lv_lstore (lv' := [(7, .long y_6), (0, .int va), (1, .int vb), (2, .int vc1), (3, .int vd), (4, .int ve1), (5, .int vf), (6, .int vg)]) hx hb dX11_spelt_17 hl (by decide) rfl (fun ls hl => ?_)
  have join7 : ∀ (y_8 : Int64), ∀ (H : Heap) (locs : List Loc), va_P (dC, dI) vwCl [] H → va_S (fun _ => False) s.heap H locs → ∀ ls : Array Slot, lv_has ls 9 [(7, .long y_8), (0, .int va), (1, .int vb), (2, .int vc1), (3, .int vd), (4, .int ve1), (5, .int vf), (6, .int vg)] → W p l e ({ frames := 0, cells := 0, slots := 0, locals := 0 }) s m av9 below meth c H locs 0 0 Q9 (F0 m 38 ls []) := by
    intro y_8 H locs hP hS ls hl
    have join9 : ∀ (y_10 : Int64), ∀ (H : Heap) (locs : List Loc), va_P (dC, dI) vwCl [] H → va_S (fun _ => False) s.heap H locs → ∀ ls : Array Slot, lv_has ls 9 [(7, .long y_10), (0, .int va), (1, .int vb), (2, .int vc1), (3, .int vd), (4, .int ve1), (5, .int vf), (6, .int vg)] → W p l e ({ frames := 0, cells := 0, slots := 0, locals := 0 }) s m av9 below meth c H locs 0 0 Q9 (F0 m 57 ls []) := by
      intro y_10 H locs hP hS ls hl
      have join11 : ∀ (y_12 : Int64), ∀ (H : Heap) (locs : List Loc), va_P (dC, dI) vwCl [] H → va_S (fun _ => False) s.heap H locs → ∀ ls : Array Slot, lv_has ls 9 [(7, .long y_12), (0, .int va), (1, .int vb), (2, .int vc1), (3, .int vd), (4, .int ve1), (5, .int vf), (6, .int vg)] → W p l e ({ frames := 0, cells := 0, slots := 0, locals := 0 }) s m av9 below meth c H locs 0 0 Q9 (F0 m 78 ls []) := by
        intro y_12 H locs hP hS ls hl
        have join13 : ∀ (y_14 : Int64), ∀ (H : Heap) (locs : List Loc), va_P (dC, dI) vwCl [] H → va_S (fun _ => False) s.heap H locs → ∀ ls : Array Slot, lv_has ls 9 [(7, .long y_14), (0, .int va), (1, .int vb), (2, .int vc1), (3, .int vd), (4, .int ve1), (5, .int vf), (6, .int vg)] → W p l e ({ frames := 0, cells := 0, slots := 0, locals := 0 }) s m av9 below meth c H locs 0 0 Q9 (F0 m 99 ls []) := by
          intro y_14 H locs hP hS ls hl
          have join15 : ∀ (y_16 : Int64), ∀ (H : Heap) (locs : List Loc), va_P (dC, dI) vwCl [] H → va_S (fun _ => False) s.heap H locs → ∀ ls : Array Slot, lv_has ls 9 [(7, .long y_16), (0, .int va), (1, .int vb), (2, .int vc1), (3, .int vd), (4, .int ve1), (5, .int vf), (6, .int vg)] → W p l e ({ frames := 0, cells := 0, slots := 0, locals := 0 }) s m av9 below meth c H locs 0 0 Q9 (F0 m 120 ls []) := by
            intro y_16 H locs hP hS ls hl
            refine lv_lload hx hb dX11_spelt_120 (lv_at hl 0 rfl) ?_
            rw [hQ9]
            exact rr_l hx hb hr hlocks trivial hS dX11_spelt_122
          refine lv_iload hx hb dX11_spelt_99 (lv_at hl 7 rfl) ?_
          have k_0 : (0 : Int32).toInt = 0 := by decide
          refine lv_if_le (tgt := 120) hx hb dX11_spelt_101 (by decide) (fun c_17 => ?_) (fun c_17 => ?_)
          · skip
            have c_17 : vg.toInt ≤ (0 : Int32).toInt := i_le.mp c_17
            exact join15 y_14 _ _ (hP.sub [] rfl) hS ls (lv_sub hl [0, 1, 2, 3, 4, 5, 6, 7] rfl)
          · skip
            have c_17 : ¬ (vg.toInt ≤ (0 : Int32).toInt) := fun h9 => c_17 (i_le.mpr h9)
            refine lv_ldc2 hx hb hown (hts _ t1610) dX11_spelt_104 ?_
            refine lv_lload hx hb dX11_spelt_107 (lv_at hl 0 rfl) ?_
            refine lv_lmul hx hb dX11_spelt_109 ?_
            refine lv_topl (fun y_18 ey_18 => ?_)
            refine lv_iload hx hb dX11_spelt_110 (lv_at hl 7 rfl) ?_
            refine lv_i2l hx hb dX11_spelt_112 rfl ?_
            refine lv_topl (fun y_19 ey_19 => ?_)
            refine lv_ladd hx hb dX11_spelt_113 ?_
            refine lv_topl (fun y_20 ey_20 => ?_)
            refine lv_ldc2 hx hb hown (hts _ t1611) dX11_spelt_114 ?_
            refine lv_lsub hx hb dX11_spelt_117 ?_
            refine lv_topl (fun y_21 ey_21 => ?_)
            refine lv_lstore (lv' := [(7, .long y_21), (0, .int va), (1, .int vb), (2, .int vc1), (3, .int vd), (4, .int ve1), (5, .int vf), (6, .int vg)]) hx hb dX11_spelt_118 hl (by decide) rfl (fun ls hl => ?_)
            exact join15 y_21 _ _ (hP.sub [] rfl) hS ls (lv_sub hl [0, 1, 2, 3, 4, 5, 6, 7] rfl)
        refine lv_iload hx hb dX11_spelt_78 (lv_at hl 6 rfl) ?_
        have k_0 : (0 : Int32).toInt = 0 := by decide
        refine lv_if_le (tgt := 99) hx hb dX11_spelt_80 (by decide) (fun c_22 => ?_) (fun c_22 => ?_)
        · skip
          have c_22 : vf.toInt ≤ (0 : Int32).toInt := i_le.mp c_22
          exact join13 y_12 _ _ (hP.sub [] rfl) hS ls (lv_sub hl [0, 1, 2, 3, 4, 5, 6, 7] rfl)
        · skip
          have c_22 : ¬ (vf.toInt ≤ (0 : Int32).toInt) := fun h9 => c_22 (i_le.mpr h9)
          refine lv_ldc2 hx hb hown (hts _ t1610) dX11_spelt_83 ?_
          refine lv_lload hx hb dX11_spelt_86 (lv_at hl 0 rfl) ?_
          refine lv_lmul hx hb dX11_spelt_88 ?_
          refine lv_topl (fun y_23 ey_23 => ?_)
          refine lv_iload hx hb dX11_spelt_89 (lv_at hl 6 rfl) ?_
          refine lv_i2l hx hb dX11_spelt_91 rfl ?_
          refine lv_topl (fun y_24 ey_24 => ?_)
          refine lv_ladd hx hb dX11_spelt_92 ?_
          refine lv_topl (fun y_25 ey_25 => ?_)
          refine lv_ldc2 hx hb hown (hts _ t1611) dX11_spelt_93 ?_
          refine lv_lsub hx hb dX11_spelt_96 ?_
          refine lv_topl (fun y_26 ey_26 => ?_)
          refine lv_lstore (lv' := [(7, .long y_26), (0, .int va), (1, .int vb), (2, .int vc1), (3, .int vd), (4, .int ve1), (5, .int vf), (6, .int vg)]) hx hb dX11_spelt_97 hl (by decide) rfl (fun ls hl => ?_)
          exact join13 y_26 _ _ (hP.sub [] rfl) hS ls (lv_sub hl [0, 1, 2, 3, 4, 5, 6, 7] rfl)
      refine lv_iload hx hb dX11_spelt_57 (lv_at hl 5 rfl) ?_
      have k_0 : (0 : Int32).toInt = 0 := by decide
      refine lv_if_le (tgt := 78) hx hb dX11_spelt_59 (by decide) (fun c_27 => ?_) (fun c_27 => ?_)
      · skip
        have c_27 : ve1.toInt ≤ (0 : Int32).toInt := i_le.mp c_27
        exact join11 y_10 _ _ (hP.sub [] rfl) hS ls (lv_sub hl [0, 1, 2, 3, 4, 5, 6, 7] rfl)
      · skip
        have c_27 : ¬ (ve1.toInt ≤ (0 : Int32).toInt) := fun h9 => c_27 (i_le.mpr h9)
        refine lv_ldc2 hx hb hown (hts _ t1610) dX11_spelt_62 ?_
        refine lv_lload hx hb dX11_spelt_65 (lv_at hl 0 rfl) ?_
        refine lv_lmul hx hb dX11_spelt_67 ?_
        refine lv_topl (fun y_28 ey_28 => ?_)
        refine lv_iload hx hb dX11_spelt_68 (lv_at hl 5 rfl) ?_
        refine lv_i2l hx hb dX11_spelt_70 rfl ?_
        refine lv_topl (fun y_29 ey_29 => ?_)
        refine lv_ladd hx hb dX11_spelt_71 ?_
        refine lv_topl (fun y_30 ey_30 => ?_)
        refine lv_ldc2 hx hb hown (hts _ t1611) dX11_spelt_72 ?_
        refine lv_lsub hx hb dX11_spelt_75 ?_
        refine lv_topl (fun y_31 ey_31 => ?_)
        refine lv_lstore (lv' := [(7, .long y_31), (0, .int va), (1, .int vb), (2, .int vc1), (3, .int vd), (4, .int ve1), (5, .int vf), (6, .int vg)]) hx hb dX11_spelt_76 hl (by decide) rfl (fun ls hl => ?_)
        exact join11 y_31 _ _ (hP.sub [] rfl) hS ls (lv_sub hl [0, 1, 2, 3, 4, 5, 6, 7] rfl)
    refine lv_iload_n hx hb dX11_spelt_38 rfl (lv_at hl 4 rfl) ?_
    have k_0 : (0 : Int32).toInt = 0 := by decide
    refine lv_if_le (tgt := 57) hx hb dX11_spelt_39 (by decide) (fun c_32 => ?_) (fun c_32 => ?_)
    · skip
      have c_32 : vd.toInt ≤ (0 : Int32).toInt := i_le.mp c_32
      exact join9 y_8 _ _ (hP.sub [] rfl) hS ls (lv_sub hl [0, 1, 2, 3, 4, 5, 6, 7] rfl)
    · skip
      have c_32 : ¬ (vd.toInt ≤ (0 : Int32).toInt) := fun h9 => c_32 (i_le.mpr h9)
      refine lv_ldc2 hx hb hown (hts _ t1610) dX11_spelt_42 ?_
      refine lv_lload hx hb dX11_spelt_45 (lv_at hl 0 rfl) ?_
      refine lv_lmul hx hb dX11_spelt_47 ?_
      refine lv_topl (fun y_33 ey_33 => ?_)
      refine lv_iload_n hx hb dX11_spelt_48 rfl (lv_at hl 4 rfl) ?_
      refine lv_i2l hx hb dX11_spelt_49 rfl ?_
      refine lv_topl (fun y_34 ey_34 => ?_)
      refine lv_ladd hx hb dX11_spelt_50 ?_
      refine lv_topl (fun y_35 ey_35 => ?_)
      refine lv_ldc2 hx hb hown (hts _ t1611) dX11_spelt_51 ?_
      refine lv_lsub hx hb dX11_spelt_54 ?_
      refine lv_topl (fun y_36 ey_36 => ?_)
      refine lv_lstore (lv' := [(7, .long y_36), (0, .int va), (1, .int vb), (2, .int vc1), (3, .int vd), (4, .int ve1), (5, .int vf), (6, .int vg)]) hx hb dX11_spelt_55 hl (by decide) rfl (fun ls hl => ?_)
      exact join9 y_36 _ _ (hP.sub [] rfl) hS ls (lv_sub hl [0, 1, 2, 3, 4, 5, 6, 7] rfl)
  refine lv_iload_n hx hb dX11_spelt_19 rfl (lv_at hl 3 rfl) ?_
  have k_0 : (0 : Int32).toInt = 0 := by decide
  refine lv_if_le (tgt := 38) hx hb dX11_spelt_20 (by decide) (fun c_37 => ?_) (fun c_37 => ?_)
  · skip
    have c_37 : vc1.toInt ≤ (0 : Int32).toInt := i_le.mp c_37
    exact join7 y_6 _ _ (hP.sub [] rfl) hS ls (lv_sub hl [0, 1, 2, 3, 4, 5, 6, 7] rfl)
  · skip
    have c_37 : ¬ (vc1.toInt ≤ (0 : Int32).toInt) := fun h9 => c_37 (i_le.mpr h9)
    refine lv_ldc2 hx hb hown (hts _ t1610) dX11_spelt_23 ?_
    refine lv_lload hx hb dX11_spelt_26 (lv_at hl 0 rfl) ?_
    refine lv_lmul hx hb dX11_spelt_28 ?_
    refine lv_topl (fun y_38 ey_38 => ?_)
    refine lv_iload_n hx hb dX11_spelt_29 rfl (lv_at hl 3 rfl) ?_
    refine lv_i2l hx hb dX11_spelt_30 rfl ?_
    refine lv_topl (fun y_39 ey_39 => ?_)
    refine lv_ladd hx hb dX11_spelt_31 ?_
    refine lv_topl (fun y_40 ey_40 => ?_)
    refine lv_ldc2 hx hb hown (hts _ t1611) dX11_spelt_32 ?_
    refine lv_lsub hx hb dX11_spelt_35 ?_
    refine lv_topl (fun y_41 ey_41 => ?_)
    refine lv_lstore (lv' := [(7, .long y_41), (0, .int va), (1, .int vb), (2, .int vc1), (3, .int vd), (4, .int ve1), (5, .int vf), (6, .int vg)]) hx hb dX11_spelt_36 hl (by decide) rfl (fun ls hl => ?_)
    exact join7 y_41 _ _ (hP.sub [] rfl) hS ls (lv_sub hl [0, 1, 2, 3, 4, 5, 6, 7] rfl)
theorem dX11_wordOf_128 : decode cX11_wordOf 128 = .ok (.bipush 109, 2) := by decide +kernel
theorem dX11_wordOf_130 : decode cX11_wordOf 130 = .ok (.bipush 97, 2) := by decide +kernel
theorem dX11_wordOf_132 : decode cX11_wordOf 132 = .ok (.bipush 110, 2) := by decide +kernel
theorem dX11_wordOf_134 : decode cX11_wordOf 134 = .ok (.iconst 0, 1) := by decide +kernel
theorem dX11_wordOf_135 : decode cX11_wordOf 135 = .ok (.iconst 0, 1) := by decide +kernel
theorem dX11_wordOf_136 : decode cX11_wordOf 136 = .ok (.iconst 0, 1) := by decide +kernel
theorem dX11_wordOf_137 : decode cX11_wordOf 137 = .ok (.iconst 0, 1) := by decide +kernel
theorem dX11_wordOf_138 : decode cX11_wordOf 138 = .ok (.invokestatic 58, 3) := by decide +kernel
theorem dX11_wordOf_141 : decode cX11_wordOf 141 = .ok (.lreturn, 1) := by decide +kernel
theorem dX11_wordOf_142 : decode cX11_wordOf 142 = .ok (.bipush 100, 2) := by decide +kernel
theorem dX11_wordOf_144 : decode cX11_wordOf 144 = .ok (.bipush 101, 2) := by decide +kernel
theorem dX11_wordOf_146 : decode cX11_wordOf 146 = .ok (.bipush 101, 2) := by decide +kernel
theorem dX11_wordOf_148 : decode cX11_wordOf 148 = .ok (.bipush 100, 2) := by decide +kernel
theorem dX11_wordOf_150 : decode cX11_wordOf 150 = .ok (.iconst 0, 1) := by decide +kernel
theorem dX11_wordOf_151 : decode cX11_wordOf 151 = .ok (.iconst 0, 1) := by decide +kernel
theorem dX11_wordOf_152 : decode cX11_wordOf 152 = .ok (.iconst 0, 1) := by decide +kernel
theorem dX11_wordOf_153 : decode cX11_wordOf 153 = .ok (.invokestatic 58, 3) := by decide +kernel
theorem dX11_wordOf_156 : decode cX11_wordOf 156 = .ok (.lreturn, 1) := by decide +kernel
theorem dX11_wordOf_157 : decode cX11_wordOf 157 = .ok (.bipush 103, 2) := by decide +kernel
theorem dX11_wordOf_159 : decode cX11_wordOf 159 = .ok (.bipush 111, 2) := by decide +kernel
theorem dX11_wordOf_161 : decode cX11_wordOf 161 = .ok (.bipush 111, 2) := by decide +kernel
theorem dX11_wordOf_163 : decode cX11_wordOf 163 = .ok (.bipush 100, 2) := by decide +kernel
theorem dX11_wordOf_165 : decode cX11_wordOf 165 = .ok (.iconst 0, 1) := by decide +kernel
theorem dX11_wordOf_166 : decode cX11_wordOf 166 = .ok (.iconst 0, 1) := by decide +kernel
theorem dX11_wordOf_167 : decode cX11_wordOf 167 = .ok (.iconst 0, 1) := by decide +kernel
theorem dX11_wordOf_168 : decode cX11_wordOf 168 = .ok (.invokestatic 58, 3) := by decide +kernel
theorem dX11_wordOf_171 : decode cX11_wordOf 171 = .ok (.lreturn, 1) := by decide +kernel
theorem dX11_wordOf_172 : decode cX11_wordOf 172 = .ok (.bipush 99, 2) := by decide +kernel
theorem dX11_wordOf_174 : decode cX11_wordOf 174 = .ok (.bipush 114, 2) := by decide +kernel
theorem dX11_wordOf_176 : decode cX11_wordOf 176 = .ok (.bipush 105, 2) := by decide +kernel
theorem dX11_wordOf_178 : decode cX11_wordOf 178 = .ok (.bipush 109, 2) := by decide +kernel
theorem dX11_wordOf_180 : decode cX11_wordOf 180 = .ok (.bipush 101, 2) := by decide +kernel
theorem dX11_wordOf_182 : decode cX11_wordOf 182 = .ok (.iconst 0, 1) := by decide +kernel
theorem dX11_wordOf_183 : decode cX11_wordOf 183 = .ok (.iconst 0, 1) := by decide +kernel
theorem dX11_wordOf_184 : decode cX11_wordOf 184 = .ok (.invokestatic 58, 3) := by decide +kernel
theorem dX11_wordOf_187 : decode cX11_wordOf 187 = .ok (.lreturn, 1) := by decide +kernel
theorem dX11_wordOf_188 : decode cX11_wordOf 188 = .ok (.bipush 100, 2) := by decide +kernel
theorem dX11_wordOf_190 : decode cX11_wordOf 190 = .ok (.bipush 105, 2) := by decide +kernel
theorem dX11_wordOf_192 : decode cX11_wordOf 192 = .ok (.bipush 100, 2) := by decide +kernel
theorem dX11_wordOf_194 : decode cX11_wordOf 194 = .ok (.iconst 0, 1) := by decide +kernel
theorem dX11_wordOf_195 : decode cX11_wordOf 195 = .ok (.iconst 0, 1) := by decide +kernel
theorem dX11_wordOf_196 : decode cX11_wordOf 196 = .ok (.iconst 0, 1) := by decide +kernel
theorem dX11_wordOf_197 : decode cX11_wordOf 197 = .ok (.iconst 0, 1) := by decide +kernel
theorem dX11_wordOf_198 : decode cX11_wordOf 198 = .ok (.invokestatic 58, 3) := by decide +kernel
theorem dX11_wordOf_201 : decode cX11_wordOf 201 = .ok (.lreturn, 1) := by decide +kernel
theorem dX11_wordOf_202 : decode cX11_wordOf 202 = .ok (.bipush 107, 2) := by decide +kernel
theorem dX11_wordOf_204 : decode cX11_wordOf 204 = .ok (.bipush 105, 2) := by decide +kernel
theorem dX11_wordOf_206 : decode cX11_wordOf 206 = .ok (.bipush 110, 2) := by decide +kernel
theorem dX11_wordOf_208 : decode cX11_wordOf 208 = .ok (.iconst 0, 1) := by decide +kernel
theorem dX11_wordOf_209 : decode cX11_wordOf 209 = .ok (.iconst 0, 1) := by decide +kernel
theorem dX11_wordOf_210 : decode cX11_wordOf 210 = .ok (.iconst 0, 1) := by decide +kernel
theorem dX11_wordOf_211 : decode cX11_wordOf 211 = .ok (.iconst 0, 1) := by decide +kernel
theorem dX11_wordOf_212 : decode cX11_wordOf 212 = .ok (.invokestatic 58, 3) := by decide +kernel
theorem dX11_wordOf_215 : decode cX11_wordOf 215 = .ok (.lreturn, 1) := by decide +kernel
theorem dX11_wordOf_216 : decode cX11_wordOf 216 = .ok (.bipush 111, 2) := by decide +kernel
theorem dX11_wordOf_218 : decode cX11_wordOf 218 = .ok (.bipush 119, 2) := by decide +kernel
theorem dX11_wordOf_220 : decode cX11_wordOf 220 = .ok (.bipush 101, 2) := by decide +kernel
theorem dX11_wordOf_222 : decode cX11_wordOf 222 = .ok (.bipush 115, 2) := by decide +kernel
theorem dX11_wordOf_224 : decode cX11_wordOf 224 = .ok (.iconst 0, 1) := by decide +kernel
theorem dX11_wordOf_225 : decode cX11_wordOf 225 = .ok (.iconst 0, 1) := by decide +kernel
theorem dX11_wordOf_226 : decode cX11_wordOf 226 = .ok (.iconst 0, 1) := by decide +kernel
theorem dX11_wordOf_227 : decode cX11_wordOf 227 = .ok (.invokestatic 58, 3) := by decide +kernel
theorem dX11_wordOf_230 : decode cX11_wordOf 230 = .ok (.lreturn, 1) := by decide +kernel
theorem dX11_wordOf_231 : decode cX11_wordOf 231 = .ok (.bipush 112, 2) := by decide +kernel
theorem dX11_wordOf_233 : decode cX11_wordOf 233 = .ok (.bipush 108, 2) := by decide +kernel
theorem dX11_wordOf_235 : decode cX11_wordOf 235 = .ok (.bipush 97, 2) := by decide +kernel
theorem dX11_wordOf_237 : decode cX11_wordOf 237 = .ok (.bipush 116, 2) := by decide +kernel
theorem dX11_wordOf_239 : decode cX11_wordOf 239 = .ok (.bipush 101, 2) := by decide +kernel
theorem dX11_wordOf_241 : decode cX11_wordOf 241 = .ok (.iconst 0, 1) := by decide +kernel
theorem dX11_wordOf_242 : decode cX11_wordOf 242 = .ok (.iconst 0, 1) := by decide +kernel
theorem dX11_wordOf_243 : decode cX11_wordOf 243 = .ok (.invokestatic 58, 3) := by decide +kernel
theorem dX11_wordOf_246 : decode cX11_wordOf 246 = .ok (.lreturn, 1) := by decide +kernel
theorem dX11_wordOf_247 : decode cX11_wordOf 247 = .ok (.bipush 100, 2) := by decide +kernel
theorem dX11_wordOf_249 : decode cX11_wordOf 249 = .ok (.bipush 111, 2) := by decide +kernel
theorem dX11_wordOf_251 : decode cX11_wordOf 251 = .ok (.bipush 101, 2) := by decide +kernel
theorem dX11_wordOf_253 : decode cX11_wordOf 253 = .ok (.bipush 115, 2) := by decide +kernel
theorem dX11_wordOf_255 : decode cX11_wordOf 255 = .ok (.iconst 0, 1) := by decide +kernel
theorem dX11_wordOf_256 : decode cX11_wordOf 256 = .ok (.iconst 0, 1) := by decide +kernel
theorem dX11_wordOf_257 : decode cX11_wordOf 257 = .ok (.iconst 0, 1) := by decide +kernel
theorem dX11_wordOf_258 : decode cX11_wordOf 258 = .ok (.invokestatic 58, 3) := by decide +kernel
theorem dX11_wordOf_261 : decode cX11_wordOf 261 = .ok (.lreturn, 1) := by decide +kernel
theorem dX11_wordOf_262 : decode cX11_wordOf 262 = .ok (.bipush 108, 2) := by decide +kernel
theorem dX11_wordOf_264 : decode cX11_wordOf 264 = .ok (.bipush 101, 2) := by decide +kernel
theorem dX11_wordOf_266 : decode cX11_wordOf 266 = .ok (.bipush 110, 2) := by decide +kernel
theorem dX11_wordOf_268 : decode cX11_wordOf 268 = .ok (.bipush 100, 2) := by decide +kernel
theorem dX11_wordOf_270 : decode cX11_wordOf 270 = .ok (.bipush 115, 2) := by decide +kernel
theorem dX11_wordOf_272 : decode cX11_wordOf 272 = .ok (.iconst 0, 1) := by decide +kernel
theorem dX11_wordOf_273 : decode cX11_wordOf 273 = .ok (.iconst 0, 1) := by decide +kernel
theorem dX11_wordOf_274 : decode cX11_wordOf 274 = .ok (.invokestatic 58, 3) := by decide +kernel
theorem dX11_wordOf_277 : decode cX11_wordOf 277 = .ok (.lreturn, 1) := by decide +kernel
theorem dX11_wordOf_278 : decode cX11_wordOf 278 = .ok (.bipush 114, 2) := by decide +kernel
theorem dX11_wordOf_280 : decode cX11_wordOf 280 = .ok (.bipush 101, 2) := by decide +kernel
theorem dX11_wordOf_282 : decode cX11_wordOf 282 = .ok (.bipush 116, 2) := by decide +kernel
theorem dX11_wordOf_284 : decode cX11_wordOf 284 = .ok (.bipush 117, 2) := by decide +kernel
theorem dX11_wordOf_286 : decode cX11_wordOf 286 = .ok (.bipush 114, 2) := by decide +kernel
theorem dX11_wordOf_288 : decode cX11_wordOf 288 = .ok (.bipush 110, 2) := by decide +kernel
theorem dX11_wordOf_290 : decode cX11_wordOf 290 = .ok (.bipush 115, 2) := by decide +kernel
theorem dX11_wordOf_292 : decode cX11_wordOf 292 = .ok (.invokestatic 58, 3) := by decide +kernel
theorem dX11_wordOf_295 : decode cX11_wordOf 295 = .ok (.lreturn, 1) := by decide +kernel
theorem dX11_wordOf_296 : decode cX11_wordOf 296 = .ok (.bipush 98, 2) := by decide +kernel
theorem dX11_wordOf_298 : decode cX11_wordOf 298 = .ok (.bipush 111, 2) := by decide +kernel
theorem dX11_wordOf_300 : decode cX11_wordOf 300 = .ok (.bipush 114, 2) := by decide +kernel
theorem dX11_wordOf_302 : decode cX11_wordOf 302 = .ok (.bipush 114, 2) := by decide +kernel
theorem dX11_wordOf_304 : decode cX11_wordOf 304 = .ok (.bipush 111, 2) := by decide +kernel
theorem dX11_wordOf_306 : decode cX11_wordOf 306 = .ok (.bipush 119, 2) := by decide +kernel
theorem dX11_wordOf_308 : decode cX11_wordOf 308 = .ok (.bipush 115, 2) := by decide +kernel
theorem dX11_wordOf_310 : decode cX11_wordOf 310 = .ok (.invokestatic 58, 3) := by decide +kernel
theorem dX11_wordOf_313 : decode cX11_wordOf 313 = .ok (.lreturn, 1) := by decide +kernel
theorem dX11_wordOf_314 : decode cX11_wordOf 314 = .ok (.bipush 112, 2) := by decide +kernel
theorem dX11_wordOf_316 : decode cX11_wordOf 316 = .ok (.bipush 97, 2) := by decide +kernel
theorem dX11_wordOf_318 : decode cX11_wordOf 318 = .ok (.bipush 121, 2) := by decide +kernel
theorem dX11_wordOf_320 : decode cX11_wordOf 320 = .ok (.bipush 115, 2) := by decide +kernel
theorem dX11_wordOf_322 : decode cX11_wordOf 322 = .ok (.iconst 0, 1) := by decide +kernel
theorem dX11_wordOf_323 : decode cX11_wordOf 323 = .ok (.iconst 0, 1) := by decide +kernel
theorem dX11_wordOf_324 : decode cX11_wordOf 324 = .ok (.iconst 0, 1) := by decide +kernel
theorem dX11_wordOf_325 : decode cX11_wordOf 325 = .ok (.invokestatic 58, 3) := by decide +kernel
theorem dX11_wordOf_328 : decode cX11_wordOf 328 = .ok (.lreturn, 1) := by decide +kernel
theorem dX11_wordOf_329 : decode cX11_wordOf 329 = .ok (.bipush 115, 2) := by decide +kernel
theorem dX11_wordOf_331 : decode cX11_wordOf 331 = .ok (.bipush 105, 2) := by decide +kernel
theorem dX11_wordOf_333 : decode cX11_wordOf 333 = .ok (.bipush 116, 2) := by decide +kernel
theorem dX11_wordOf_335 : decode cX11_wordOf 335 = .ok (.bipush 115, 2) := by decide +kernel
theorem dX11_wordOf_337 : decode cX11_wordOf 337 = .ok (.iconst 0, 1) := by decide +kernel
theorem dX11_wordOf_338 : decode cX11_wordOf 338 = .ok (.iconst 0, 1) := by decide +kernel
theorem dX11_wordOf_339 : decode cX11_wordOf 339 = .ok (.iconst 0, 1) := by decide +kernel
theorem dX11_wordOf_340 : decode cX11_wordOf 340 = .ok (.invokestatic 58, 3) := by decide +kernel
theorem dX11_wordOf_343 : decode cX11_wordOf 343 = .ok (.lreturn, 1) := by decide +kernel
theorem dX11_wordOf_344 : decode cX11_wordOf 344 = .ok (.bipush 121, 2) := by decide +kernel
theorem dX11_wordOf_346 : decode cX11_wordOf 346 = .ok (.bipush 101, 2) := by decide +kernel
theorem dX11_wordOf_348 : decode cX11_wordOf 348 = .ok (.bipush 97, 2) := by decide +kernel
theorem dX11_wordOf_350 : decode cX11_wordOf 350 = .ok (.bipush 114, 2) := by decide +kernel
theorem dX11_wordOf_352 : decode cX11_wordOf 352 = .ok (.iconst 0, 1) := by decide +kernel
theorem dX11_wordOf_353 : decode cX11_wordOf 353 = .ok (.iconst 0, 1) := by decide +kernel
theorem dX11_wordOf_354 : decode cX11_wordOf 354 = .ok (.iconst 0, 1) := by decide +kernel
theorem dX11_wordOf_355 : decode cX11_wordOf 355 = .ok (.invokestatic 58, 3) := by decide +kernel
theorem dX11_wordOf_358 : decode cX11_wordOf 358 = .ok (.lreturn, 1) := by decide +kernel
theorem dX11_wordOf_359 : decode cX11_wordOf 359 = .ok (.bipush 111, 2) := by decide +kernel
theorem dX11_wordOf_361 : decode cX11_wordOf 361 = .ok (.bipush 114, 2) := by decide +kernel
theorem dX11_wordOf_363 : decode cX11_wordOf 363 = .ok (.iconst 0, 1) := by decide +kernel
theorem dX11_wordOf_364 : decode cX11_wordOf 364 = .ok (.iconst 0, 1) := by decide +kernel
theorem dX11_wordOf_365 : decode cX11_wordOf 365 = .ok (.iconst 0, 1) := by decide +kernel
theorem dX11_wordOf_366 : decode cX11_wordOf 366 = .ok (.iconst 0, 1) := by decide +kernel
theorem dX11_wordOf_367 : decode cX11_wordOf 367 = .ok (.iconst 0, 1) := by decide +kernel
theorem dX11_wordOf_368 : decode cX11_wordOf 368 = .ok (.invokestatic 58, 3) := by decide +kernel
theorem dX11_wordOf_371 : decode cX11_wordOf 371 = .ok (.lreturn, 1) := by decide +kernel
theorem dX11_wordOf_372 : decode cX11_wordOf 372 = .ok (.bipush 97, 2) := by decide +kernel
theorem dX11_wordOf_374 : decode cX11_wordOf 374 = .ok (.bipush 110, 2) := by decide +kernel
theorem dX11_wordOf_376 : decode cX11_wordOf 376 = .ok (.bipush 100, 2) := by decide +kernel
theorem dX11_wordOf_378 : decode cX11_wordOf 378 = .ok (.iconst 0, 1) := by decide +kernel
theorem dX11_wordOf_379 : decode cX11_wordOf 379 = .ok (.iconst 0, 1) := by decide +kernel
theorem dX11_wordOf_380 : decode cX11_wordOf 380 = .ok (.iconst 0, 1) := by decide +kernel
theorem dX11_wordOf_381 : decode cX11_wordOf 381 = .ok (.iconst 0, 1) := by decide +kernel
theorem dX11_wordOf_382 : decode cX11_wordOf 382 = .ok (.invokestatic 58, 3) := by decide +kernel
theorem dX11_wordOf_385 : decode cX11_wordOf 385 = .ok (.lreturn, 1) := by decide +kernel
theorem dX11_wordOf_386 : decode cX11_wordOf 386 = .ok (.bipush 110, 2) := by decide +kernel
theorem dX11_wordOf_388 : decode cX11_wordOf 388 = .ok (.bipush 111, 2) := by decide +kernel
theorem dX11_wordOf_390 : decode cX11_wordOf 390 = .ok (.bipush 116, 2) := by decide +kernel
theorem dX11_wordOf_392 : decode cX11_wordOf 392 = .ok (.iconst 0, 1) := by decide +kernel
theorem dX11_wordOf_393 : decode cX11_wordOf 393 = .ok (.iconst 0, 1) := by decide +kernel
theorem dX11_wordOf_394 : decode cX11_wordOf 394 = .ok (.iconst 0, 1) := by decide +kernel
theorem dX11_wordOf_395 : decode cX11_wordOf 395 = .ok (.iconst 0, 1) := by decide +kernel
theorem dX11_wordOf_396 : decode cX11_wordOf 396 = .ok (.invokestatic 58, 3) := by decide +kernel
theorem dX11_wordOf_399 : decode cX11_wordOf 399 = .ok (.lreturn, 1) := by decide +kernel
theorem dX11_wordOf_400 : decode cX11_wordOf 400 = .ok (.bipush 115, 2) := by decide +kernel
theorem dX11_wordOf_402 : decode cX11_wordOf 402 = .ok (.bipush 101, 2) := by decide +kernel
theorem dX11_wordOf_404 : decode cX11_wordOf 404 = .ok (.bipush 101, 2) := by decide +kernel
theorem dX11_wordOf_406 : decode cX11_wordOf 406 = .ok (.bipush 110, 2) := by decide +kernel
theorem dX11_wordOf_408 : decode cX11_wordOf 408 = .ok (.iconst 0, 1) := by decide +kernel
theorem dX11_wordOf_409 : decode cX11_wordOf 409 = .ok (.iconst 0, 1) := by decide +kernel
theorem dX11_wordOf_410 : decode cX11_wordOf 410 = .ok (.iconst 0, 1) := by decide +kernel
theorem dX11_wordOf_411 : decode cX11_wordOf 411 = .ok (.invokestatic 58, 3) := by decide +kernel
theorem dX11_wordOf_414 : decode cX11_wordOf 414 = .ok (.lreturn, 1) := by decide +kernel
theorem dX11_wordOf_431 : decode cX11_wordOf 431 = .ok (.bipush 102, 2) := by decide +kernel
theorem dX11_wordOf_433 : decode cX11_wordOf 433 = .ok (.bipush 117, 2) := by decide +kernel
theorem dX11_wordOf_435 : decode cX11_wordOf 435 = .ok (.bipush 108, 2) := by decide +kernel
theorem dX11_wordOf_437 : decode cX11_wordOf 437 = .ok (.bipush 108, 2) := by decide +kernel
theorem dX11_wordOf_439 : decode cX11_wordOf 439 = .ok (.iconst 0, 1) := by decide +kernel
theorem dX11_wordOf_440 : decode cX11_wordOf 440 = .ok (.iconst 0, 1) := by decide +kernel
theorem dX11_wordOf_441 : decode cX11_wordOf 441 = .ok (.iconst 0, 1) := by decide +kernel
theorem dX11_wordOf_442 : decode cX11_wordOf 442 = .ok (.invokestatic 58, 3) := by decide +kernel
theorem dX11_wordOf_445 : decode cX11_wordOf 445 = .ok (.lreturn, 1) := by decide +kernel
theorem dX11_wordOf_446 : decode cX11_wordOf 446 = .ok (.bipush 116, 2) := by decide +kernel
theorem dX11_wordOf_448 : decode cX11_wordOf 448 = .ok (.bipush 97, 2) := by decide +kernel
theorem dX11_wordOf_450 : decode cX11_wordOf 450 = .ok (.bipush 107, 2) := by decide +kernel
theorem dX11_wordOf_452 : decode cX11_wordOf 452 = .ok (.bipush 101, 2) := by decide +kernel
theorem dX11_wordOf_454 : decode cX11_wordOf 454 = .ok (.bipush 110, 2) := by decide +kernel
theorem dX11_wordOf_456 : decode cX11_wordOf 456 = .ok (.iconst 0, 1) := by decide +kernel
theorem dX11_wordOf_457 : decode cX11_wordOf 457 = .ok (.iconst 0, 1) := by decide +kernel
theorem dX11_wordOf_458 : decode cX11_wordOf 458 = .ok (.invokestatic 58, 3) := by decide +kernel
theorem dX11_wordOf_461 : decode cX11_wordOf 461 = .ok (.lreturn, 1) := by decide +kernel
theorem dX11_wordOf_462 : decode cX11_wordOf 462 = .ok (.bipush 108, 2) := by decide +kernel
theorem dX11_wordOf_464 : decode cX11_wordOf 464 = .ok (.bipush 101, 2) := by decide +kernel
theorem dX11_wordOf_466 : decode cX11_wordOf 466 = .ok (.bipush 110, 2) := by decide +kernel
theorem dX11_wordOf_468 : decode cX11_wordOf 468 = .ok (.bipush 100, 2) := by decide +kernel
theorem dX11_wordOf_470 : decode cX11_wordOf 470 = .ok (.bipush 105, 2) := by decide +kernel
theorem dX11_wordOf_472 : decode cX11_wordOf 472 = .ok (.bipush 110, 2) := by decide +kernel
theorem dX11_wordOf_474 : decode cX11_wordOf 474 = .ok (.bipush 103, 2) := by decide +kernel
theorem dX11_wordOf_476 : decode cX11_wordOf 476 = .ok (.invokestatic 58, 3) := by decide +kernel
theorem dX11_wordOf_479 : decode cX11_wordOf 479 = .ok (.lreturn, 1) := by decide +kernel
theorem dX11_wordOf_480 : decode cX11_wordOf 480 = .ok (.bipush 104, 2) := by decide +kernel
theorem dX11_wordOf_482 : decode cX11_wordOf 482 = .ok (.bipush 97, 2) := by decide +kernel
theorem dX11_wordOf_484 : decode cX11_wordOf 484 = .ok (.bipush 115, 2) := by decide +kernel
theorem dX11_wordOf_486 : decode cX11_wordOf 486 = .ok (.iconst 0, 1) := by decide +kernel
theorem dX11_wordOf_487 : decode cX11_wordOf 487 = .ok (.iconst 0, 1) := by decide +kernel
theorem dX11_wordOf_488 : decode cX11_wordOf 488 = .ok (.iconst 0, 1) := by decide +kernel
theorem dX11_wordOf_489 : decode cX11_wordOf 489 = .ok (.iconst 0, 1) := by decide +kernel
theorem dX11_wordOf_490 : decode cX11_wordOf 490 = .ok (.invokestatic 58, 3) := by decide +kernel
theorem dX11_wordOf_493 : decode cX11_wordOf 493 = .ok (.lreturn, 1) := by decide +kernel
theorem dX11_wordOf_494 : decode cX11_wordOf 494 = .ok (.bipush 97, 2) := by decide +kernel
theorem dX11_wordOf_496 : decode cX11_wordOf 496 = .ok (.bipush 107, 2) := by decide +kernel
theorem dX11_wordOf_498 : decode cX11_wordOf 498 = .ok (.bipush 105, 2) := by decide +kernel
theorem dX11_wordOf_500 : decode cX11_wordOf 500 = .ok (.bipush 110, 2) := by decide +kernel
theorem dX11_wordOf_502 : decode cX11_wordOf 502 = .ok (.iconst 0, 1) := by decide +kernel
theorem dX11_wordOf_503 : decode cX11_wordOf 503 = .ok (.iconst 0, 1) := by decide +kernel
theorem dX11_wordOf_504 : decode cX11_wordOf 504 = .ok (.iconst 0, 1) := by decide +kernel
theorem dX11_wordOf_505 : decode cX11_wordOf 505 = .ok (.invokestatic 58, 3) := by decide +kernel
theorem dX11_wordOf_508 : decode cX11_wordOf 508 = .ok (.lreturn, 1) := by decide +kernel
theorem dX11_wordOf_540 : decode cX11_wordOf 540 = .ok (.bipush 97, 2) := by decide +kernel
theorem dX11_wordOf_542 : decode cX11_wordOf 542 = .ok (.bipush 103, 2) := by decide +kernel
theorem dX11_wordOf_544 : decode cX11_wordOf 544 = .ok (.bipush 101, 2) := by decide +kernel
theorem dX11_wordOf_546 : decode cX11_wordOf 546 = .ok (.iconst 0, 1) := by decide +kernel
theorem dX11_wordOf_547 : decode cX11_wordOf 547 = .ok (.iconst 0, 1) := by decide +kernel
theorem dX11_wordOf_548 : decode cX11_wordOf 548 = .ok (.iconst 0, 1) := by decide +kernel
theorem dX11_wordOf_549 : decode cX11_wordOf 549 = .ok (.iconst 0, 1) := by decide +kernel
theorem dX11_wordOf_550 : decode cX11_wordOf 550 = .ok (.invokestatic 58, 3) := by decide +kernel
theorem dX11_wordOf_553 : decode cX11_wordOf 553 = .ok (.lreturn, 1) := by decide +kernel
theorem dX11_wordOf_554 : decode cX11_wordOf 554 = .ok (.bipush 110, 2) := by decide +kernel
theorem dX11_wordOf_556 : decode cX11_wordOf 556 = .ok (.bipush 117, 2) := by decide +kernel
theorem dX11_wordOf_558 : decode cX11_wordOf 558 = .ok (.bipush 109, 2) := by decide +kernel
theorem dX11_wordOf_560 : decode cX11_wordOf 560 = .ok (.bipush 98, 2) := by decide +kernel
theorem dX11_wordOf_562 : decode cX11_wordOf 562 = .ok (.bipush 101, 2) := by decide +kernel
theorem dX11_wordOf_564 : decode cX11_wordOf 564 = .ok (.bipush 114, 2) := by decide +kernel
theorem dX11_wordOf_566 : decode cX11_wordOf 566 = .ok (.iconst 0, 1) := by decide +kernel
theorem dX11_wordOf_567 : decode cX11_wordOf 567 = .ok (.invokestatic 58, 3) := by decide +kernel
theorem dX11_wordOf_570 : decode cX11_wordOf 570 = .ok (.lreturn, 1) := by decide +kernel
set_option maxHeartbeats 4000000 in
set_option maxRecDepth 100000 in
theorem m_wordOf (l : Launch) (dC : Nat → ClassId) (dI : Nat → Nat → Nat) (cy : Nat → ClassId) (vk : Int32)  : Met l yX11_wordOf (wl yX11_wordOf cX11_wordOf 1 (some .long)) ({ frames := 1, cells := 0, slots := 0, locals := 64 }) (Pr (dC, dI) vwCl cy [] [.int vk]) (Rl (fun r => True)) 0 0 (fun _ => False) := by
  refine mr RX11 rfl (by decide +kernel) (Nat.le_of_ble_eq_true rfl) ?_
  intro p e s m below meth c hx hb hr hlocks av9 hav hts hown hml hK hP hS Q9 hQ9 ls hl
  have hl : lv_has ls 1 [(0, .int vk)] := hl
  refine lv_iload_n hx hb dX11_wordOf_0 rfl (lv_at hl 0 rfl) ?_
  have k_0 : (0 : Int32).toInt = 0 := by decide
  have k_1 : (1 : Int32).toInt = 1 := by decide
  have k_2 : (2 : Int32).toInt = 2 := by decide
  have k_3 : (3 : Int32).toInt = 3 := by decide
  have k_4 : (4 : Int32).toInt = 4 := by decide
  have k_5 : (5 : Int32).toInt = 5 := by decide
  have k_6 : (6 : Int32).toInt = 6 := by decide
  have k_7 : (7 : Int32).toInt = 7 := by decide
  have k_8 : (8 : Int32).toInt = 8 := by decide
  have k_9 : (9 : Int32).toInt = 9 := by decide
  have k_10 : (10 : Int32).toInt = 10 := by decide
  have k_11 : (11 : Int32).toInt = 11 := by decide
  have k_12 : (12 : Int32).toInt = 12 := by decide
  have k_13 : (13 : Int32).toInt = 13 := by decide
  have k_14 : (14 : Int32).toInt = 14 := by decide
  have k_15 : (15 : Int32).toInt = 15 := by decide
  have k_16 : (16 : Int32).toInt = 16 := by decide
  have k_17 : (17 : Int32).toInt = 17 := by decide
  have k_18 : (18 : Int32).toInt = 18 := by decide
  have k_19 : (19 : Int32).toInt = 19 := by decide
  have k_20 : (20 : Int32).toInt = 20 := by decide
  have k_21 : (21 : Int32).toInt = 21 := by decide
  have k_22 : (22 : Int32).toInt = 22 := by decide
  have k_23 : (23 : Int32).toInt = 23 := by decide
  have k_24 : (24 : Int32).toInt = 24 := by decide
  have k_25 : (25 : Int32).toInt = 25 := by decide
  have k_26 : (26 : Int32).toInt = 26 := by decide
  have k_27 : (27 : Int32).toInt = 27 := by decide
  by_cases sw_1_0 : vk.toInt = 0
  · refine as_i 0 (i_eq.mpr (sw_1_0.trans k_0.symm)) ?_
    refine lv_tableIn (off := 127) (tgt := 128) hx hb dX11_wordOf_1 (by decide) (by decide) (by decide) (by decide) ?_
    refine lv_bipush (v := 109) hx hb dX11_wordOf_128 (by decide) ?_
    refine lv_bipush (v := 97) hx hb dX11_wordOf_130 (by decide) ?_
    refine lv_bipush (v := 110) hx hb dX11_wordOf_132 (by decide) ?_
    refine lv_iconst (v := 0) hx hb dX11_wordOf_134 (by decide) ?_
    refine lv_iconst (v := 0) hx hb dX11_wordOf_135 (by decide) ?_
    refine lv_iconst (v := 0) hx hb dX11_wordOf_136 (by decide) ?_
    refine lv_iconst (v := 0) hx hb dX11_wordOf_137 (by decide) ?_
    have k_109 : (109 : Int32).toInt = 109 := by decide
    have k_97 : (97 : Int32).toInt = 97 := by decide
    have k_110 : (110 : Int32).toInt = 110 := by decide
    refine jr_l (rSr (As := [.int 109, .int 97, .int 110, .int 0, .int 0, .int 0, .int 0]) (rest := []) ⟨hx, hb, hml, hown, hts⟩ (m_spelt l dC dI cy 109 97 110 0 0 0 0 ) (cw_X11_58 hts rfl rfl ⟨Nat.le_of_ble_eq_true rfl, Nat.le_of_ble_eq_true rfl⟩) hP hK [] rfl rfl hl.1 rfl (Nat.le_of_ble_eq_true rfl) dX11_wordOf_138 ⟨Nat.le_of_ble_eq_true rfl, Nat.le_of_ble_eq_true rfl⟩) hP hS (fun r_2 H locs hp_3 hP hS => ?_)
    rw [hQ9]
    exact rr_l hx hb hr hlocks trivial hS dX11_wordOf_141
  by_cases sw_1_1 : vk.toInt = 1
  · refine as_i 1 (i_eq.mpr (sw_1_1.trans k_1.symm)) ?_
    refine lv_tableIn (off := 141) (tgt := 142) hx hb dX11_wordOf_1 (by decide) (by decide) (by decide) (by decide) ?_
    refine lv_bipush (v := 100) hx hb dX11_wordOf_142 (by decide) ?_
    refine lv_bipush (v := 101) hx hb dX11_wordOf_144 (by decide) ?_
    refine lv_bipush (v := 101) hx hb dX11_wordOf_146 (by decide) ?_
    refine lv_bipush (v := 100) hx hb dX11_wordOf_148 (by decide) ?_
    refine lv_iconst (v := 0) hx hb dX11_wordOf_150 (by decide) ?_
    refine lv_iconst (v := 0) hx hb dX11_wordOf_151 (by decide) ?_
    refine lv_iconst (v := 0) hx hb dX11_wordOf_152 (by decide) ?_
    have k_100 : (100 : Int32).toInt = 100 := by decide
    have k_101 : (101 : Int32).toInt = 101 := by decide
    refine jr_l (rSr (As := [.int 100, .int 101, .int 101, .int 100, .int 0, .int 0, .int 0]) (rest := []) ⟨hx, hb, hml, hown, hts⟩ (m_spelt l dC dI cy 100 101 101 100 0 0 0 ) (cw_X11_58 hts rfl rfl ⟨Nat.le_of_ble_eq_true rfl, Nat.le_of_ble_eq_true rfl⟩) hP hK [] rfl rfl hl.1 rfl (Nat.le_of_ble_eq_true rfl) dX11_wordOf_153 ⟨Nat.le_of_ble_eq_true rfl, Nat.le_of_ble_eq_true rfl⟩) hP hS (fun r_4 H locs hp_5 hP hS => ?_)
    rw [hQ9]
    exact rr_l hx hb hr hlocks trivial hS dX11_wordOf_156
  by_cases sw_1_2 : vk.toInt = 2
  · refine as_i 2 (i_eq.mpr (sw_1_2.trans k_2.symm)) ?_
    refine lv_tableIn (off := 156) (tgt := 157) hx hb dX11_wordOf_1 (by decide) (by decide) (by decide) (by decide) ?_
    refine lv_bipush (v := 103) hx hb dX11_wordOf_157 (by decide) ?_
    refine lv_bipush (v := 111) hx hb dX11_wordOf_159 (by decide) ?_
    refine lv_bipush (v := 111) hx hb dX11_wordOf_161 (by decide) ?_
    refine lv_bipush (v := 100) hx hb dX11_wordOf_163 (by decide) ?_
    refine lv_iconst (v := 0) hx hb dX11_wordOf_165 (by decide) ?_
    refine lv_iconst (v := 0) hx hb dX11_wordOf_166 (by decide) ?_
    refine lv_iconst (v := 0) hx hb dX11_wordOf_167 (by decide) ?_
    have k_103 : (103 : Int32).toInt = 103 := by decide
    have k_111 : (111 : Int32).toInt = 111 := by decide
    have k_100 : (100 : Int32).toInt = 100 := by decide
    refine jr_l (rSr (As := [.int 103, .int 111, .int 111, .int 100, .int 0, .int 0, .int 0]) (rest := []) ⟨hx, hb, hml, hown, hts⟩ (m_spelt l dC dI cy 103 111 111 100 0 0 0 ) (cw_X11_58 hts rfl rfl ⟨Nat.le_of_ble_eq_true rfl, Nat.le_of_ble_eq_true rfl⟩) hP hK [] rfl rfl hl.1 rfl (Nat.le_of_ble_eq_true rfl) dX11_wordOf_168 ⟨Nat.le_of_ble_eq_true rfl, Nat.le_of_ble_eq_true rfl⟩) hP hS (fun r_6 H locs hp_7 hP hS => ?_)
    rw [hQ9]
    exact rr_l hx hb hr hlocks trivial hS dX11_wordOf_171
  by_cases sw_1_3 : vk.toInt = 3
  · refine as_i 3 (i_eq.mpr (sw_1_3.trans k_3.symm)) ?_
    refine lv_tableIn (off := 171) (tgt := 172) hx hb dX11_wordOf_1 (by decide) (by decide) (by decide) (by decide) ?_
    refine lv_bipush (v := 99) hx hb dX11_wordOf_172 (by decide) ?_
    refine lv_bipush (v := 114) hx hb dX11_wordOf_174 (by decide) ?_
    refine lv_bipush (v := 105) hx hb dX11_wordOf_176 (by decide) ?_
    refine lv_bipush (v := 109) hx hb dX11_wordOf_178 (by decide) ?_
    refine lv_bipush (v := 101) hx hb dX11_wordOf_180 (by decide) ?_
    refine lv_iconst (v := 0) hx hb dX11_wordOf_182 (by decide) ?_
    refine lv_iconst (v := 0) hx hb dX11_wordOf_183 (by decide) ?_
    have k_99 : (99 : Int32).toInt = 99 := by decide
    have k_114 : (114 : Int32).toInt = 114 := by decide
    have k_105 : (105 : Int32).toInt = 105 := by decide
    have k_109 : (109 : Int32).toInt = 109 := by decide
    have k_101 : (101 : Int32).toInt = 101 := by decide
    refine jr_l (rSr (As := [.int 99, .int 114, .int 105, .int 109, .int 101, .int 0, .int 0]) (rest := []) ⟨hx, hb, hml, hown, hts⟩ (m_spelt l dC dI cy 99 114 105 109 101 0 0 ) (cw_X11_58 hts rfl rfl ⟨Nat.le_of_ble_eq_true rfl, Nat.le_of_ble_eq_true rfl⟩) hP hK [] rfl rfl hl.1 rfl (Nat.le_of_ble_eq_true rfl) dX11_wordOf_184 ⟨Nat.le_of_ble_eq_true rfl, Nat.le_of_ble_eq_true rfl⟩) hP hS (fun r_8 H locs hp_9 hP hS => ?_)
    rw [hQ9]
    exact rr_l hx hb hr hlocks trivial hS dX11_wordOf_187
  by_cases sw_1_4 : vk.toInt = 4
  · refine as_i 4 (i_eq.mpr (sw_1_4.trans k_4.symm)) ?_
    refine lv_tableIn (off := 187) (tgt := 188) hx hb dX11_wordOf_1 (by decide) (by decide) (by decide) (by decide) ?_
    refine lv_bipush (v := 100) hx hb dX11_wordOf_188 (by decide) ?_
    refine lv_bipush (v := 105) hx hb dX11_wordOf_190 (by decide) ?_
    refine lv_bipush (v := 100) hx hb dX11_wordOf_192 (by decide) ?_
    refine lv_iconst (v := 0) hx hb dX11_wordOf_194 (by decide) ?_
    refine lv_iconst (v := 0) hx hb dX11_wordOf_195 (by decide) ?_
    refine lv_iconst (v := 0) hx hb dX11_wordOf_196 (by decide) ?_
    refine lv_iconst (v := 0) hx hb dX11_wordOf_197 (by decide) ?_
    have k_100 : (100 : Int32).toInt = 100 := by decide
    have k_105 : (105 : Int32).toInt = 105 := by decide
    refine jr_l (rSr (As := [.int 100, .int 105, .int 100, .int 0, .int 0, .int 0, .int 0]) (rest := []) ⟨hx, hb, hml, hown, hts⟩ (m_spelt l dC dI cy 100 105 100 0 0 0 0 ) (cw_X11_58 hts rfl rfl ⟨Nat.le_of_ble_eq_true rfl, Nat.le_of_ble_eq_true rfl⟩) hP hK [] rfl rfl hl.1 rfl (Nat.le_of_ble_eq_true rfl) dX11_wordOf_198 ⟨Nat.le_of_ble_eq_true rfl, Nat.le_of_ble_eq_true rfl⟩) hP hS (fun r_10 H locs hp_11 hP hS => ?_)
    rw [hQ9]
    exact rr_l hx hb hr hlocks trivial hS dX11_wordOf_201
  by_cases sw_1_5 : vk.toInt = 5
  · refine as_i 5 (i_eq.mpr (sw_1_5.trans k_5.symm)) ?_
    refine lv_tableIn (off := 201) (tgt := 202) hx hb dX11_wordOf_1 (by decide) (by decide) (by decide) (by decide) ?_
    refine lv_bipush (v := 107) hx hb dX11_wordOf_202 (by decide) ?_
    refine lv_bipush (v := 105) hx hb dX11_wordOf_204 (by decide) ?_
    refine lv_bipush (v := 110) hx hb dX11_wordOf_206 (by decide) ?_
    refine lv_iconst (v := 0) hx hb dX11_wordOf_208 (by decide) ?_
    refine lv_iconst (v := 0) hx hb dX11_wordOf_209 (by decide) ?_
    refine lv_iconst (v := 0) hx hb dX11_wordOf_210 (by decide) ?_
    refine lv_iconst (v := 0) hx hb dX11_wordOf_211 (by decide) ?_
    have k_107 : (107 : Int32).toInt = 107 := by decide
    have k_105 : (105 : Int32).toInt = 105 := by decide
    have k_110 : (110 : Int32).toInt = 110 := by decide
    refine jr_l (rSr (As := [.int 107, .int 105, .int 110, .int 0, .int 0, .int 0, .int 0]) (rest := []) ⟨hx, hb, hml, hown, hts⟩ (m_spelt l dC dI cy 107 105 110 0 0 0 0 ) (cw_X11_58 hts rfl rfl ⟨Nat.le_of_ble_eq_true rfl, Nat.le_of_ble_eq_true rfl⟩) hP hK [] rfl rfl hl.1 rfl (Nat.le_of_ble_eq_true rfl) dX11_wordOf_212 ⟨Nat.le_of_ble_eq_true rfl, Nat.le_of_ble_eq_true rfl⟩) hP hS (fun r_12 H locs hp_13 hP hS => ?_)
    rw [hQ9]
    exact rr_l hx hb hr hlocks trivial hS dX11_wordOf_215
  by_cases sw_1_6 : vk.toInt = 6
  · refine as_i 6 (i_eq.mpr (sw_1_6.trans k_6.symm)) ?_
    refine lv_tableIn (off := 215) (tgt := 216) hx hb dX11_wordOf_1 (by decide) (by decide) (by decide) (by decide) ?_
    refine lv_bipush (v := 111) hx hb dX11_wordOf_216 (by decide) ?_
    refine lv_bipush (v := 119) hx hb dX11_wordOf_218 (by decide) ?_
    refine lv_bipush (v := 101) hx hb dX11_wordOf_220 (by decide) ?_
    refine lv_bipush (v := 115) hx hb dX11_wordOf_222 (by decide) ?_
    refine lv_iconst (v := 0) hx hb dX11_wordOf_224 (by decide) ?_
    refine lv_iconst (v := 0) hx hb dX11_wordOf_225 (by decide) ?_
    refine lv_iconst (v := 0) hx hb dX11_wordOf_226 (by decide) ?_
    have k_111 : (111 : Int32).toInt = 111 := by decide
    have k_119 : (119 : Int32).toInt = 119 := by decide
    have k_101 : (101 : Int32).toInt = 101 := by decide
    have k_115 : (115 : Int32).toInt = 115 := by decide
    refine jr_l (rSr (As := [.int 111, .int 119, .int 101, .int 115, .int 0, .int 0, .int 0]) (rest := []) ⟨hx, hb, hml, hown, hts⟩ (m_spelt l dC dI cy 111 119 101 115 0 0 0 ) (cw_X11_58 hts rfl rfl ⟨Nat.le_of_ble_eq_true rfl, Nat.le_of_ble_eq_true rfl⟩) hP hK [] rfl rfl hl.1 rfl (Nat.le_of_ble_eq_true rfl) dX11_wordOf_227 ⟨Nat.le_of_ble_eq_true rfl, Nat.le_of_ble_eq_true rfl⟩) hP hS (fun r_14 H locs hp_15 hP hS => ?_)
    rw [hQ9]
    exact rr_l hx hb hr hlocks trivial hS dX11_wordOf_230
  by_cases sw_1_7 : vk.toInt = 7
  · refine as_i 7 (i_eq.mpr (sw_1_7.trans k_7.symm)) ?_
    refine lv_tableIn (off := 230) (tgt := 231) hx hb dX11_wordOf_1 (by decide) (by decide) (by decide) (by decide) ?_
    refine lv_bipush (v := 112) hx hb dX11_wordOf_231 (by decide) ?_
    refine lv_bipush (v := 108) hx hb dX11_wordOf_233 (by decide) ?_
    refine lv_bipush (v := 97) hx hb dX11_wordOf_235 (by decide) ?_
    refine lv_bipush (v := 116) hx hb dX11_wordOf_237 (by decide) ?_
    refine lv_bipush (v := 101) hx hb dX11_wordOf_239 (by decide) ?_
    refine lv_iconst (v := 0) hx hb dX11_wordOf_241 (by decide) ?_
    refine lv_iconst (v := 0) hx hb dX11_wordOf_242 (by decide) ?_
    have k_112 : (112 : Int32).toInt = 112 := by decide
    have k_108 : (108 : Int32).toInt = 108 := by decide
    have k_97 : (97 : Int32).toInt = 97 := by decide
    have k_116 : (116 : Int32).toInt = 116 := by decide
    have k_101 : (101 : Int32).toInt = 101 := by decide
    refine jr_l (rSr (As := [.int 112, .int 108, .int 97, .int 116, .int 101, .int 0, .int 0]) (rest := []) ⟨hx, hb, hml, hown, hts⟩ (m_spelt l dC dI cy 112 108 97 116 101 0 0 ) (cw_X11_58 hts rfl rfl ⟨Nat.le_of_ble_eq_true rfl, Nat.le_of_ble_eq_true rfl⟩) hP hK [] rfl rfl hl.1 rfl (Nat.le_of_ble_eq_true rfl) dX11_wordOf_243 ⟨Nat.le_of_ble_eq_true rfl, Nat.le_of_ble_eq_true rfl⟩) hP hS (fun r_16 H locs hp_17 hP hS => ?_)
    rw [hQ9]
    exact rr_l hx hb hr hlocks trivial hS dX11_wordOf_246
  by_cases sw_1_8 : vk.toInt = 8
  · refine as_i 8 (i_eq.mpr (sw_1_8.trans k_8.symm)) ?_
    refine lv_tableIn (off := 246) (tgt := 247) hx hb dX11_wordOf_1 (by decide) (by decide) (by decide) (by decide) ?_
    refine lv_bipush (v := 100) hx hb dX11_wordOf_247 (by decide) ?_
    refine lv_bipush (v := 111) hx hb dX11_wordOf_249 (by decide) ?_
    refine lv_bipush (v := 101) hx hb dX11_wordOf_251 (by decide) ?_
    refine lv_bipush (v := 115) hx hb dX11_wordOf_253 (by decide) ?_
    refine lv_iconst (v := 0) hx hb dX11_wordOf_255 (by decide) ?_
    refine lv_iconst (v := 0) hx hb dX11_wordOf_256 (by decide) ?_
    refine lv_iconst (v := 0) hx hb dX11_wordOf_257 (by decide) ?_
    have k_100 : (100 : Int32).toInt = 100 := by decide
    have k_111 : (111 : Int32).toInt = 111 := by decide
    have k_101 : (101 : Int32).toInt = 101 := by decide
    have k_115 : (115 : Int32).toInt = 115 := by decide
    refine jr_l (rSr (As := [.int 100, .int 111, .int 101, .int 115, .int 0, .int 0, .int 0]) (rest := []) ⟨hx, hb, hml, hown, hts⟩ (m_spelt l dC dI cy 100 111 101 115 0 0 0 ) (cw_X11_58 hts rfl rfl ⟨Nat.le_of_ble_eq_true rfl, Nat.le_of_ble_eq_true rfl⟩) hP hK [] rfl rfl hl.1 rfl (Nat.le_of_ble_eq_true rfl) dX11_wordOf_258 ⟨Nat.le_of_ble_eq_true rfl, Nat.le_of_ble_eq_true rfl⟩) hP hS (fun r_18 H locs hp_19 hP hS => ?_)
    rw [hQ9]
    exact rr_l hx hb hr hlocks trivial hS dX11_wordOf_261
  by_cases sw_1_9 : vk.toInt = 9
  · refine as_i 9 (i_eq.mpr (sw_1_9.trans k_9.symm)) ?_
    refine lv_tableIn (off := 261) (tgt := 262) hx hb dX11_wordOf_1 (by decide) (by decide) (by decide) (by decide) ?_
    refine lv_bipush (v := 108) hx hb dX11_wordOf_262 (by decide) ?_
    refine lv_bipush (v := 101) hx hb dX11_wordOf_264 (by decide) ?_
    refine lv_bipush (v := 110) hx hb dX11_wordOf_266 (by decide) ?_
    refine lv_bipush (v := 100) hx hb dX11_wordOf_268 (by decide) ?_
    refine lv_bipush (v := 115) hx hb dX11_wordOf_270 (by decide) ?_
    refine lv_iconst (v := 0) hx hb dX11_wordOf_272 (by decide) ?_
    refine lv_iconst (v := 0) hx hb dX11_wordOf_273 (by decide) ?_
    have k_108 : (108 : Int32).toInt = 108 := by decide
    have k_101 : (101 : Int32).toInt = 101 := by decide
    have k_110 : (110 : Int32).toInt = 110 := by decide
    have k_100 : (100 : Int32).toInt = 100 := by decide
    have k_115 : (115 : Int32).toInt = 115 := by decide
    refine jr_l (rSr (As := [.int 108, .int 101, .int 110, .int 100, .int 115, .int 0, .int 0]) (rest := []) ⟨hx, hb, hml, hown, hts⟩ (m_spelt l dC dI cy 108 101 110 100 115 0 0 ) (cw_X11_58 hts rfl rfl ⟨Nat.le_of_ble_eq_true rfl, Nat.le_of_ble_eq_true rfl⟩) hP hK [] rfl rfl hl.1 rfl (Nat.le_of_ble_eq_true rfl) dX11_wordOf_274 ⟨Nat.le_of_ble_eq_true rfl, Nat.le_of_ble_eq_true rfl⟩) hP hS (fun r_20 H locs hp_21 hP hS => ?_)
    rw [hQ9]
    exact rr_l hx hb hr hlocks trivial hS dX11_wordOf_277
  by_cases sw_1_10 : vk.toInt = 10
  · refine as_i 10 (i_eq.mpr (sw_1_10.trans k_10.symm)) ?_
    refine lv_tableIn (off := 277) (tgt := 278) hx hb dX11_wordOf_1 (by decide) (by decide) (by decide) (by decide) ?_
    refine lv_bipush (v := 114) hx hb dX11_wordOf_278 (by decide) ?_
    refine lv_bipush (v := 101) hx hb dX11_wordOf_280 (by decide) ?_
    refine lv_bipush (v := 116) hx hb dX11_wordOf_282 (by decide) ?_
    refine lv_bipush (v := 117) hx hb dX11_wordOf_284 (by decide) ?_
    refine lv_bipush (v := 114) hx hb dX11_wordOf_286 (by decide) ?_
    refine lv_bipush (v := 110) hx hb dX11_wordOf_288 (by decide) ?_
    refine lv_bipush (v := 115) hx hb dX11_wordOf_290 (by decide) ?_
    have k_114 : (114 : Int32).toInt = 114 := by decide
    have k_101 : (101 : Int32).toInt = 101 := by decide
    have k_116 : (116 : Int32).toInt = 116 := by decide
    have k_117 : (117 : Int32).toInt = 117 := by decide
    have k_110 : (110 : Int32).toInt = 110 := by decide
    have k_115 : (115 : Int32).toInt = 115 := by decide
    refine jr_l (rSr (As := [.int 114, .int 101, .int 116, .int 117, .int 114, .int 110, .int 115]) (rest := []) ⟨hx, hb, hml, hown, hts⟩ (m_spelt l dC dI cy 114 101 116 117 114 110 115 ) (cw_X11_58 hts rfl rfl ⟨Nat.le_of_ble_eq_true rfl, Nat.le_of_ble_eq_true rfl⟩) hP hK [] rfl rfl hl.1 rfl (Nat.le_of_ble_eq_true rfl) dX11_wordOf_292 ⟨Nat.le_of_ble_eq_true rfl, Nat.le_of_ble_eq_true rfl⟩) hP hS (fun r_22 H locs hp_23 hP hS => ?_)
    rw [hQ9]
    exact rr_l hx hb hr hlocks trivial hS dX11_wordOf_295
  by_cases sw_1_11 : vk.toInt = 11
  · refine as_i 11 (i_eq.mpr (sw_1_11.trans k_11.symm)) ?_
    refine lv_tableIn (off := 295) (tgt := 296) hx hb dX11_wordOf_1 (by decide) (by decide) (by decide) (by decide) ?_
    refine lv_bipush (v := 98) hx hb dX11_wordOf_296 (by decide) ?_
    refine lv_bipush (v := 111) hx hb dX11_wordOf_298 (by decide) ?_
    refine lv_bipush (v := 114) hx hb dX11_wordOf_300 (by decide) ?_
    refine lv_bipush (v := 114) hx hb dX11_wordOf_302 (by decide) ?_
    refine lv_bipush (v := 111) hx hb dX11_wordOf_304 (by decide) ?_
    refine lv_bipush (v := 119) hx hb dX11_wordOf_306 (by decide) ?_
    refine lv_bipush (v := 115) hx hb dX11_wordOf_308 (by decide) ?_
    have k_98 : (98 : Int32).toInt = 98 := by decide
    have k_111 : (111 : Int32).toInt = 111 := by decide
    have k_114 : (114 : Int32).toInt = 114 := by decide
    have k_119 : (119 : Int32).toInt = 119 := by decide
    have k_115 : (115 : Int32).toInt = 115 := by decide
    refine jr_l (rSr (As := [.int 98, .int 111, .int 114, .int 114, .int 111, .int 119, .int 115]) (rest := []) ⟨hx, hb, hml, hown, hts⟩ (m_spelt l dC dI cy 98 111 114 114 111 119 115 ) (cw_X11_58 hts rfl rfl ⟨Nat.le_of_ble_eq_true rfl, Nat.le_of_ble_eq_true rfl⟩) hP hK [] rfl rfl hl.1 rfl (Nat.le_of_ble_eq_true rfl) dX11_wordOf_310 ⟨Nat.le_of_ble_eq_true rfl, Nat.le_of_ble_eq_true rfl⟩) hP hS (fun r_24 H locs hp_25 hP hS => ?_)
    rw [hQ9]
    exact rr_l hx hb hr hlocks trivial hS dX11_wordOf_313
  by_cases sw_1_12 : vk.toInt = 12
  · refine as_i 12 (i_eq.mpr (sw_1_12.trans k_12.symm)) ?_
    refine lv_tableIn (off := 313) (tgt := 314) hx hb dX11_wordOf_1 (by decide) (by decide) (by decide) (by decide) ?_
    refine lv_bipush (v := 112) hx hb dX11_wordOf_314 (by decide) ?_
    refine lv_bipush (v := 97) hx hb dX11_wordOf_316 (by decide) ?_
    refine lv_bipush (v := 121) hx hb dX11_wordOf_318 (by decide) ?_
    refine lv_bipush (v := 115) hx hb dX11_wordOf_320 (by decide) ?_
    refine lv_iconst (v := 0) hx hb dX11_wordOf_322 (by decide) ?_
    refine lv_iconst (v := 0) hx hb dX11_wordOf_323 (by decide) ?_
    refine lv_iconst (v := 0) hx hb dX11_wordOf_324 (by decide) ?_
    have k_112 : (112 : Int32).toInt = 112 := by decide
    have k_97 : (97 : Int32).toInt = 97 := by decide
    have k_121 : (121 : Int32).toInt = 121 := by decide
    have k_115 : (115 : Int32).toInt = 115 := by decide
    refine jr_l (rSr (As := [.int 112, .int 97, .int 121, .int 115, .int 0, .int 0, .int 0]) (rest := []) ⟨hx, hb, hml, hown, hts⟩ (m_spelt l dC dI cy 112 97 121 115 0 0 0 ) (cw_X11_58 hts rfl rfl ⟨Nat.le_of_ble_eq_true rfl, Nat.le_of_ble_eq_true rfl⟩) hP hK [] rfl rfl hl.1 rfl (Nat.le_of_ble_eq_true rfl) dX11_wordOf_325 ⟨Nat.le_of_ble_eq_true rfl, Nat.le_of_ble_eq_true rfl⟩) hP hS (fun r_26 H locs hp_27 hP hS => ?_)
    rw [hQ9]
    exact rr_l hx hb hr hlocks trivial hS dX11_wordOf_328
  by_cases sw_1_13 : vk.toInt = 13
  · refine as_i 13 (i_eq.mpr (sw_1_13.trans k_13.symm)) ?_
    refine lv_tableIn (off := 328) (tgt := 329) hx hb dX11_wordOf_1 (by decide) (by decide) (by decide) (by decide) ?_
    refine lv_bipush (v := 115) hx hb dX11_wordOf_329 (by decide) ?_
    refine lv_bipush (v := 105) hx hb dX11_wordOf_331 (by decide) ?_
    refine lv_bipush (v := 116) hx hb dX11_wordOf_333 (by decide) ?_
    refine lv_bipush (v := 115) hx hb dX11_wordOf_335 (by decide) ?_
    refine lv_iconst (v := 0) hx hb dX11_wordOf_337 (by decide) ?_
    refine lv_iconst (v := 0) hx hb dX11_wordOf_338 (by decide) ?_
    refine lv_iconst (v := 0) hx hb dX11_wordOf_339 (by decide) ?_
    have k_115 : (115 : Int32).toInt = 115 := by decide
    have k_105 : (105 : Int32).toInt = 105 := by decide
    have k_116 : (116 : Int32).toInt = 116 := by decide
    refine jr_l (rSr (As := [.int 115, .int 105, .int 116, .int 115, .int 0, .int 0, .int 0]) (rest := []) ⟨hx, hb, hml, hown, hts⟩ (m_spelt l dC dI cy 115 105 116 115 0 0 0 ) (cw_X11_58 hts rfl rfl ⟨Nat.le_of_ble_eq_true rfl, Nat.le_of_ble_eq_true rfl⟩) hP hK [] rfl rfl hl.1 rfl (Nat.le_of_ble_eq_true rfl) dX11_wordOf_340 ⟨Nat.le_of_ble_eq_true rfl, Nat.le_of_ble_eq_true rfl⟩) hP hS (fun r_28 H locs hp_29 hP hS => ?_)
    rw [hQ9]
    exact rr_l hx hb hr hlocks trivial hS dX11_wordOf_343
  by_cases sw_1_14 : vk.toInt = 14
  · refine as_i 14 (i_eq.mpr (sw_1_14.trans k_14.symm)) ?_
    refine lv_tableIn (off := 343) (tgt := 344) hx hb dX11_wordOf_1 (by decide) (by decide) (by decide) (by decide) ?_
    refine lv_bipush (v := 121) hx hb dX11_wordOf_344 (by decide) ?_
    refine lv_bipush (v := 101) hx hb dX11_wordOf_346 (by decide) ?_
    refine lv_bipush (v := 97) hx hb dX11_wordOf_348 (by decide) ?_
    refine lv_bipush (v := 114) hx hb dX11_wordOf_350 (by decide) ?_
    refine lv_iconst (v := 0) hx hb dX11_wordOf_352 (by decide) ?_
    refine lv_iconst (v := 0) hx hb dX11_wordOf_353 (by decide) ?_
    refine lv_iconst (v := 0) hx hb dX11_wordOf_354 (by decide) ?_
    have k_121 : (121 : Int32).toInt = 121 := by decide
    have k_101 : (101 : Int32).toInt = 101 := by decide
    have k_97 : (97 : Int32).toInt = 97 := by decide
    have k_114 : (114 : Int32).toInt = 114 := by decide
    refine jr_l (rSr (As := [.int 121, .int 101, .int 97, .int 114, .int 0, .int 0, .int 0]) (rest := []) ⟨hx, hb, hml, hown, hts⟩ (m_spelt l dC dI cy 121 101 97 114 0 0 0 ) (cw_X11_58 hts rfl rfl ⟨Nat.le_of_ble_eq_true rfl, Nat.le_of_ble_eq_true rfl⟩) hP hK [] rfl rfl hl.1 rfl (Nat.le_of_ble_eq_true rfl) dX11_wordOf_355 ⟨Nat.le_of_ble_eq_true rfl, Nat.le_of_ble_eq_true rfl⟩) hP hS (fun r_30 H locs hp_31 hP hS => ?_)
    rw [hQ9]
    exact rr_l hx hb hr hlocks trivial hS dX11_wordOf_358
  by_cases sw_1_15 : vk.toInt = 15
  · refine as_i 15 (i_eq.mpr (sw_1_15.trans k_15.symm)) ?_
    refine lv_tableIn (off := 358) (tgt := 359) hx hb dX11_wordOf_1 (by decide) (by decide) (by decide) (by decide) ?_
    refine lv_bipush (v := 111) hx hb dX11_wordOf_359 (by decide) ?_
    refine lv_bipush (v := 114) hx hb dX11_wordOf_361 (by decide) ?_
    refine lv_iconst (v := 0) hx hb dX11_wordOf_363 (by decide) ?_
    refine lv_iconst (v := 0) hx hb dX11_wordOf_364 (by decide) ?_
    refine lv_iconst (v := 0) hx hb dX11_wordOf_365 (by decide) ?_
    refine lv_iconst (v := 0) hx hb dX11_wordOf_366 (by decide) ?_
    refine lv_iconst (v := 0) hx hb dX11_wordOf_367 (by decide) ?_
    have k_111 : (111 : Int32).toInt = 111 := by decide
    have k_114 : (114 : Int32).toInt = 114 := by decide
    refine jr_l (rSr (As := [.int 111, .int 114, .int 0, .int 0, .int 0, .int 0, .int 0]) (rest := []) ⟨hx, hb, hml, hown, hts⟩ (m_spelt l dC dI cy 111 114 0 0 0 0 0 ) (cw_X11_58 hts rfl rfl ⟨Nat.le_of_ble_eq_true rfl, Nat.le_of_ble_eq_true rfl⟩) hP hK [] rfl rfl hl.1 rfl (Nat.le_of_ble_eq_true rfl) dX11_wordOf_368 ⟨Nat.le_of_ble_eq_true rfl, Nat.le_of_ble_eq_true rfl⟩) hP hS (fun r_32 H locs hp_33 hP hS => ?_)
    rw [hQ9]
    exact rr_l hx hb hr hlocks trivial hS dX11_wordOf_371
  by_cases sw_1_16 : vk.toInt = 16
  · refine as_i 16 (i_eq.mpr (sw_1_16.trans k_16.symm)) ?_
    refine lv_tableIn (off := 371) (tgt := 372) hx hb dX11_wordOf_1 (by decide) (by decide) (by decide) (by decide) ?_
    refine lv_bipush (v := 97) hx hb dX11_wordOf_372 (by decide) ?_
    refine lv_bipush (v := 110) hx hb dX11_wordOf_374 (by decide) ?_
    refine lv_bipush (v := 100) hx hb dX11_wordOf_376 (by decide) ?_
    refine lv_iconst (v := 0) hx hb dX11_wordOf_378 (by decide) ?_
    refine lv_iconst (v := 0) hx hb dX11_wordOf_379 (by decide) ?_
    refine lv_iconst (v := 0) hx hb dX11_wordOf_380 (by decide) ?_
    refine lv_iconst (v := 0) hx hb dX11_wordOf_381 (by decide) ?_
    have k_97 : (97 : Int32).toInt = 97 := by decide
    have k_110 : (110 : Int32).toInt = 110 := by decide
    have k_100 : (100 : Int32).toInt = 100 := by decide
    refine jr_l (rSr (As := [.int 97, .int 110, .int 100, .int 0, .int 0, .int 0, .int 0]) (rest := []) ⟨hx, hb, hml, hown, hts⟩ (m_spelt l dC dI cy 97 110 100 0 0 0 0 ) (cw_X11_58 hts rfl rfl ⟨Nat.le_of_ble_eq_true rfl, Nat.le_of_ble_eq_true rfl⟩) hP hK [] rfl rfl hl.1 rfl (Nat.le_of_ble_eq_true rfl) dX11_wordOf_382 ⟨Nat.le_of_ble_eq_true rfl, Nat.le_of_ble_eq_true rfl⟩) hP hS (fun r_34 H locs hp_35 hP hS => ?_)
    rw [hQ9]
    exact rr_l hx hb hr hlocks trivial hS dX11_wordOf_385
  by_cases sw_1_17 : vk.toInt = 17
  · refine as_i 17 (i_eq.mpr (sw_1_17.trans k_17.symm)) ?_
    refine lv_tableIn (off := 385) (tgt := 386) hx hb dX11_wordOf_1 (by decide) (by decide) (by decide) (by decide) ?_
    refine lv_bipush (v := 110) hx hb dX11_wordOf_386 (by decide) ?_
    refine lv_bipush (v := 111) hx hb dX11_wordOf_388 (by decide) ?_
    refine lv_bipush (v := 116) hx hb dX11_wordOf_390 (by decide) ?_
    refine lv_iconst (v := 0) hx hb dX11_wordOf_392 (by decide) ?_
    refine lv_iconst (v := 0) hx hb dX11_wordOf_393 (by decide) ?_
    refine lv_iconst (v := 0) hx hb dX11_wordOf_394 (by decide) ?_
    refine lv_iconst (v := 0) hx hb dX11_wordOf_395 (by decide) ?_
    have k_110 : (110 : Int32).toInt = 110 := by decide
    have k_111 : (111 : Int32).toInt = 111 := by decide
    have k_116 : (116 : Int32).toInt = 116 := by decide
    refine jr_l (rSr (As := [.int 110, .int 111, .int 116, .int 0, .int 0, .int 0, .int 0]) (rest := []) ⟨hx, hb, hml, hown, hts⟩ (m_spelt l dC dI cy 110 111 116 0 0 0 0 ) (cw_X11_58 hts rfl rfl ⟨Nat.le_of_ble_eq_true rfl, Nat.le_of_ble_eq_true rfl⟩) hP hK [] rfl rfl hl.1 rfl (Nat.le_of_ble_eq_true rfl) dX11_wordOf_396 ⟨Nat.le_of_ble_eq_true rfl, Nat.le_of_ble_eq_true rfl⟩) hP hS (fun r_36 H locs hp_37 hP hS => ?_)
    rw [hQ9]
    exact rr_l hx hb hr hlocks trivial hS dX11_wordOf_399
  by_cases sw_1_18 : vk.toInt = 18
  · refine as_i 18 (i_eq.mpr (sw_1_18.trans k_18.symm)) ?_
    refine lv_tableIn (off := 399) (tgt := 400) hx hb dX11_wordOf_1 (by decide) (by decide) (by decide) (by decide) ?_
    refine lv_bipush (v := 115) hx hb dX11_wordOf_400 (by decide) ?_
    refine lv_bipush (v := 101) hx hb dX11_wordOf_402 (by decide) ?_
    refine lv_bipush (v := 101) hx hb dX11_wordOf_404 (by decide) ?_
    refine lv_bipush (v := 110) hx hb dX11_wordOf_406 (by decide) ?_
    refine lv_iconst (v := 0) hx hb dX11_wordOf_408 (by decide) ?_
    refine lv_iconst (v := 0) hx hb dX11_wordOf_409 (by decide) ?_
    refine lv_iconst (v := 0) hx hb dX11_wordOf_410 (by decide) ?_
    have k_115 : (115 : Int32).toInt = 115 := by decide
    have k_101 : (101 : Int32).toInt = 101 := by decide
    have k_110 : (110 : Int32).toInt = 110 := by decide
    refine jr_l (rSr (As := [.int 115, .int 101, .int 101, .int 110, .int 0, .int 0, .int 0]) (rest := []) ⟨hx, hb, hml, hown, hts⟩ (m_spelt l dC dI cy 115 101 101 110 0 0 0 ) (cw_X11_58 hts rfl rfl ⟨Nat.le_of_ble_eq_true rfl, Nat.le_of_ble_eq_true rfl⟩) hP hK [] rfl rfl hl.1 rfl (Nat.le_of_ble_eq_true rfl) dX11_wordOf_411 ⟨Nat.le_of_ble_eq_true rfl, Nat.le_of_ble_eq_true rfl⟩) hP hS (fun r_38 H locs hp_39 hP hS => ?_)
    rw [hQ9]
    exact rr_l hx hb hr hlocks trivial hS dX11_wordOf_414
  by_cases sw_1_19 : vk.toInt = 19
  · refine as_i 19 (i_eq.mpr (sw_1_19.trans k_19.symm)) ?_
    refine lv_tableIn (off := 414) (tgt := 415) hx hb dX11_wordOf_1 (by decide) (by decide) (by decide) (by decide) ?_
    refine lv_bipush (v := 102) hx hb dX11_wordOf_415 (by decide) ?_
    refine lv_bipush (v := 97) hx hb dX11_wordOf_417 (by decide) ?_
    refine lv_bipush (v := 105) hx hb dX11_wordOf_419 (by decide) ?_
    refine lv_bipush (v := 110) hx hb dX11_wordOf_421 (by decide) ?_
    refine lv_bipush (v := 116) hx hb dX11_wordOf_423 (by decide) ?_
    refine lv_iconst (v := 0) hx hb dX11_wordOf_425 (by decide) ?_
    refine lv_iconst (v := 0) hx hb dX11_wordOf_426 (by decide) ?_
    have k_102 : (102 : Int32).toInt = 102 := by decide
    have k_97 : (97 : Int32).toInt = 97 := by decide
    have k_105 : (105 : Int32).toInt = 105 := by decide
    have k_110 : (110 : Int32).toInt = 110 := by decide
    have k_116 : (116 : Int32).toInt = 116 := by decide
    refine jr_l (rSr (As := [.int 102, .int 97, .int 105, .int 110, .int 116, .int 0, .int 0]) (rest := []) ⟨hx, hb, hml, hown, hts⟩ (m_spelt l dC dI cy 102 97 105 110 116 0 0 ) (cw_X11_58 hts rfl rfl ⟨Nat.le_of_ble_eq_true rfl, Nat.le_of_ble_eq_true rfl⟩) hP hK [] rfl rfl hl.1 rfl (Nat.le_of_ble_eq_true rfl) dX11_wordOf_427 ⟨Nat.le_of_ble_eq_true rfl, Nat.le_of_ble_eq_true rfl⟩) hP hS (fun r_40 H locs hp_41 hP hS => ?_)
    rw [hQ9]
    exact rr_l hx hb hr hlocks trivial hS dX11_wordOf_430
  by_cases sw_1_20 : vk.toInt = 20
  · refine as_i 20 (i_eq.mpr (sw_1_20.trans k_20.symm)) ?_
    refine lv_tableIn (off := 430) (tgt := 431) hx hb dX11_wordOf_1 (by decide) (by decide) (by decide) (by decide) ?_
    refine lv_bipush (v := 102) hx hb dX11_wordOf_431 (by decide) ?_
    refine lv_bipush (v := 117) hx hb dX11_wordOf_433 (by decide) ?_
    refine lv_bipush (v := 108) hx hb dX11_wordOf_435 (by decide) ?_
    refine lv_bipush (v := 108) hx hb dX11_wordOf_437 (by decide) ?_
    refine lv_iconst (v := 0) hx hb dX11_wordOf_439 (by decide) ?_
    refine lv_iconst (v := 0) hx hb dX11_wordOf_440 (by decide) ?_
    refine lv_iconst (v := 0) hx hb dX11_wordOf_441 (by decide) ?_
    have k_102 : (102 : Int32).toInt = 102 := by decide
    have k_117 : (117 : Int32).toInt = 117 := by decide
    have k_108 : (108 : Int32).toInt = 108 := by decide
    refine jr_l (rSr (As := [.int 102, .int 117, .int 108, .int 108, .int 0, .int 0, .int 0]) (rest := []) ⟨hx, hb, hml, hown, hts⟩ (m_spelt l dC dI cy 102 117 108 108 0 0 0 ) (cw_X11_58 hts rfl rfl ⟨Nat.le_of_ble_eq_true rfl, Nat.le_of_ble_eq_true rfl⟩) hP hK [] rfl rfl hl.1 rfl (Nat.le_of_ble_eq_true rfl) dX11_wordOf_442 ⟨Nat.le_of_ble_eq_true rfl, Nat.le_of_ble_eq_true rfl⟩) hP hS (fun r_42 H locs hp_43 hP hS => ?_)
    rw [hQ9]
    exact rr_l hx hb hr hlocks trivial hS dX11_wordOf_445
  by_cases sw_1_21 : vk.toInt = 21
  · refine as_i 21 (i_eq.mpr (sw_1_21.trans k_21.symm)) ?_
    refine lv_tableIn (off := 445) (tgt := 446) hx hb dX11_wordOf_1 (by decide) (by decide) (by decide) (by decide) ?_
    refine lv_bipush (v := 116) hx hb dX11_wordOf_446 (by decide) ?_
    refine lv_bipush (v := 97) hx hb dX11_wordOf_448 (by decide) ?_
    refine lv_bipush (v := 107) hx hb dX11_wordOf_450 (by decide) ?_
    refine lv_bipush (v := 101) hx hb dX11_wordOf_452 (by decide) ?_
    refine lv_bipush (v := 110) hx hb dX11_wordOf_454 (by decide) ?_
    refine lv_iconst (v := 0) hx hb dX11_wordOf_456 (by decide) ?_
    refine lv_iconst (v := 0) hx hb dX11_wordOf_457 (by decide) ?_
    have k_116 : (116 : Int32).toInt = 116 := by decide
    have k_97 : (97 : Int32).toInt = 97 := by decide
    have k_107 : (107 : Int32).toInt = 107 := by decide
    have k_101 : (101 : Int32).toInt = 101 := by decide
    have k_110 : (110 : Int32).toInt = 110 := by decide
    refine jr_l (rSr (As := [.int 116, .int 97, .int 107, .int 101, .int 110, .int 0, .int 0]) (rest := []) ⟨hx, hb, hml, hown, hts⟩ (m_spelt l dC dI cy 116 97 107 101 110 0 0 ) (cw_X11_58 hts rfl rfl ⟨Nat.le_of_ble_eq_true rfl, Nat.le_of_ble_eq_true rfl⟩) hP hK [] rfl rfl hl.1 rfl (Nat.le_of_ble_eq_true rfl) dX11_wordOf_458 ⟨Nat.le_of_ble_eq_true rfl, Nat.le_of_ble_eq_true rfl⟩) hP hS (fun r_44 H locs hp_45 hP hS => ?_)
    rw [hQ9]
    exact rr_l hx hb hr hlocks trivial hS dX11_wordOf_461
  by_cases sw_1_22 : vk.toInt = 22
  · refine as_i 22 (i_eq.mpr (sw_1_22.trans k_22.symm)) ?_
    refine lv_tableIn (off := 461) (tgt := 462) hx hb dX11_wordOf_1 (by decide) (by decide) (by decide) (by decide) ?_
    refine lv_bipush (v := 108) hx hb dX11_wordOf_462 (by decide) ?_
    refine lv_bipush (v := 101) hx hb dX11_wordOf_464 (by decide) ?_
    refine lv_bipush (v := 110) hx hb dX11_wordOf_466 (by decide) ?_
    refine lv_bipush (v := 100) hx hb dX11_wordOf_468 (by decide) ?_
    refine lv_bipush (v := 105) hx hb dX11_wordOf_470 (by decide) ?_
    refine lv_bipush (v := 110) hx hb dX11_wordOf_472 (by decide) ?_
    refine lv_bipush (v := 103) hx hb dX11_wordOf_474 (by decide) ?_
    have k_108 : (108 : Int32).toInt = 108 := by decide
    have k_101 : (101 : Int32).toInt = 101 := by decide
    have k_110 : (110 : Int32).toInt = 110 := by decide
    have k_100 : (100 : Int32).toInt = 100 := by decide
    have k_105 : (105 : Int32).toInt = 105 := by decide
    have k_103 : (103 : Int32).toInt = 103 := by decide
    refine jr_l (rSr (As := [.int 108, .int 101, .int 110, .int 100, .int 105, .int 110, .int 103]) (rest := []) ⟨hx, hb, hml, hown, hts⟩ (m_spelt l dC dI cy 108 101 110 100 105 110 103 ) (cw_X11_58 hts rfl rfl ⟨Nat.le_of_ble_eq_true rfl, Nat.le_of_ble_eq_true rfl⟩) hP hK [] rfl rfl hl.1 rfl (Nat.le_of_ble_eq_true rfl) dX11_wordOf_476 ⟨Nat.le_of_ble_eq_true rfl, Nat.le_of_ble_eq_true rfl⟩) hP hS (fun r_46 H locs hp_47 hP hS => ?_)
    rw [hQ9]
    exact rr_l hx hb hr hlocks trivial hS dX11_wordOf_479
  by_cases sw_1_23 : vk.toInt = 23
  · refine as_i 23 (i_eq.mpr (sw_1_23.trans k_23.symm)) ?_
    refine lv_tableIn (off := 479) (tgt := 480) hx hb dX11_wordOf_1 (by decide) (by decide) (by decide) (by decide) ?_
    refine lv_bipush (v := 104) hx hb dX11_wordOf_480 (by decide) ?_
    refine lv_bipush (v := 97) hx hb dX11_wordOf_482 (by decide) ?_
    refine lv_bipush (v := 115) hx hb dX11_wordOf_484 (by decide) ?_
    refine lv_iconst (v := 0) hx hb dX11_wordOf_486 (by decide) ?_
    refine lv_iconst (v := 0) hx hb dX11_wordOf_487 (by decide) ?_
    refine lv_iconst (v := 0) hx hb dX11_wordOf_488 (by decide) ?_
    refine lv_iconst (v := 0) hx hb dX11_wordOf_489 (by decide) ?_
    have k_104 : (104 : Int32).toInt = 104 := by decide
    have k_97 : (97 : Int32).toInt = 97 := by decide
    have k_115 : (115 : Int32).toInt = 115 := by decide
    refine jr_l (rSr (As := [.int 104, .int 97, .int 115, .int 0, .int 0, .int 0, .int 0]) (rest := []) ⟨hx, hb, hml, hown, hts⟩ (m_spelt l dC dI cy 104 97 115 0 0 0 0 ) (cw_X11_58 hts rfl rfl ⟨Nat.le_of_ble_eq_true rfl, Nat.le_of_ble_eq_true rfl⟩) hP hK [] rfl rfl hl.1 rfl (Nat.le_of_ble_eq_true rfl) dX11_wordOf_490 ⟨Nat.le_of_ble_eq_true rfl, Nat.le_of_ble_eq_true rfl⟩) hP hS (fun r_48 H locs hp_49 hP hS => ?_)
    rw [hQ9]
    exact rr_l hx hb hr hlocks trivial hS dX11_wordOf_493
  by_cases sw_1_24 : vk.toInt = 24
  · refine as_i 24 (i_eq.mpr (sw_1_24.trans k_24.symm)) ?_
    refine lv_tableIn (off := 493) (tgt := 494) hx hb dX11_wordOf_1 (by decide) (by decide) (by decide) (by decide) ?_
    refine lv_bipush (v := 97) hx hb dX11_wordOf_494 (by decide) ?_
    refine lv_bipush (v := 107) hx hb dX11_wordOf_496 (by decide) ?_
    refine lv_bipush (v := 105) hx hb dX11_wordOf_498 (by decide) ?_
    refine lv_bipush (v := 110) hx hb dX11_wordOf_500 (by decide) ?_
    refine lv_iconst (v := 0) hx hb dX11_wordOf_502 (by decide) ?_
    refine lv_iconst (v := 0) hx hb dX11_wordOf_503 (by decide) ?_
    refine lv_iconst (v := 0) hx hb dX11_wordOf_504 (by decide) ?_
    have k_97 : (97 : Int32).toInt = 97 := by decide
    have k_107 : (107 : Int32).toInt = 107 := by decide
    have k_105 : (105 : Int32).toInt = 105 := by decide
    have k_110 : (110 : Int32).toInt = 110 := by decide
    refine jr_l (rSr (As := [.int 97, .int 107, .int 105, .int 110, .int 0, .int 0, .int 0]) (rest := []) ⟨hx, hb, hml, hown, hts⟩ (m_spelt l dC dI cy 97 107 105 110 0 0 0 ) (cw_X11_58 hts rfl rfl ⟨Nat.le_of_ble_eq_true rfl, Nat.le_of_ble_eq_true rfl⟩) hP hK [] rfl rfl hl.1 rfl (Nat.le_of_ble_eq_true rfl) dX11_wordOf_505 ⟨Nat.le_of_ble_eq_true rfl, Nat.le_of_ble_eq_true rfl⟩) hP hS (fun r_50 H locs hp_51 hP hS => ?_)
    rw [hQ9]
    exact rr_l hx hb hr hlocks trivial hS dX11_wordOf_508
  by_cases sw_1_25 : vk.toInt = 25
  · refine as_i 25 (i_eq.mpr (sw_1_25.trans k_25.symm)) ?_
    refine lv_tableIn (off := 508) (tgt := 509) hx hb dX11_wordOf_1 (by decide) (by decide) (by decide) (by decide) ?_
    refine lv_bipush (v := 119) hx hb dX11_wordOf_509 (by decide) ?_
    refine lv_bipush (v := 104) hx hb dX11_wordOf_511 (by decide) ?_
    refine lv_bipush (v := 105) hx hb dX11_wordOf_513 (by decide) ?_
    refine lv_bipush (v := 116) hx hb dX11_wordOf_515 (by decide) ?_
    refine lv_bipush (v := 101) hx hb dX11_wordOf_517 (by decide) ?_
    refine lv_iconst (v := 0) hx hb dX11_wordOf_519 (by decide) ?_
    refine lv_iconst (v := 0) hx hb dX11_wordOf_520 (by decide) ?_
    have k_119 : (119 : Int32).toInt = 119 := by decide
    have k_104 : (104 : Int32).toInt = 104 := by decide
    have k_105 : (105 : Int32).toInt = 105 := by decide
    have k_116 : (116 : Int32).toInt = 116 := by decide
    have k_101 : (101 : Int32).toInt = 101 := by decide
    refine jr_l (rSr (As := [.int 119, .int 104, .int 105, .int 116, .int 101, .int 0, .int 0]) (rest := []) ⟨hx, hb, hml, hown, hts⟩ (m_spelt l dC dI cy 119 104 105 116 101 0 0 ) (cw_X11_58 hts rfl rfl ⟨Nat.le_of_ble_eq_true rfl, Nat.le_of_ble_eq_true rfl⟩) hP hK [] rfl rfl hl.1 rfl (Nat.le_of_ble_eq_true rfl) dX11_wordOf_521 ⟨Nat.le_of_ble_eq_true rfl, Nat.le_of_ble_eq_true rfl⟩) hP hS (fun r_52 H locs hp_53 hP hS => ?_)
    rw [hQ9]
    exact rr_l hx hb hr hlocks trivial hS dX11_wordOf_524
  by_cases sw_1_26 : vk.toInt = 26
  · refine as_i 26 (i_eq.mpr (sw_1_26.trans k_26.symm)) ?_
    refine lv_tableIn (off := 524) (tgt := 525) hx hb dX11_wordOf_1 (by decide) (by decide) (by decide) (by decide) ?_
    refine lv_bipush (v := 100) hx hb dX11_wordOf_525 (by decide) ?_
    refine lv_bipush (v := 97) hx hb dX11_wordOf_527 (by decide) ?_
    refine lv_bipush (v := 114) hx hb dX11_wordOf_529 (by decide) ?_
    refine lv_bipush (v := 107) hx hb dX11_wordOf_531 (by decide) ?_
    refine lv_iconst (v := 0) hx hb dX11_wordOf_533 (by decide) ?_
    refine lv_iconst (v := 0) hx hb dX11_wordOf_534 (by decide) ?_
    refine lv_iconst (v := 0) hx hb dX11_wordOf_535 (by decide) ?_
    have k_100 : (100 : Int32).toInt = 100 := by decide
    have k_97 : (97 : Int32).toInt = 97 := by decide
    have k_114 : (114 : Int32).toInt = 114 := by decide
    have k_107 : (107 : Int32).toInt = 107 := by decide
    refine jr_l (rSr (As := [.int 100, .int 97, .int 114, .int 107, .int 0, .int 0, .int 0]) (rest := []) ⟨hx, hb, hml, hown, hts⟩ (m_spelt l dC dI cy 100 97 114 107 0 0 0 ) (cw_X11_58 hts rfl rfl ⟨Nat.le_of_ble_eq_true rfl, Nat.le_of_ble_eq_true rfl⟩) hP hK [] rfl rfl hl.1 rfl (Nat.le_of_ble_eq_true rfl) dX11_wordOf_536 ⟨Nat.le_of_ble_eq_true rfl, Nat.le_of_ble_eq_true rfl⟩) hP hS (fun r_54 H locs hp_55 hP hS => ?_)
    rw [hQ9]
    exact rr_l hx hb hr hlocks trivial hS dX11_wordOf_539
  by_cases sw_1_27 : vk.toInt = 27
  · refine as_i 27 (i_eq.mpr (sw_1_27.trans k_27.symm)) ?_
    refine lv_tableIn (off := 539) (tgt := 540) hx hb dX11_wordOf_1 (by decide) (by decide) (by decide) (by decide) ?_
    refine lv_bipush (v := 97) hx hb dX11_wordOf_540 (by decide) ?_
    refine lv_bipush (v := 103) hx hb dX11_wordOf_542 (by decide) ?_
    refine lv_bipush (v := 101) hx hb dX11_wordOf_544 (by decide) ?_
    refine lv_iconst (v := 0) hx hb dX11_wordOf_546 (by decide) ?_
    refine lv_iconst (v := 0) hx hb dX11_wordOf_547 (by decide) ?_
    refine lv_iconst (v := 0) hx hb dX11_wordOf_548 (by decide) ?_
    refine lv_iconst (v := 0) hx hb dX11_wordOf_549 (by decide) ?_
    have k_97 : (97 : Int32).toInt = 97 := by decide
    have k_103 : (103 : Int32).toInt = 103 := by decide
    have k_101 : (101 : Int32).toInt = 101 := by decide
    refine jr_l (rSr (As := [.int 97, .int 103, .int 101, .int 0, .int 0, .int 0, .int 0]) (rest := []) ⟨hx, hb, hml, hown, hts⟩ (m_spelt l dC dI cy 97 103 101 0 0 0 0 ) (cw_X11_58 hts rfl rfl ⟨Nat.le_of_ble_eq_true rfl, Nat.le_of_ble_eq_true rfl⟩) hP hK [] rfl rfl hl.1 rfl (Nat.le_of_ble_eq_true rfl) dX11_wordOf_550 ⟨Nat.le_of_ble_eq_true rfl, Nat.le_of_ble_eq_true rfl⟩) hP hS (fun r_56 H locs hp_57 hP hS => ?_)
    rw [hQ9]
    exact rr_l hx hb hr hlocks trivial hS dX11_wordOf_553
  refine lv_tableOut (tgt := 554) hx hb dX11_wordOf_1 (by omega) (by decide) ?_
  refine lv_bipush (v := 110) hx hb dX11_wordOf_554 (by decide) ?_
  refine lv_bipush (v := 117) hx hb dX11_wordOf_556 (by decide) ?_
  refine lv_bipush (v := 109) hx hb dX11_wordOf_558 (by decide) ?_
  refine lv_bipush (v := 98) hx hb dX11_wordOf_560 (by decide) ?_
  refine lv_bipush (v := 101) hx hb dX11_wordOf_562 (by decide) ?_
  refine lv_bipush (v := 114) hx hb dX11_wordOf_564 (by decide) ?_
  refine lv_iconst (v := 0) hx hb dX11_wordOf_566 (by decide) ?_
  have k_110 : (110 : Int32).toInt = 110 := by decide
  have k_117 : (117 : Int32).toInt = 117 := by decide
  have k_109 : (109 : Int32).toInt = 109 := by decide
  have k_98 : (98 : Int32).toInt = 98 := by decide
  have k_101 : (101 : Int32).toInt = 101 := by decide
  have k_114 : (114 : Int32).toInt = 114 := by decide
  refine jr_l (rSr (As := [.int 110, .int 117, .int 109, .int 98, .int 101, .int 114, .int 0]) (rest := []) ⟨hx, hb, hml, hown, hts⟩ (m_spelt l dC dI cy 110 117 109 98 101 114 0 ) (cw_X11_58 hts rfl rfl ⟨Nat.le_of_ble_eq_true rfl, Nat.le_of_ble_eq_true rfl⟩) hP hK [] rfl rfl hl.1 rfl (Nat.le_of_ble_eq_true rfl) dX11_wordOf_567 ⟨Nat.le_of_ble_eq_true rfl, Nat.le_of_ble_eq_true rfl⟩) hP hS (fun r_58 H locs hp_59 hP hS => ?_)
  rw [hQ9]
  exact rr_l hx hb hr hlocks trivial hS dX11_wordOf_570
abbrev cX11_isWord : ByteArray := prog_13_method_19_code
def yX11_isWord : MethodName := ⟨RX11, "isWord", "(I)Z"⟩
theorem t1619 : Cond.code yX11_isWord cX11_isWord 2 (some .boolean) ∈ GW := gw_mem 1733 (by decide +kernel) (by decide +kernel)
theorem dX11_isWord_0 : decode cX11_isWord 0 = .ok (.aload_n 0, 1) := by decide +kernel
theorem dX11_isWord_1 : decode cX11_isWord 1 = .ok (.getfield 30, 3) := by decide +kernel
theorem gf_X11_30 {p : Program} {l : Launch} {e : Env} {R : Room} {s : State} {m : MethodId} {args : Array Value} {below : List Frame} {meth : Method} {c : Code} {H : Heap} {locs : List Loc} {cells slots : Nat} {Q : State → Prop} {cc : ByteArray} {pc : Nat} {ls : Array Slot} {rest : List Value} {D : va_G} {a : Nat} {tys : List (ClassId × FieldType)} {ws : va_W} (hx : p.tables.exec = Jvm.exec) (hb : c.code = cc) (hts : ∀ w ∈ GW, w.before args s = true) (hown : s.vm.findClass RX11 = some m.cls) (hK : va_K D vwCl tys s) (hP : va_P D vwCl ws H) (q0 : Nat) {fs : List Value} (he : ws[q0]? = some (a, .inr (12, fs))) {v : Value} (hv : fs[7]? = some v) (hdg : decode cc pc = .ok (.getfield 30, 3)) (kk : W p l e R s m args below meth c H locs cells slots Q (F0 m (pc + 3) ls (v :: rest))) : W p l e R s m args below meth c H locs cells slots Q (F0 m pc ls (.ref a :: rest)) := va_get (C := RX11) (T := TX11) (N := 47) (ci := 12) hx hb hts inX11 hown hK hP q0 he rfl 7 (by decide) (hts _ t1449) (fun _ h => h) hv hdg kk
theorem dX11_isWord_4 : decode cX11_isWord 4 = .ok (.iconst 2, 1) := by decide +kernel
theorem dX11_isWord_5 : decode cX11_isWord 5 = .ok (.if_icmp .ne 19, 3) := by decide +kernel
theorem dX11_isWord_24 : decode cX11_isWord 24 = .ok (.iconst 0, 1) := by decide +kernel
theorem dX11_isWord_25 : decode cX11_isWord 25 = .ok (.ireturn, 1) := by decide +kernel
theorem dX11_isWord_8 : decode cX11_isWord 8 = .ok (.aload_n 0, 1) := by decide +kernel
theorem dX11_isWord_9 : decode cX11_isWord 9 = .ok (.getfield 43, 3) := by decide +kernel
theorem dX11_isWord_12 : decode cX11_isWord 12 = .ok (.iload_n 1, 1) := by decide +kernel
theorem dX11_isWord_13 : decode cX11_isWord 13 = .ok (.invokestatic 62, 3) := by decide +kernel
theorem t1620 : Cond.methodLink RX11 62 yX11_wordOf ∈ GW := gw_mem 1734 (by decide +kernel) (by decide +kernel)
theorem t1621 : Cond.static yX11_wordOf ∈ GW := gw_mem 1735 (by decide +kernel) (by decide +kernel)
theorem cw_X11_62 {R : Room} {s : State} {args : Array Value} {rm : Room} {mc ms : Nat} (hts : ∀ w ∈ GW, w.before args s = true) (hrc : rm.cells = mc) (hrs : rm.slots = ms) (hR : rm.frames + 1 ≤ R.frames ∧ 8 + (1 + 11) + rm.locals ≤ R.locals) : CallB R s args RX11 62 yX11_wordOf cX11_wordOf 1 (some .long) (wl yX11_wordOf cX11_wordOf 1 (some .long)) rm mc ms 1 ∧ (Cond.static yX11_wordOf).before args s = true := va_cwS 1 hts (gi_S t1620 t1621 t18 t1622) rfl hrc hrs (by decide +kernel) hR
theorem dX11_isWord_16 : decode cX11_isWord 16 = .ok (.lcmp, 1) := by decide +kernel
theorem dX11_isWord_17 : decode cX11_isWord 17 = .ok (.ifCond .ne 7, 3) := by decide +kernel
theorem dX11_isWord_20 : decode cX11_isWord 20 = .ok (.iconst 1, 1) := by decide +kernel
theorem dX11_isWord_21 : decode cX11_isWord 21 = .ok (.goto 4, 3) := by decide +kernel
set_option maxHeartbeats 4000000 in
set_option maxRecDepth 100000 in
theorem m_isWord (l : Launch) (dC : Nat → ClassId) (dI : Nat → Nat → Nat) (cy : Nat → ClassId) (vo : Nat) (voth : Int32) (vmt : Nat) (votp : Int32) (vosz : Int32) (volm : Int32) (voto : Int32) (vofr : Int32) (vokd : Int32) (vonu : Int32) (vosg : Int32) (vofa : Int32) (vopl : Int32) (vowd : Int64) (votd : Int32) (vmn : Nat) (vmr : Nat) (vmk : Nat) (vms : Nat) (vma : Nat) (vmm : Nat) (vmrn : Nat) (vmkn : Nat) (vmik : Nat) (vmon : Nat) (vosm : Int32) (vohp : Int32) (vmw : Nat) (vmf : Nat) (vmb : Nat) (vomb : Int32) (vmd : Nat) (vmc : Nat) (vocm : Int32) (voct : Int32) (vocy : Int32) (vmx : Nat) (votx : Int32) (vose : Int32) (vml : Nat) (vmwr : Nat) (voln : Int32) (vohw : Int32) (vmno : Nat) (vond : Int32) (voon : Int32) (vowi : Int32) (votop : Int32) (vk : Int32)  : Met l yX11_isWord (wl yX11_isWord cX11_isWord 2 (some .boolean)) ({ frames := 2, cells := 0, slots := 0, locals := 128 }) (Pr (dC, dI) vwCl cy [(vo, .inr (12, [.int voth, .ref vmt, .int votp, .int vosz, .int volm, .int voto, .int vofr, .int vokd, .int vonu, .int vosg, .int vofa, .int vopl, .long vowd, .int votd, .ref vmn, .ref vmr, .ref vmk, .ref vms, .ref vma, .ref vmm, .ref vmrn, .ref vmkn, .ref vmik, .ref vmon, .int vosm, .int vohp, .ref vmw, .ref vmf, .ref vmb, .int vomb, .ref vmd, .ref vmc, .int vocm, .int voct, .int vocy, .ref vmx, .int votx, .int vose, .ref vml, .ref vmwr, .int voln, .int vohw, .ref vmno, .int vond, .int voon, .int vowi, .int votop]))] [.ref vo, .int vk]) (Ri (fun r => ((r = 0) ∨ (r = 1 ∧ (vokd : Int32).toInt = 2)))) 0 0 (fun _ => False) := by
  refine mr RX11 rfl (by decide +kernel) (Nat.le_of_ble_eq_true rfl) ?_
  intro p e s m below meth c hx hb hr hlocks av9 hav hts hown hml hK hP hS Q9 hQ9 ls hl
  have hl : lv_has ls 2 [(0, .ref vo), (1, .int vk)] := hl
  refine lv_aload_n hx hb dX11_isWord_0 rfl (lv_at hl 0 rfl) ?_
  refine gf_X11_30 hx hb hts hown hK hP 0 rfl rfl dX11_isWord_1 ?_
  refine lv_iconst (v := 2) hx hb dX11_isWord_4 (by decide) ?_
  have k_2 : (2 : Int32).toInt = 2 := by decide
  refine lv_icmp_ne (tgt := 24) hx hb dX11_isWord_5 (by decide) (fun c_1 => ?_) (fun c_1 => ?_)
  · skip
    have c_1 : ¬ (vokd.toInt = (2 : Int32).toInt) := fun h9 => c_1 (i_eq.mpr h9)
    refine lv_iconst (v := 0) hx hb dX11_isWord_24 (by decide) ?_
    have k_0 : (0 : Int32).toInt = 0 := by decide
    rw [hQ9]
    exact rr_z hx hb hr hlocks (Or.inl rfl) (show ((0 : Int32) = 0) ∨ ((0 : Int32) = 1 ∧ (vokd : Int32).toInt = 2) from (Or.inl rfl)) hS dX11_isWord_25
  · skip
    have c_1 : vokd.toInt = (2 : Int32).toInt := i_eq.mp c_1
    refine lv_aload_n hx hb dX11_isWord_8 rfl (lv_at hl 0 rfl) ?_
    refine gf_X11_43 hx hb hts hown hK hP 0 rfl rfl dX11_isWord_9 ?_
    refine lv_iload_n hx hb dX11_isWord_12 rfl (lv_at hl 1 rfl) ?_
    refine jr_l (rSr (As := [.int vk]) (rest := [.long vowd]) ⟨hx, hb, hml, hown, hts⟩ (m_wordOf l dC dI cy vk ) (cw_X11_62 hts rfl rfl ⟨Nat.le_of_ble_eq_true rfl, Nat.le_of_ble_eq_true rfl⟩) hP hK [] rfl rfl hl.1 rfl (Nat.le_of_ble_eq_true rfl) dX11_isWord_13 ⟨Nat.le_of_ble_eq_true rfl, Nat.le_of_ble_eq_true rfl⟩) hP hS (fun r_2 H locs hp_3 hP hS => ?_)
    refine W.lcmp hx hb dX11_isWord_16 ?_
    refine lv_topi (fun z_4 ez_4 => ?_)
    have k_0 : (0 : Int32).toInt = 0 := by decide
    refine lv_if_ne (tgt := 24) hx hb dX11_isWord_17 (by decide) (fun c_5 => ?_) (fun c_5 => ?_)
    · skip
      have c_5 : ¬ (z_4.toInt = (0 : Int32).toInt) := fun h9 => c_5 (i_eq.mpr h9)
      refine lv_iconst (v := 0) hx hb dX11_isWord_24 (by decide) ?_
      rw [hQ9]
      exact rr_z hx hb hr hlocks (Or.inl rfl) (show ((0 : Int32) = 0) ∨ ((0 : Int32) = 1 ∧ (vokd : Int32).toInt = 2) from (Or.inl rfl)) hS dX11_isWord_25
    · skip
      have c_5 : z_4.toInt = (0 : Int32).toInt := i_eq.mp c_5
      refine lv_iconst (v := 1) hx hb dX11_isWord_20 (by decide) ?_
      refine lv_goto (tgt := 25) hx hb dX11_isWord_21 (by decide) ?_
      have k_1 : (1 : Int32).toInt = 1 := by decide
      rw [hQ9]
      exact rr_z hx hb hr hlocks (Or.inr rfl) (show ((1 : Int32) = 0) ∨ ((1 : Int32) = 1 ∧ (vokd : Int32).toInt = 2) from (Or.inr (⟨rfl, by omega⟩))) hS dX11_isWord_25
abbrev cX11_isSign : ByteArray := prog_13_method_20_code
def yX11_isSign : MethodName := ⟨RX11, "isSign", "(I)Z"⟩
theorem t1698 : Cond.code yX11_isSign cX11_isSign 2 (some .boolean) ∈ GW := gw_mem 1812 (by decide +kernel) (by decide +kernel)
theorem dX11_isSign_0 : decode cX11_isSign 0 = .ok (.aload_n 0, 1) := by decide +kernel
theorem dX11_isSign_1 : decode cX11_isSign 1 = .ok (.getfield 30, 3) := by decide +kernel
theorem dX11_isSign_4 : decode cX11_isSign 4 = .ok (.iconst 4, 1) := by decide +kernel
theorem dX11_isSign_5 : decode cX11_isSign 5 = .ok (.if_icmp .ne 15, 3) := by decide +kernel
theorem dX11_isSign_20 : decode cX11_isSign 20 = .ok (.iconst 0, 1) := by decide +kernel
theorem dX11_isSign_21 : decode cX11_isSign 21 = .ok (.ireturn, 1) := by decide +kernel
theorem dX11_isSign_8 : decode cX11_isSign 8 = .ok (.aload_n 0, 1) := by decide +kernel
theorem dX11_isSign_9 : decode cX11_isSign 9 = .ok (.getfield 40, 3) := by decide +kernel
theorem gf_X11_40 {p : Program} {l : Launch} {e : Env} {R : Room} {s : State} {m : MethodId} {args : Array Value} {below : List Frame} {meth : Method} {c : Code} {H : Heap} {locs : List Loc} {cells slots : Nat} {Q : State → Prop} {cc : ByteArray} {pc : Nat} {ls : Array Slot} {rest : List Value} {D : va_G} {a : Nat} {tys : List (ClassId × FieldType)} {ws : va_W} (hx : p.tables.exec = Jvm.exec) (hb : c.code = cc) (hts : ∀ w ∈ GW, w.before args s = true) (hown : s.vm.findClass RX11 = some m.cls) (hK : va_K D vwCl tys s) (hP : va_P D vwCl ws H) (q0 : Nat) {fs : List Value} (he : ws[q0]? = some (a, .inr (12, fs))) {v : Value} (hv : fs[9]? = some v) (hdg : decode cc pc = .ok (.getfield 40, 3)) (kk : W p l e R s m args below meth c H locs cells slots Q (F0 m (pc + 3) ls (v :: rest))) : W p l e R s m args below meth c H locs cells slots Q (F0 m pc ls (.ref a :: rest)) := va_get (C := RX11) (T := TX11) (N := 47) (ci := 12) hx hb hts inX11 hown hK hP q0 he rfl 9 (by decide) (hts _ t1451) (fun _ h => h) hv hdg kk
theorem dX11_isSign_12 : decode cX11_isSign 12 = .ok (.iload_n 1, 1) := by decide +kernel
theorem dX11_isSign_13 : decode cX11_isSign 13 = .ok (.if_icmp .ne 7, 3) := by decide +kernel
theorem dX11_isSign_16 : decode cX11_isSign 16 = .ok (.iconst 1, 1) := by decide +kernel
theorem dX11_isSign_17 : decode cX11_isSign 17 = .ok (.goto 4, 3) := by decide +kernel
set_option maxHeartbeats 4000000 in
set_option maxRecDepth 100000 in
theorem m_isSign (l : Launch) (dC : Nat → ClassId) (dI : Nat → Nat → Nat) (cy : Nat → ClassId) (vo : Nat) (voth : Int32) (vmt : Nat) (votp : Int32) (vosz : Int32) (volm : Int32) (voto : Int32) (vofr : Int32) (vokd : Int32) (vonu : Int32) (vosg : Int32) (vofa : Int32) (vopl : Int32) (vowd : Int64) (votd : Int32) (vmn : Nat) (vmr : Nat) (vmk : Nat) (vms : Nat) (vma : Nat) (vmm : Nat) (vmrn : Nat) (vmkn : Nat) (vmik : Nat) (vmon : Nat) (vosm : Int32) (vohp : Int32) (vmw : Nat) (vmf : Nat) (vmb : Nat) (vomb : Int32) (vmd : Nat) (vmc : Nat) (vocm : Int32) (voct : Int32) (vocy : Int32) (vmx : Nat) (votx : Int32) (vose : Int32) (vml : Nat) (vmwr : Nat) (voln : Int32) (vohw : Int32) (vmno : Nat) (vond : Int32) (voon : Int32) (vowi : Int32) (votop : Int32) (vk : Int32)  : Met l yX11_isSign (wl yX11_isSign cX11_isSign 2 (some .boolean)) ({ frames := 0, cells := 0, slots := 0, locals := 0 }) (Pr (dC, dI) vwCl cy [(vo, .inr (12, [.int voth, .ref vmt, .int votp, .int vosz, .int volm, .int voto, .int vofr, .int vokd, .int vonu, .int vosg, .int vofa, .int vopl, .long vowd, .int votd, .ref vmn, .ref vmr, .ref vmk, .ref vms, .ref vma, .ref vmm, .ref vmrn, .ref vmkn, .ref vmik, .ref vmon, .int vosm, .int vohp, .ref vmw, .ref vmf, .ref vmb, .int vomb, .ref vmd, .ref vmc, .int vocm, .int voct, .int vocy, .ref vmx, .int votx, .int vose, .ref vml, .ref vmwr, .int voln, .int vohw, .ref vmno, .int vond, .int voon, .int vowi, .int votop]))] [.ref vo, .int vk]) (Ri (fun r => ((r = 0) ∨ (r = 1 ∧ (vokd : Int32).toInt = 4)))) 0 0 (fun _ => False) := by
  refine mr RX11 rfl (by decide +kernel) (Nat.le_of_ble_eq_true rfl) ?_
  intro p e s m below meth c hx hb hr hlocks av9 hav hts hown hml hK hP hS Q9 hQ9 ls hl
  have hl : lv_has ls 2 [(0, .ref vo), (1, .int vk)] := hl
  refine lv_aload_n hx hb dX11_isSign_0 rfl (lv_at hl 0 rfl) ?_
  refine gf_X11_30 hx hb hts hown hK hP 0 rfl rfl dX11_isSign_1 ?_
  refine lv_iconst (v := 4) hx hb dX11_isSign_4 (by decide) ?_
  have k_4 : (4 : Int32).toInt = 4 := by decide
  refine lv_icmp_ne (tgt := 20) hx hb dX11_isSign_5 (by decide) (fun c_1 => ?_) (fun c_1 => ?_)
  · skip
    have c_1 : ¬ (vokd.toInt = (4 : Int32).toInt) := fun h9 => c_1 (i_eq.mpr h9)
    refine lv_iconst (v := 0) hx hb dX11_isSign_20 (by decide) ?_
    have k_0 : (0 : Int32).toInt = 0 := by decide
    rw [hQ9]
    exact rr_z hx hb hr hlocks (Or.inl rfl) (show ((0 : Int32) = 0) ∨ ((0 : Int32) = 1 ∧ (vokd : Int32).toInt = 4) from (Or.inl rfl)) hS dX11_isSign_21
  · skip
    have c_1 : vokd.toInt = (4 : Int32).toInt := i_eq.mp c_1
    refine lv_aload_n hx hb dX11_isSign_8 rfl (lv_at hl 0 rfl) ?_
    refine gf_X11_40 hx hb hts hown hK hP 0 rfl rfl dX11_isSign_9 ?_
    refine lv_iload_n hx hb dX11_isSign_12 rfl (lv_at hl 1 rfl) ?_
    refine lv_icmp_ne (tgt := 20) hx hb dX11_isSign_13 (by decide) (fun c_2 => ?_) (fun c_2 => ?_)
    · skip
      have c_2 : ¬ (vosg.toInt = vk.toInt) := fun h9 => c_2 (i_eq.mpr h9)
      refine lv_iconst (v := 0) hx hb dX11_isSign_20 (by decide) ?_
      have k_0 : (0 : Int32).toInt = 0 := by decide
      rw [hQ9]
      exact rr_z hx hb hr hlocks (Or.inl rfl) (show ((0 : Int32) = 0) ∨ ((0 : Int32) = 1 ∧ (vokd : Int32).toInt = 4) from (Or.inl rfl)) hS dX11_isSign_21
    · skip
      have c_2 : vosg.toInt = vk.toInt := i_eq.mp c_2
      refine lv_iconst (v := 1) hx hb dX11_isSign_16 (by decide) ?_
      refine lv_goto (tgt := 21) hx hb dX11_isSign_17 (by decide) ?_
      have k_1 : (1 : Int32).toInt = 1 := by decide
      rw [hQ9]
      exact rr_z hx hb hr hlocks (Or.inr rfl) (show ((1 : Int32) = 0) ∨ ((1 : Int32) = 1 ∧ (vokd : Int32).toInt = 4) from (Or.inr (⟨rfl, by omega⟩))) hS dX11_isSign_21
abbrev cX11_isName : ByteArray := prog_13_method_21_code
def yX11_isName : MethodName := ⟨RX11, "isName", "()Z"⟩
theorem t1645 : Cond.code yX11_isName cX11_isName 2 (some .boolean) ∈ GW := gw_mem 1759 (by decide +kernel) (by decide +kernel)
theorem dX11_isName_0 : decode cX11_isName 0 = .ok (.aload_n 0, 1) := by decide +kernel
theorem dX11_isName_1 : decode cX11_isName 1 = .ok (.getfield 30, 3) := by decide +kernel
theorem dX11_isName_4 : decode cX11_isName 4 = .ok (.iconst 2, 1) := by decide +kernel
theorem dX11_isName_5 : decode cX11_isName 5 = .ok (.if_icmp .eq 5, 3) := by decide +kernel
theorem dX11_isName_10 : decode cX11_isName 10 = .ok (.iconst 0, 1) := by decide +kernel
theorem dX11_isName_11 : decode cX11_isName 11 = .ok (.istore_n 1, 1) := by decide +kernel
theorem dX11_isName_12 : decode cX11_isName 12 = .ok (.iload_n 1, 1) := by decide +kernel
theorem dX11_isName_13 : decode cX11_isName 13 = .ok (.bipush 28, 2) := by decide +kernel
theorem dX11_isName_15 : decode cX11_isName 15 = .ok (.if_icmp .gt 23, 3) := by decide +kernel
theorem dX11_isName_38 : decode cX11_isName 38 = .ok (.iconst 1, 1) := by decide +kernel
theorem dX11_isName_39 : decode cX11_isName 39 = .ok (.ireturn, 1) := by decide +kernel
theorem dX11_isName_18 : decode cX11_isName 18 = .ok (.aload_n 0, 1) := by decide +kernel
theorem dX11_isName_19 : decode cX11_isName 19 = .ok (.getfield 43, 3) := by decide +kernel
theorem dX11_isName_22 : decode cX11_isName 22 = .ok (.iload_n 1, 1) := by decide +kernel
theorem dX11_isName_23 : decode cX11_isName 23 = .ok (.invokestatic 62, 3) := by decide +kernel
theorem dX11_isName_26 : decode cX11_isName 26 = .ok (.lcmp, 1) := by decide +kernel
theorem dX11_isName_27 : decode cX11_isName 27 = .ok (.ifCond .ne 5, 3) := by decide +kernel
theorem dX11_isName_32 : decode cX11_isName 32 = .ok (.iinc 1 1, 3) := by decide +kernel
theorem dX11_isName_35 : decode cX11_isName 35 = .ok (.goto (-23), 3) := by decide +kernel
theorem dX11_isName_30 : decode cX11_isName 30 = .ok (.iconst 0, 1) := by decide +kernel
theorem dX11_isName_31 : decode cX11_isName 31 = .ok (.ireturn, 1) := by decide +kernel
theorem dX11_isName_8 : decode cX11_isName 8 = .ok (.iconst 0, 1) := by decide +kernel
theorem dX11_isName_9 : decode cX11_isName 9 = .ok (.ireturn, 1) := by decide +kernel
set_option maxHeartbeats 4000000 in
set_option maxRecDepth 100000 in
theorem m_isName (l : Launch) (dC : Nat → ClassId) (dI : Nat → Nat → Nat) (cy : Nat → ClassId) (vo : Nat) (voth : Int32) (vmt : Nat) (votp : Int32) (vosz : Int32) (volm : Int32) (voto : Int32) (vofr : Int32) (vokd : Int32) (vonu : Int32) (vosg : Int32) (vofa : Int32) (vopl : Int32) (vowd : Int64) (votd : Int32) (vmn : Nat) (vmr : Nat) (vmk : Nat) (vms : Nat) (vma : Nat) (vmm : Nat) (vmrn : Nat) (vmkn : Nat) (vmik : Nat) (vmon : Nat) (vosm : Int32) (vohp : Int32) (vmw : Nat) (vmf : Nat) (vmb : Nat) (vomb : Int32) (vmd : Nat) (vmc : Nat) (vocm : Int32) (voct : Int32) (vocy : Int32) (vmx : Nat) (votx : Int32) (vose : Int32) (vml : Nat) (vmwr : Nat) (voln : Int32) (vohw : Int32) (vmno : Nat) (vond : Int32) (voon : Int32) (vowi : Int32) (votop : Int32)  : Met l yX11_isName (wl yX11_isName cX11_isName 2 (some .boolean)) ({ frames := 2, cells := 0, slots := 0, locals := 128 }) (Pr (dC, dI) vwCl cy [(vo, .inr (12, [.int voth, .ref vmt, .int votp, .int vosz, .int volm, .int voto, .int vofr, .int vokd, .int vonu, .int vosg, .int vofa, .int vopl, .long vowd, .int votd, .ref vmn, .ref vmr, .ref vmk, .ref vms, .ref vma, .ref vmm, .ref vmrn, .ref vmkn, .ref vmik, .ref vmon, .int vosm, .int vohp, .ref vmw, .ref vmf, .ref vmb, .int vomb, .ref vmd, .ref vmc, .int vocm, .int voct, .int vocy, .ref vmx, .int votx, .int vose, .ref vml, .ref vmwr, .int voln, .int vohw, .ref vmno, .int vond, .int voon, .int vowi, .int votop]))] [.ref vo]) (Ri (fun r => ((r = 0) ∨ (r = 1)))) 0 0 (fun _ => False) := by
  refine mr RX11 rfl (by decide +kernel) (Nat.le_of_ble_eq_true rfl) ?_
  intro p e s m below meth c hx hb hr hlocks av9 hav hts hown hml hK hP hS Q9 hQ9 ls hl
  have hl : lv_has ls 2 [(0, .ref vo)] := hl
  refine lv_aload_n hx hb dX11_isName_0 rfl (lv_at hl 0 rfl) ?_
  refine gf_X11_30 hx hb hts hown hK hP 0 rfl rfl dX11_isName_1 ?_
  refine lv_iconst (v := 2) hx hb dX11_isName_4 (by decide) ?_
  have k_2 : (2 : Int32).toInt = 2 := by decide
  refine lv_icmp_eq (tgt := 10) hx hb dX11_isName_5 (by decide) (fun c_1 => ?_) (fun c_1 => ?_)
  · skip
    have c_1 : vokd.toInt = (2 : Int32).toInt := i_eq.mp c_1
    refine lv_iconst (v := 0) hx hb dX11_isName_10 (by decide) ?_
    refine lv_istore_n (lv' := [(1, .int 0), (0, .ref vo)]) hx hb dX11_isName_11 rfl hl (by decide) rfl (fun ls hl => ?_)
    have loop2 : ∀ (n2 : Nat) (x_3 : Int32), (0 ≤ x_3.toInt ∧ x_3.toInt ≤ 29) → 29 - x_3.toInt < (n2 : Int) → ∀ (H : Heap) (locs : List Loc), va_P (dC, dI) vwCl [(vo, .inr (12, [.int voth, .ref vmt, .int votp, .int vosz, .int volm, .int voto, .int vofr, .int vokd, .int vonu, .int vosg, .int vofa, .int vopl, .long vowd, .int votd, .ref vmn, .ref vmr, .ref vmk, .ref vms, .ref vma, .ref vmm, .ref vmrn, .ref vmkn, .ref vmik, .ref vmon, .int vosm, .int vohp, .ref vmw, .ref vmf, .ref vmb, .int vomb, .ref vmd, .ref vmc, .int vocm, .int voct, .int vocy, .ref vmx, .int votx, .int vose, .ref vml, .ref vmwr, .int voln, .int vohw, .ref vmno, .int vond, .int voon, .int vowi, .int votop]))] H → va_S (fun _ => False) s.heap H locs → ∀ ls : Array Slot, lv_has ls 2 [(1, .int x_3), (0, .ref vo)] → W p l e ({ frames := 2, cells := 0, slots := 0, locals := 128 }) s m av9 below meth c H locs 0 0 Q9 (F0 m 12 ls []) := by
      intro n2
      induction n2 with
      | zero =>
        intro x_3 bx_3 hn2 H locs hP hS ls hl
        exfalso; omega
      | succ n2 ih2 =>
        intro x_3 bx_3 hn2 H locs hP hS ls hl
        refine lv_iload_n hx hb dX11_isName_12 rfl (lv_at hl 0 rfl) ?_
        refine lv_bipush (v := 28) hx hb dX11_isName_13 (by decide) ?_
        have k_28 : (28 : Int32).toInt = 28 := by decide
        refine lv_icmp_gt (tgt := 38) hx hb dX11_isName_15 (by decide) (fun c_4 => ?_) (fun c_4 => ?_)
        · skip
          have c_4 : (28 : Int32).toInt < x_3.toInt := i_lt.mp c_4
          refine lv_iconst (v := 1) hx hb dX11_isName_38 (by decide) ?_
          have k_1 : (1 : Int32).toInt = 1 := by decide
          rw [hQ9]
          exact rr_z hx hb hr hlocks (Or.inr rfl) (show ((1 : Int32) = 0) ∨ ((1 : Int32) = 1) from (Or.inr (rfl))) hS dX11_isName_39
        · skip
          have c_4 : ¬ ((28 : Int32).toInt < x_3.toInt) := fun h9 => c_4 (i_lt.mpr h9)
          refine lv_aload_n hx hb dX11_isName_18 rfl (lv_at hl 1 rfl) ?_
          refine gf_X11_43 hx hb hts hown hK hP 0 rfl rfl dX11_isName_19 ?_
          refine lv_iload_n hx hb dX11_isName_22 rfl (lv_at hl 0 rfl) ?_
          refine jr_l (rSr (As := [.int x_3]) (rest := [.long vowd]) ⟨hx, hb, hml, hown, hts⟩ (m_wordOf l dC dI cy x_3 ) (cw_X11_62 hts rfl rfl ⟨Nat.le_of_ble_eq_true rfl, Nat.le_of_ble_eq_true rfl⟩) hP hK [] rfl rfl hl.1 rfl (Nat.le_of_ble_eq_true rfl) dX11_isName_23 ⟨Nat.le_of_ble_eq_true rfl, Nat.le_of_ble_eq_true rfl⟩) hP hS (fun r_5 H locs hp_6 hP hS => ?_)
          refine W.lcmp hx hb dX11_isName_26 ?_
          refine lv_topi (fun z_7 ez_7 => ?_)
          have k_0 : (0 : Int32).toInt = 0 := by decide
          refine lv_if_ne (tgt := 32) hx hb dX11_isName_27 (by decide) (fun c_8 => ?_) (fun c_8 => ?_)
          · skip
            have c_8 : ¬ (z_7.toInt = (0 : Int32).toInt) := fun h9 => c_8 (i_eq.mpr h9)
            obtain ⟨z_9, ez_9⟩ : ∃ z : Int32, z = x_3 + 1 := ⟨_, rfl⟩
            have k_1 : (1 : Int32).toInt = 1 := by decide
            have bz_9 : z_9.toInt = x_3.toInt + (1 : Int32).toInt := i_add ez_9 (by omega) (by omega)
            refine lv_iinc (v := z_9) (lv' := [(1, .int z_9), (0, .ref vo)]) hx hb dX11_isName_32 hl (k := 0) rfl ez_9.symm (by decide) rfl (fun ls hl => ?_)
            refine lv_goto (tgt := 12) hx hb dX11_isName_35 (by decide) ?_
            exact ih2 z_9 ⟨by omega, by omega⟩ (by omega) _ _ (hP.sub [0] rfl) hS ls (lv_sub hl [0, 1] rfl)
          · skip
            have c_8 : z_7.toInt = (0 : Int32).toInt := i_eq.mp c_8
            refine lv_iconst (v := 0) hx hb dX11_isName_30 (by decide) ?_
            rw [hQ9]
            exact rr_z hx hb hr hlocks (Or.inl rfl) (show ((0 : Int32) = 0) ∨ ((0 : Int32) = 1) from (Or.inl rfl)) hS dX11_isName_31
    have k_0 : (0 : Int32).toInt = 0 := by decide
    exact loop2 ((29 - (0 : Int32).toInt).toNat + 1) 0 ⟨by omega, by omega⟩ (by omega) _ _ hP hS ls (lv_sub hl [0, 1] rfl)
  · skip
    have c_1 : ¬ (vokd.toInt = (2 : Int32).toInt) := fun h9 => c_1 (i_eq.mpr h9)
    refine lv_iconst (v := 0) hx hb dX11_isName_8 (by decide) ?_
    have k_0 : (0 : Int32).toInt = 0 := by decide
    rw [hQ9]
    exact rr_z hx hb hr hlocks (Or.inl rfl) (show ((0 : Int32) = 0) ∨ ((0 : Int32) = 1) from (Or.inl rfl)) hS dX11_isName_9
abbrev cX11_bad : ByteArray := prog_13_method_22_code
def yX11_bad : MethodName := ⟨RX11, "bad", "(I)Z"⟩
theorem t1637 : Cond.code yX11_bad cX11_bad 2 (some .boolean) ∈ GW := gw_mem 1751 (by decide +kernel) (by decide +kernel)
abbrev O_m_bad (cy : Nat → ClassId) (vo : Nat) (voth : Int32) (vmt : Nat) (votp : Int32) (vosz : Int32) (volm : Int32) (voto : Int32) (vofr : Int32) (vokd : Int32) (vonu : Int32) (vosg : Int32) (vofa : Int32) (vopl : Int32) (vowd : Int64) (votd : Int32) (vmn : Nat) (vmr : Nat) (vmk : Nat) (vms : Nat) (vma : Nat) (vmm : Nat) (vmrn : Nat) (vmkn : Nat) (vmik : Nat) (vmon : Nat) (vosm : Int32) (vohp : Int32) (vmw : Nat) (vmf : Nat) (vmb : Nat) (vomb : Int32) (vmd : Nat) (vmc : Nat) (vocm : Int32) (voct : Int32) (vocy : Int32) (vmx : Nat) (votx : Int32) (vose : Int32) (vml : Nat) (vmwr : Nat) (voln : Int32) (vohw : Int32) (vmno : Nat) (vond : Int32) (voon : Int32) (vowi : Int32) (votop : Int32) (vk : Int32) (u : Int32 × Int32) : va_W := [(vo, .inr (12, [.int voth, .ref vmt, .int votp, .int vosz, .int volm, .int voto, .int vofr, .int vokd, .int vonu, .int vosg, .int u.1, .int u.2, .long vowd, .int votd, .ref vmn, .ref vmr, .ref vmk, .ref vms, .ref vma, .ref vmm, .ref vmrn, .ref vmkn, .ref vmik, .ref vmon, .int vosm, .int vohp, .ref vmw, .ref vmf, .ref vmb, .int vomb, .ref vmd, .ref vmc, .int vocm, .int voct, .int vocy, .ref vmx, .int votx, .int vose, .ref vml, .ref vmwr, .int voln, .int vohw, .ref vmno, .int vond, .int voon, .int vowi, .int votop]))]
theorem dX11_bad_0 : decode cX11_bad 0 = .ok (.aload_n 0, 1) := by decide +kernel
theorem dX11_bad_1 : decode cX11_bad 1 = .ok (.aload_n 0, 1) := by decide +kernel
theorem dX11_bad_2 : decode cX11_bad 2 = .ok (.getfield 30, 3) := by decide +kernel
theorem dX11_bad_5 : decode cX11_bad 5 = .ok (.iconst 1, 1) := by decide +kernel
theorem dX11_bad_6 : decode cX11_bad 6 = .ok (.if_icmp .ne 7, 3) := by decide +kernel
theorem dX11_bad_13 : decode cX11_bad 13 = .ok (.iload_n 1, 1) := by decide +kernel
theorem dX11_bad_14 : decode cX11_bad 14 = .ok (.putfield 66, 3) := by decide +kernel
theorem t1452 : Cond.fieldLink RX11 66 "LikenessPoundModel" "fault" "I" ∈ GW := gw_mem 1566 (by decide +kernel) (by decide +kernel)
theorem pf_X11_66 {p : Program} {l : Launch} {e : Env} {R : Room} {s : State} {m : MethodId} {args : Array Value} {below : List Frame} {meth : Method} {c : Code} {H : Heap} {locs : List Loc} {cells slots : Nat} {Q : State → Prop} {cc : ByteArray} {pc : Nat} {ls : Array Slot} {rest : List Value} {D : va_G} {A : Nat → Prop} {a : Nat} {tys : List (ClassId × FieldType)} {ws : va_W} {H0 : Heap} (hx : p.tables.exec = Jvm.exec) (hb : c.code = cc) (hts : ∀ w ∈ GW, w.before args s = true) (hown : s.vm.findClass RX11 = some m.cls) (hK : va_K D vwCl tys s) (hP : va_P D vwCl ws H) (hD : va_D A ws) (hS0 : va_S A H0 H locs) (q0 : Nat) {fs : List Value} (he : ws[q0]? = some (a, .inr (12, fs))) {v : Value} (hn : narrow (tyX11 10) v = v) (hfit : fits (tyX11 10) v = true) (hl : 10 < fs.length) (hdg : decode cc pc = .ok (.putfield 66, 3)) (kk : ∀ (H1 : Heap) (locs1 : List Loc), va_P D vwCl (ws.set q0 (a, .inr (12, fs.set 10 v))) H1 → va_D A (ws.set q0 (a, .inr (12, fs.set 10 v))) → va_S A H0 H1 locs1 → W p l e R s m args below meth c H1 locs1 cells slots Q (F0 m (pc + 3) ls rest)) : W p l e R s m args below meth c H locs cells slots Q (F0 m pc ls (v :: .ref a :: rest)) := va_put (C := RX11) (T := TX11) (N := 47) (ci := 12) hx hb hts inX11 tyX11 tkX11 nmX11 hown hK hP hD hS0 q0 he rfl 10 (by decide) (hts _ t1452) (fun _ h => h) rfl (tkX11 10 (by decide)) hn hfit hl hdg kk
theorem dX11_bad_17 : decode cX11_bad 17 = .ok (.aload_n 0, 1) := by decide +kernel
theorem dX11_bad_18 : decode cX11_bad 18 = .ok (.aload_n 0, 1) := by decide +kernel
theorem dX11_bad_19 : decode cX11_bad 19 = .ok (.getfield 24, 3) := by decide +kernel
theorem dX11_bad_22 : decode cX11_bad 22 = .ok (.putfield 69, 3) := by decide +kernel
theorem t1453 : Cond.fieldLink RX11 69 "LikenessPoundModel" "place" "I" ∈ GW := gw_mem 1567 (by decide +kernel) (by decide +kernel)
theorem pf_X11_69 {p : Program} {l : Launch} {e : Env} {R : Room} {s : State} {m : MethodId} {args : Array Value} {below : List Frame} {meth : Method} {c : Code} {H : Heap} {locs : List Loc} {cells slots : Nat} {Q : State → Prop} {cc : ByteArray} {pc : Nat} {ls : Array Slot} {rest : List Value} {D : va_G} {A : Nat → Prop} {a : Nat} {tys : List (ClassId × FieldType)} {ws : va_W} {H0 : Heap} (hx : p.tables.exec = Jvm.exec) (hb : c.code = cc) (hts : ∀ w ∈ GW, w.before args s = true) (hown : s.vm.findClass RX11 = some m.cls) (hK : va_K D vwCl tys s) (hP : va_P D vwCl ws H) (hD : va_D A ws) (hS0 : va_S A H0 H locs) (q0 : Nat) {fs : List Value} (he : ws[q0]? = some (a, .inr (12, fs))) {v : Value} (hn : narrow (tyX11 11) v = v) (hfit : fits (tyX11 11) v = true) (hl : 11 < fs.length) (hdg : decode cc pc = .ok (.putfield 69, 3)) (kk : ∀ (H1 : Heap) (locs1 : List Loc), va_P D vwCl (ws.set q0 (a, .inr (12, fs.set 11 v))) H1 → va_D A (ws.set q0 (a, .inr (12, fs.set 11 v))) → va_S A H0 H1 locs1 → W p l e R s m args below meth c H1 locs1 cells slots Q (F0 m (pc + 3) ls rest)) : W p l e R s m args below meth c H locs cells slots Q (F0 m pc ls (v :: .ref a :: rest)) := va_put (C := RX11) (T := TX11) (N := 47) (ci := 12) hx hb hts inX11 tyX11 tkX11 nmX11 hown hK hP hD hS0 q0 he rfl 11 (by decide) (hts _ t1453) (fun _ h => h) rfl (tkX11 11 (by decide)) hn hfit hl hdg kk
theorem dX11_bad_25 : decode cX11_bad 25 = .ok (.iconst 0, 1) := by decide +kernel
theorem dX11_bad_26 : decode cX11_bad 26 = .ok (.ireturn, 1) := by decide +kernel
theorem dX11_bad_9 : decode cX11_bad 9 = .ok (.iconst 1, 1) := by decide +kernel
theorem dX11_bad_10 : decode cX11_bad 10 = .ok (.goto 4, 3) := by decide +kernel
set_option maxHeartbeats 4000000 in
set_option maxRecDepth 100000 in
theorem m_bad (l : Launch) (dC : Nat → ClassId) (dI : Nat → Nat → Nat) (cy : Nat → ClassId) (sz : Nat) (vo : Nat) (voth : Int32) (vmt : Nat) (votp : Int32) (vosz : Int32) (volm : Int32) (voto : Int32) (vofr : Int32) (vokd : Int32) (vonu : Int32) (vosg : Int32) (vofa : Int32) (vopl : Int32) (vowd : Int64) (votd : Int32) (vmn : Nat) (vmr : Nat) (vmk : Nat) (vms : Nat) (vma : Nat) (vmm : Nat) (vmrn : Nat) (vmkn : Nat) (vmik : Nat) (vmon : Nat) (vosm : Int32) (vohp : Int32) (vmw : Nat) (vmf : Nat) (vmb : Nat) (vomb : Int32) (vmd : Nat) (vmc : Nat) (vocm : Int32) (voct : Int32) (vocy : Int32) (vmx : Nat) (votx : Int32) (vose : Int32) (vml : Nat) (vmwr : Nat) (voln : Int32) (vohw : Int32) (vmno : Nat) (vond : Int32) (voon : Int32) (vowi : Int32) (votop : Int32) (vk : Int32)  : Met l yX11_bad (wl yX11_bad cX11_bad 2 (some .boolean)) ({ frames := 0, cells := 0, slots := 0, locals := 0 }) (Pw (dC, dI) vwCl cy [(vo, .inr (12, [.int voth, .ref vmt, .int votp, .int vosz, .int volm, .int voto, .int vofr, .int vokd, .int vonu, .int vosg, .int vofa, .int vopl, .long vowd, .int votd, .ref vmn, .ref vmr, .ref vmk, .ref vms, .ref vma, .ref vmm, .ref vmrn, .ref vmkn, .ref vmik, .ref vmon, .int vosm, .int vohp, .ref vmw, .ref vmf, .ref vmb, .int vomb, .ref vmd, .ref vmc, .int vocm, .int voct, .int vocy, .ref vmx, .int votx, .int vose, .ref vml, .ref vmwr, .int voln, .int vohw, .ref vmno, .int vond, .int voon, .int vowi, .int votop]))] sz [.ref vo, .int vk] nE) (Qi (dC, dI) vwCl (fun (r : Int32) (u : Int32 × Int32) => ((r = 0))) (O_m_bad cy vo voth vmt votp vosz volm voto vofr vokd vonu vosg vofa vopl vowd votd vmn vmr vmk vms vma vmm vmrn vmkn vmik vmon vosm vohp vmw vmf vmb vomb vmd vmc vocm voct vocy vmx votx vose vml vmwr voln vohw vmno vond voon vowi votop vk) (va_A [(vo, .inr (12, [.int voth, .ref vmt, .int votp, .int vosz, .int volm, .int voto, .int vofr, .int vokd, .int vonu, .int vosg, .int vofa, .int vopl, .long vowd, .int votd, .ref vmn, .ref vmr, .ref vmk, .ref vms, .ref vma, .ref vmm, .ref vmrn, .ref vmkn, .ref vmik, .ref vmon, .int vosm, .int vohp, .ref vmw, .ref vmf, .ref vmb, .int vomb, .ref vmd, .ref vmc, .int vocm, .int voct, .int vocy, .ref vmx, .int votx, .int vose, .ref vml, .ref vmwr, .int voln, .int vohw, .ref vmno, .int vond, .int voon, .int vowi, .int votop]))] sz)) 0 0 (va_A [(vo, .inr (12, [.int voth, .ref vmt, .int votp, .int vosz, .int volm, .int voto, .int vofr, .int vokd, .int vonu, .int vosg, .int vofa, .int vopl, .long vowd, .int votd, .ref vmn, .ref vmr, .ref vmk, .ref vms, .ref vma, .ref vmm, .ref vmrn, .ref vmkn, .ref vmik, .ref vmon, .int vosm, .int vohp, .ref vmw, .ref vmf, .ref vmb, .int vomb, .ref vmd, .ref vmc, .int vocm, .int voct, .int vocy, .ref vmx, .int votx, .int vose, .ref vml, .ref vmwr, .int voln, .int vohw, .ref vmno, .int vond, .int voon, .int vowi, .int votop]))] sz) := by
  refine mw (Qc := Qi (dC, dI) vwCl (fun (r : Int32) (u : Int32 × Int32) => ((r = 0))) (O_m_bad cy vo voth vmt votp vosz volm voto vofr vokd vonu vosg vofa vopl vowd votd vmn vmr vmk vms vma vmm vmrn vmkn vmik vmon vosm vohp vmw vmf vmb vomb vmd vmc vocm voct vocy vmx votx vose vml vmwr voln vohw vmno vond voon vowi votop vk)) RX11 rfl (by decide +kernel) (Nat.le_of_ble_eq_true rfl) ?_
  intro p e s m below meth c A hx hb hr hlocks av9 hav hts hown hnm hml hK hP hD hA hS hE hAe Q9 hQ9 ls hl
  have hl : lv_has ls 2 [(0, .ref vo), (1, .int vk)] := hl
  refine lv_aload_n hx hb dX11_bad_0 rfl (lv_at hl 0 rfl) ?_
  refine lv_aload_n hx hb dX11_bad_1 rfl (lv_at hl 0 rfl) ?_
  refine gf_X11_30 hx hb hts hown hK hP 0 rfl rfl dX11_bad_2 ?_
  refine lv_iconst (v := 1) hx hb dX11_bad_5 (by decide) ?_
  have k_1 : (1 : Int32).toInt = 1 := by decide
  refine lv_icmp_ne (tgt := 13) hx hb dX11_bad_6 (by decide) (fun c_1 => ?_) (fun c_1 => ?_)
  · skip
    have c_1 : ¬ (vokd.toInt = (1 : Int32).toInt) := fun h9 => c_1 (i_eq.mpr h9)
    refine lv_iload_n hx hb dX11_bad_13 rfl (lv_at hl 1 rfl) ?_
    refine pf_X11_66 hx hb hts hown hK hP hD hS 0 rfl rfl rfl (Nat.le_of_ble_eq_true rfl) dX11_bad_14 (fun H locs hP hD hS => ?_)
    have hP : va_P (dC, dI) vwCl [(vo, .inr (12, [.int voth, .ref vmt, .int votp, .int vosz, .int volm, .int voto, .int vofr, .int vokd, .int vonu, .int vosg, .int vk, .int vopl, .long vowd, .int votd, .ref vmn, .ref vmr, .ref vmk, .ref vms, .ref vma, .ref vmm, .ref vmrn, .ref vmkn, .ref vmik, .ref vmon, .int vosm, .int vohp, .ref vmw, .ref vmf, .ref vmb, .int vomb, .ref vmd, .ref vmc, .int vocm, .int voct, .int vocy, .ref vmx, .int votx, .int vose, .ref vml, .ref vmwr, .int voln, .int vohw, .ref vmno, .int vond, .int voon, .int vowi, .int votop]))] H := hP
    have hD : va_D A [(vo, .inr (12, [.int voth, .ref vmt, .int votp, .int vosz, .int volm, .int voto, .int vofr, .int vokd, .int vonu, .int vosg, .int vk, .int vopl, .long vowd, .int votd, .ref vmn, .ref vmr, .ref vmk, .ref vms, .ref vma, .ref vmm, .ref vmrn, .ref vmkn, .ref vmik, .ref vmon, .int vosm, .int vohp, .ref vmw, .ref vmf, .ref vmb, .int vomb, .ref vmd, .ref vmc, .int vocm, .int voct, .int vocy, .ref vmx, .int votx, .int vose, .ref vml, .ref vmwr, .int voln, .int vohw, .ref vmno, .int vond, .int voon, .int vowi, .int votop]))] := hD
    refine lv_aload_n hx hb dX11_bad_17 rfl (lv_at hl 0 rfl) ?_
    refine lv_aload_n hx hb dX11_bad_18 rfl (lv_at hl 0 rfl) ?_
    refine gf_X11_24 hx hb hts hown hK hP 0 rfl rfl dX11_bad_19 ?_
    refine pf_X11_69 hx hb hts hown hK hP hD hS 0 rfl rfl rfl (Nat.le_of_ble_eq_true rfl) dX11_bad_22 (fun H locs hP hD hS => ?_)
    have hP : va_P (dC, dI) vwCl [(vo, .inr (12, [.int voth, .ref vmt, .int votp, .int vosz, .int volm, .int voto, .int vofr, .int vokd, .int vonu, .int vosg, .int vk, .int vofr, .long vowd, .int votd, .ref vmn, .ref vmr, .ref vmk, .ref vms, .ref vma, .ref vmm, .ref vmrn, .ref vmkn, .ref vmik, .ref vmon, .int vosm, .int vohp, .ref vmw, .ref vmf, .ref vmb, .int vomb, .ref vmd, .ref vmc, .int vocm, .int voct, .int vocy, .ref vmx, .int votx, .int vose, .ref vml, .ref vmwr, .int voln, .int vohw, .ref vmno, .int vond, .int voon, .int vowi, .int votop]))] H := hP
    have hD : va_D A [(vo, .inr (12, [.int voth, .ref vmt, .int votp, .int vosz, .int volm, .int voto, .int vofr, .int vokd, .int vonu, .int vosg, .int vk, .int vofr, .long vowd, .int votd, .ref vmn, .ref vmr, .ref vmk, .ref vms, .ref vma, .ref vmm, .ref vmrn, .ref vmkn, .ref vmik, .ref vmon, .int vosm, .int vohp, .ref vmw, .ref vmf, .ref vmb, .int vomb, .ref vmd, .ref vmc, .int vocm, .int voct, .int vocy, .ref vmx, .int votx, .int vose, .ref vml, .ref vmwr, .int voln, .int vohw, .ref vmno, .int vond, .int voon, .int vowi, .int votop]))] := hD
    refine lv_iconst (v := 0) hx hb dX11_bad_25 (by decide) ?_
    have k_0 : (0 : Int32).toInt = 0 := by decide
    rw [hQ9]
    exact re_z (vk, vofr) hx hb hr hlocks (Or.inl rfl) (show ((0 : Int32) = 0) from (rfl)) (hP.sub [0] rfl) (hD.sub [0] rfl rfl) hS dX11_bad_26
  · skip
    have c_1 : vokd.toInt = (1 : Int32).toInt := i_eq.mp c_1
    refine lv_iconst (v := 1) hx hb dX11_bad_9 (by decide) ?_
    refine lv_goto (tgt := 14) hx hb dX11_bad_10 (by decide) ?_
    refine pf_X11_66 hx hb hts hown hK hP hD hS 0 rfl rfl rfl (Nat.le_of_ble_eq_true rfl) dX11_bad_14 (fun H locs hP hD hS => ?_)
    have hP : va_P (dC, dI) vwCl [(vo, .inr (12, [.int voth, .ref vmt, .int votp, .int vosz, .int volm, .int voto, .int vofr, .int vokd, .int vonu, .int vosg, .int 1, .int vopl, .long vowd, .int votd, .ref vmn, .ref vmr, .ref vmk, .ref vms, .ref vma, .ref vmm, .ref vmrn, .ref vmkn, .ref vmik, .ref vmon, .int vosm, .int vohp, .ref vmw, .ref vmf, .ref vmb, .int vomb, .ref vmd, .ref vmc, .int vocm, .int voct, .int vocy, .ref vmx, .int votx, .int vose, .ref vml, .ref vmwr, .int voln, .int vohw, .ref vmno, .int vond, .int voon, .int vowi, .int votop]))] H := hP
    have hD : va_D A [(vo, .inr (12, [.int voth, .ref vmt, .int votp, .int vosz, .int volm, .int voto, .int vofr, .int vokd, .int vonu, .int vosg, .int 1, .int vopl, .long vowd, .int votd, .ref vmn, .ref vmr, .ref vmk, .ref vms, .ref vma, .ref vmm, .ref vmrn, .ref vmkn, .ref vmik, .ref vmon, .int vosm, .int vohp, .ref vmw, .ref vmf, .ref vmb, .int vomb, .ref vmd, .ref vmc, .int vocm, .int voct, .int vocy, .ref vmx, .int votx, .int vose, .ref vml, .ref vmwr, .int voln, .int vohw, .ref vmno, .int vond, .int voon, .int vowi, .int votop]))] := hD
    refine lv_aload_n hx hb dX11_bad_17 rfl (lv_at hl 0 rfl) ?_
    refine lv_aload_n hx hb dX11_bad_18 rfl (lv_at hl 0 rfl) ?_
    refine gf_X11_24 hx hb hts hown hK hP 0 rfl rfl dX11_bad_19 ?_
    refine pf_X11_69 hx hb hts hown hK hP hD hS 0 rfl rfl rfl (Nat.le_of_ble_eq_true rfl) dX11_bad_22 (fun H locs hP hD hS => ?_)
    have hP : va_P (dC, dI) vwCl [(vo, .inr (12, [.int voth, .ref vmt, .int votp, .int vosz, .int volm, .int voto, .int vofr, .int vokd, .int vonu, .int vosg, .int 1, .int vofr, .long vowd, .int votd, .ref vmn, .ref vmr, .ref vmk, .ref vms, .ref vma, .ref vmm, .ref vmrn, .ref vmkn, .ref vmik, .ref vmon, .int vosm, .int vohp, .ref vmw, .ref vmf, .ref vmb, .int vomb, .ref vmd, .ref vmc, .int vocm, .int voct, .int vocy, .ref vmx, .int votx, .int vose, .ref vml, .ref vmwr, .int voln, .int vohw, .ref vmno, .int vond, .int voon, .int vowi, .int votop]))] H := hP
    have hD : va_D A [(vo, .inr (12, [.int voth, .ref vmt, .int votp, .int vosz, .int volm, .int voto, .int vofr, .int vokd, .int vonu, .int vosg, .int 1, .int vofr, .long vowd, .int votd, .ref vmn, .ref vmr, .ref vmk, .ref vms, .ref vma, .ref vmm, .ref vmrn, .ref vmkn, .ref vmik, .ref vmon, .int vosm, .int vohp, .ref vmw, .ref vmf, .ref vmb, .int vomb, .ref vmd, .ref vmc, .int vocm, .int voct, .int vocy, .ref vmx, .int votx, .int vose, .ref vml, .ref vmwr, .int voln, .int vohw, .ref vmno, .int vond, .int voon, .int vowi, .int votop]))] := hD
    refine lv_iconst (v := 0) hx hb dX11_bad_25 (by decide) ?_
    have k_0 : (0 : Int32).toInt = 0 := by decide
    rw [hQ9]
    exact re_z ((1 : Int32), vofr) hx hb hr hlocks (Or.inl rfl) (show ((0 : Int32) = 0) from (rfl)) (hP.sub [0] rfl) (hD.sub [0] rfl rfl) hS dX11_bad_26
abbrev cX11_readNumber : ByteArray := prog_13_method_23_code
def yX11_readNumber : MethodName := ⟨RX11, "readNumber", "(II)Z"⟩
theorem t1652 : Cond.code yX11_readNumber cX11_readNumber 3 (some .boolean) ∈ GW := gw_mem 1766 (by decide +kernel) (by decide +kernel)
abbrev O_m_readNumber (cy : Nat → ClassId) (vo : Nat) (voth : Int32) (vmt : Nat) (votp : Int32) (vosz : Int32) (volm : Int32) (voto : Int32) (vofr : Int32) (vokd : Int32) (vonu : Int32) (vosg : Int32) (vofa : Int32) (vopl : Int32) (vowd : Int64) (votd : Int32) (vmn : Nat) (vmr : Nat) (vmk : Nat) (vms : Nat) (vma : Nat) (vmm : Nat) (vmrn : Nat) (vmkn : Nat) (vmik : Nat) (vmon : Nat) (vosm : Int32) (vohp : Int32) (vmw : Nat) (vmf : Nat) (vmb : Nat) (vomb : Int32) (vmd : Nat) (vmc : Nat) (vocm : Int32) (voct : Int32) (vocy : Int32) (vmx : Nat) (votx : Int32) (vose : Int32) (vml : Nat) (vmwr : Nat) (voln : Int32) (vohw : Int32) (vmno : Nat) (vond : Int32) (voon : Int32) (vowi : Int32) (votop : Int32) (vmtf : Nat → Int32) (vlo : Int32) (vhi : Int32) (u : Int32 × Int32 × Int32 × Int32 × Int64 × Int32 × Int32 × Int32 × Int32) : va_W := [(vo, .inr (12, [.int voth, .ref vmt, .int votp, .int vosz, .int volm, .int u.1, .int u.2.1, .int u.2.2.1, .int u.2.2.2.2.2.1, .int u.2.2.2.1, .int u.2.2.2.2.2.2.1, .int u.2.2.2.2.2.2.2.1, .long u.2.2.2.2.1, .int u.2.2.2.2.2.2.2.2, .ref vmn, .ref vmr, .ref vmk, .ref vms, .ref vma, .ref vmm, .ref vmrn, .ref vmkn, .ref vmik, .ref vmon, .int vosm, .int vohp, .ref vmw, .ref vmf, .ref vmb, .int vomb, .ref vmd, .ref vmc, .int vocm, .int voct, .int vocy, .ref vmx, .int votx, .int vose, .ref vml, .ref vmwr, .int voln, .int vohw, .ref vmno, .int vond, .int voon, .int vowi, .int votop])), (vmt, .inl (cy 0, 940, .inl vmtf))]
theorem dX11_readNumber_0 : decode cX11_readNumber 0 = .ok (.aload_n 0, 1) := by decide +kernel
theorem dX11_readNumber_1 : decode cX11_readNumber 1 = .ok (.getfield 30, 3) := by decide +kernel
theorem dX11_readNumber_4 : decode cX11_readNumber 4 = .ok (.iconst 3, 1) := by decide +kernel
theorem dX11_readNumber_5 : decode cX11_readNumber 5 = .ok (.if_icmp .eq 9, 3) := by decide +kernel
theorem dX11_readNumber_14 : decode cX11_readNumber 14 = .ok (.aload_n 0, 1) := by decide +kernel
theorem dX11_readNumber_15 : decode cX11_readNumber 15 = .ok (.getfield 47, 3) := by decide +kernel
theorem dX11_readNumber_18 : decode cX11_readNumber 18 = .ok (.iload_n 1, 1) := by decide +kernel
theorem dX11_readNumber_19 : decode cX11_readNumber 19 = .ok (.iload_n 2, 1) := by decide +kernel
theorem dX11_readNumber_20 : decode cX11_readNumber 20 = .ok (.invokestatic 75, 3) := by decide +kernel
theorem t1653 : Cond.methodLink RX11 75 yX11_isIn ∈ GW := gw_mem 1767 (by decide +kernel) (by decide +kernel)
theorem t1654 : Cond.static yX11_isIn ∈ GW := gw_mem 1768 (by decide +kernel) (by decide +kernel)
theorem cw_X11_75 {R : Room} {s : State} {args : Array Value} {rm : Room} {mc ms : Nat} (hts : ∀ w ∈ GW, w.before args s = true) (hrc : rm.cells = mc) (hrs : rm.slots = ms) (hR : rm.frames + 1 ≤ R.frames ∧ 8 + (3 + 11) + rm.locals ≤ R.locals) : CallB R s args RX11 75 yX11_isIn cX11_isIn 3 (some .boolean) (wl yX11_isIn cX11_isIn 3 (some .boolean)) rm mc ms 3 ∧ (Cond.static yX11_isIn).before args s = true := va_cwS 3 hts (gi_S t1653 t1654 t18 t1655) rfl hrc hrs (by decide +kernel) hR
theorem dX11_readNumber_23 : decode cX11_readNumber 23 = .ok (.ifCond .ne 9, 3) := by decide +kernel
theorem dX11_readNumber_26 : decode cX11_readNumber 26 = .ok (.aload_n 0, 1) := by decide +kernel
theorem dX11_readNumber_27 : decode cX11_readNumber 27 = .ok (.iconst 2, 1) := by decide +kernel
theorem dX11_readNumber_28 : decode cX11_readNumber 28 = .ok (.invokevirtual 72, 3) := by decide +kernel
theorem t1634 : Cond.methodLink RX11 72 yX11_bad ∈ GW := gw_mem 1748 (by decide +kernel) (by decide +kernel)
theorem t1636 : Cond.instanceMethod yX11_bad ∈ GW := gw_mem 1750 (by decide +kernel) (by decide +kernel)
theorem s48 : Cond.selects RX11 yX11_bad yX11_bad ∈ GW := gw_mem 48 (by decide +kernel) (by decide +kernel)
theorem cw_X11_72 {R : Room} {s : State} {args : Array Value} {rm : Room} {mc ms : Nat} (hts : ∀ w ∈ GW, w.before args s = true) (hrc : rm.cells = mc) (hrs : rm.slots = ms) (hR : rm.frames + 1 ≤ R.frames ∧ 8 + (2 + 11) + rm.locals ≤ R.locals) : CallW R s args RX11 RX11 72 yX11_bad cX11_bad 2 (some .boolean) (wl yX11_bad cX11_bad 2 (some .boolean)) rm mc ms 1 := cwV 1 hts (gi_V t1634 t1636 s48 t18 t1637) rfl hrc hrs (by decide +kernel) hR
theorem dX11_readNumber_31 : decode cX11_readNumber 31 = .ok (.ireturn, 1) := by decide +kernel
theorem dX11_readNumber_32 : decode cX11_readNumber 32 = .ok (.aload_n 0, 1) := by decide +kernel
theorem dX11_readNumber_33 : decode cX11_readNumber 33 = .ok (.aload_n 0, 1) := by decide +kernel
theorem dX11_readNumber_34 : decode cX11_readNumber 34 = .ok (.getfield 47, 3) := by decide +kernel
theorem dX11_readNumber_37 : decode cX11_readNumber 37 = .ok (.putfield 79, 3) := by decide +kernel
theorem t1455 : Cond.fieldLink RX11 79 "LikenessPoundModel" "told" "I" ∈ GW := gw_mem 1569 (by decide +kernel) (by decide +kernel)
theorem pf_X11_79 {p : Program} {l : Launch} {e : Env} {R : Room} {s : State} {m : MethodId} {args : Array Value} {below : List Frame} {meth : Method} {c : Code} {H : Heap} {locs : List Loc} {cells slots : Nat} {Q : State → Prop} {cc : ByteArray} {pc : Nat} {ls : Array Slot} {rest : List Value} {D : va_G} {A : Nat → Prop} {a : Nat} {tys : List (ClassId × FieldType)} {ws : va_W} {H0 : Heap} (hx : p.tables.exec = Jvm.exec) (hb : c.code = cc) (hts : ∀ w ∈ GW, w.before args s = true) (hown : s.vm.findClass RX11 = some m.cls) (hK : va_K D vwCl tys s) (hP : va_P D vwCl ws H) (hD : va_D A ws) (hS0 : va_S A H0 H locs) (q0 : Nat) {fs : List Value} (he : ws[q0]? = some (a, .inr (12, fs))) {v : Value} (hn : narrow (tyX11 13) v = v) (hfit : fits (tyX11 13) v = true) (hl : 13 < fs.length) (hdg : decode cc pc = .ok (.putfield 79, 3)) (kk : ∀ (H1 : Heap) (locs1 : List Loc), va_P D vwCl (ws.set q0 (a, .inr (12, fs.set 13 v))) H1 → va_D A (ws.set q0 (a, .inr (12, fs.set 13 v))) → va_S A H0 H1 locs1 → W p l e R s m args below meth c H1 locs1 cells slots Q (F0 m (pc + 3) ls rest)) : W p l e R s m args below meth c H locs cells slots Q (F0 m pc ls (v :: .ref a :: rest)) := va_put (C := RX11) (T := TX11) (N := 47) (ci := 12) hx hb hts inX11 tyX11 tkX11 nmX11 hown hK hP hD hS0 q0 he rfl 13 (by decide) (hts _ t1455) (fun _ h => h) rfl (tkX11 13 (by decide)) hn hfit hl hdg kk
theorem dX11_readNumber_40 : decode cX11_readNumber 40 = .ok (.aload_n 0, 1) := by decide +kernel
theorem dX11_readNumber_41 : decode cX11_readNumber 41 = .ok (.invokevirtual 82, 3) := by decide +kernel
theorem t1596 : Cond.methodLink RX11 82 yX11_go ∈ GW := gw_mem 1710 (by decide +kernel) (by decide +kernel)
theorem t1598 : Cond.instanceMethod yX11_go ∈ GW := gw_mem 1712 (by decide +kernel) (by decide +kernel)
theorem s42 : Cond.selects RX11 yX11_go yX11_go ∈ GW := gw_mem 42 (by decide +kernel) (by decide +kernel)
theorem cw_X11_82 {R : Room} {s : State} {args : Array Value} {rm : Room} {mc ms : Nat} (hts : ∀ w ∈ GW, w.before args s = true) (hrc : rm.cells = mc) (hrs : rm.slots = ms) (hR : rm.frames + 1 ≤ R.frames ∧ 8 + (5 + 11) + rm.locals ≤ R.locals) : CallW R s args RX11 RX11 82 yX11_go cX11_go 5 none (wl yX11_go cX11_go 5 none) rm mc ms 0 := cwV 0 hts (gi_V t1596 t1598 s42 t18 t1599) rfl hrc hrs (by decide +kernel) hR
theorem dX11_readNumber_44 : decode cX11_readNumber 44 = .ok (.iconst 1, 1) := by decide +kernel
theorem dX11_readNumber_45 : decode cX11_readNumber 45 = .ok (.ireturn, 1) := by decide +kernel
theorem dX11_readNumber_8 : decode cX11_readNumber 8 = .ok (.aload_n 0, 1) := by decide +kernel
theorem dX11_readNumber_9 : decode cX11_readNumber 9 = .ok (.iconst 1, 1) := by decide +kernel
theorem dX11_readNumber_10 : decode cX11_readNumber 10 = .ok (.invokevirtual 72, 3) := by decide +kernel
theorem dX11_readNumber_13 : decode cX11_readNumber 13 = .ok (.ireturn, 1) := by decide +kernel
set_option maxHeartbeats 4000000 in
set_option maxRecDepth 100000 in
theorem m_readNumber (l : Launch) (dC : Nat → ClassId) (dI : Nat → Nat → Nat) (cy : Nat → ClassId) (sz : Nat) (vo : Nat) (voth : Int32) (vmt : Nat) (votp : Int32) (vosz : Int32) (volm : Int32) (voto : Int32) (vofr : Int32) (vokd : Int32) (vonu : Int32) (vosg : Int32) (vofa : Int32) (vopl : Int32) (vowd : Int64) (votd : Int32) (vmn : Nat) (vmr : Nat) (vmk : Nat) (vms : Nat) (vma : Nat) (vmm : Nat) (vmrn : Nat) (vmkn : Nat) (vmik : Nat) (vmon : Nat) (vosm : Int32) (vohp : Int32) (vmw : Nat) (vmf : Nat) (vmb : Nat) (vomb : Int32) (vmd : Nat) (vmc : Nat) (vocm : Int32) (voct : Int32) (vocy : Int32) (vmx : Nat) (votx : Int32) (vose : Int32) (vml : Nat) (vmwr : Nat) (voln : Int32) (vohw : Int32) (vmno : Nat) (vond : Int32) (voon : Int32) (vowi : Int32) (votop : Int32) (vmtf : Nat → Int32) (vlo : Int32) (vhi : Int32) (r_vosz : 0 ≤ (vosz : Int32).toInt ∧ (vosz : Int32).toInt ≤ 940) (r_voto : 0 ≤ (voto : Int32).toInt ∧ (voto : Int32).toInt ≤ 940) (r_votd : -1 ≤ (votd : Int32).toInt ∧ (votd : Int32).toInt ≤ 999) (r_vlo : 0 ≤ (vlo : Int32).toInt ∧ (vlo : Int32).toInt ≤ 1) (r_vhi : 0 ≤ (vhi : Int32).toInt ∧ (vhi : Int32).toInt ≤ 999) (p_vmtf : Rg vmtf 940 0 255) : Met l yX11_readNumber (wl yX11_readNumber cX11_readNumber 3 (some .boolean)) ({ frames := 2, cells := 0, slots := 0, locals := 128 }) (Pw (dC, dI) vwCl cy [(vo, .inr (12, [.int voth, .ref vmt, .int votp, .int vosz, .int volm, .int voto, .int vofr, .int vokd, .int vonu, .int vosg, .int vofa, .int vopl, .long vowd, .int votd, .ref vmn, .ref vmr, .ref vmk, .ref vms, .ref vma, .ref vmm, .ref vmrn, .ref vmkn, .ref vmik, .ref vmon, .int vosm, .int vohp, .ref vmw, .ref vmf, .ref vmb, .int vomb, .ref vmd, .ref vmc, .int vocm, .int voct, .int vocy, .ref vmx, .int votx, .int vose, .ref vml, .ref vmwr, .int voln, .int vohw, .ref vmno, .int vond, .int voon, .int vowi, .int votop])), (vmt, .inl (cy 0, 940, .inl vmtf))] sz [.ref vo, .int vlo, .int vhi] nE) (Qi (dC, dI) vwCl (fun (r : Int32) (u : Int32 × Int32 × Int32 × Int32 × Int64 × Int32 × Int32 × Int32 × Int32) => ((r = 0 ∧ (u.2.2.2.2.2.2.2.2 : Int32).toInt = (votd : Int32).toInt) ∨ (r = 1 ∧ (vlo : Int32).toInt ≤ (u.2.2.2.2.2.2.2.2 : Int32).toInt ∧ (u.2.2.2.2.2.2.2.2 : Int32).toInt ≤ (vhi : Int32).toInt ∧ ((u.2.2.1 : Int32).toInt = 0 ∨ (u.2.2.1 : Int32).toInt = 1 ∨ (voto : Int32).toInt + 1 ≤ (u.1 : Int32).toInt))) ∧ (0 ≤ (u.1 : Int32).toInt ∧ (u.1 : Int32).toInt ≤ 940) ∧ (-1 ≤ (u.2.2.2.2.2.2.2.2 : Int32).toInt ∧ (u.2.2.2.2.2.2.2.2 : Int32).toInt ≤ 999) ∧ ((voto : Int32).toInt ≤ (u.1 : Int32).toInt)) (O_m_readNumber cy vo voth vmt votp vosz volm voto vofr vokd vonu vosg vofa vopl vowd votd vmn vmr vmk vms vma vmm vmrn vmkn vmik vmon vosm vohp vmw vmf vmb vomb vmd vmc vocm voct vocy vmx votx vose vml vmwr voln vohw vmno vond voon vowi votop vmtf vlo vhi) (va_A [(vo, .inr (12, [.int voth, .ref vmt, .int votp, .int vosz, .int volm, .int voto, .int vofr, .int vokd, .int vonu, .int vosg, .int vofa, .int vopl, .long vowd, .int votd, .ref vmn, .ref vmr, .ref vmk, .ref vms, .ref vma, .ref vmm, .ref vmrn, .ref vmkn, .ref vmik, .ref vmon, .int vosm, .int vohp, .ref vmw, .ref vmf, .ref vmb, .int vomb, .ref vmd, .ref vmc, .int vocm, .int voct, .int vocy, .ref vmx, .int votx, .int vose, .ref vml, .ref vmwr, .int voln, .int vohw, .ref vmno, .int vond, .int voon, .int vowi, .int votop])), (vmt, .inl (cy 0, 940, .inl vmtf))] sz)) 0 0 (va_A [(vo, .inr (12, [.int voth, .ref vmt, .int votp, .int vosz, .int volm, .int voto, .int vofr, .int vokd, .int vonu, .int vosg, .int vofa, .int vopl, .long vowd, .int votd, .ref vmn, .ref vmr, .ref vmk, .ref vms, .ref vma, .ref vmm, .ref vmrn, .ref vmkn, .ref vmik, .ref vmon, .int vosm, .int vohp, .ref vmw, .ref vmf, .ref vmb, .int vomb, .ref vmd, .ref vmc, .int vocm, .int voct, .int vocy, .ref vmx, .int votx, .int vose, .ref vml, .ref vmwr, .int voln, .int vohw, .ref vmno, .int vond, .int voon, .int vowi, .int votop])), (vmt, .inl (cy 0, 940, .inl vmtf))] sz) := by
  refine mw (Qc := Qi (dC, dI) vwCl (fun (r : Int32) (u : Int32 × Int32 × Int32 × Int32 × Int64 × Int32 × Int32 × Int32 × Int32) => ((r = 0 ∧ (u.2.2.2.2.2.2.2.2 : Int32).toInt = (votd : Int32).toInt) ∨ (r = 1 ∧ (vlo : Int32).toInt ≤ (u.2.2.2.2.2.2.2.2 : Int32).toInt ∧ (u.2.2.2.2.2.2.2.2 : Int32).toInt ≤ (vhi : Int32).toInt ∧ ((u.2.2.1 : Int32).toInt = 0 ∨ (u.2.2.1 : Int32).toInt = 1 ∨ (voto : Int32).toInt + 1 ≤ (u.1 : Int32).toInt))) ∧ (0 ≤ (u.1 : Int32).toInt ∧ (u.1 : Int32).toInt ≤ 940) ∧ (-1 ≤ (u.2.2.2.2.2.2.2.2 : Int32).toInt ∧ (u.2.2.2.2.2.2.2.2 : Int32).toInt ≤ 999) ∧ ((voto : Int32).toInt ≤ (u.1 : Int32).toInt)) (O_m_readNumber cy vo voth vmt votp vosz volm voto vofr vokd vonu vosg vofa vopl vowd votd vmn vmr vmk vms vma vmm vmrn vmkn vmik vmon vosm vohp vmw vmf vmb vomb vmd vmc vocm voct vocy vmx votx vose vml vmwr voln vohw vmno vond voon vowi votop vmtf vlo vhi)) RX11 rfl (by decide +kernel) (Nat.le_of_ble_eq_true rfl) ?_
  intro p e s m below meth c A hx hb hr hlocks av9 hav hts hown hnm hml hK hP hD hA hS hE hAe Q9 hQ9 ls hl
  have hl : lv_has ls 3 [(0, .ref vo), (1, .int vlo), (2, .int vhi)] := hl
  refine lv_aload_n hx hb dX11_readNumber_0 rfl (lv_at hl 0 rfl) ?_
  refine gf_X11_30 hx hb hts hown hK hP 0 rfl rfl dX11_readNumber_1 ?_
  refine lv_iconst (v := 3) hx hb dX11_readNumber_4 (by decide) ?_
  have k_3 : (3 : Int32).toInt = 3 := by decide
  refine lv_icmp_eq (tgt := 14) hx hb dX11_readNumber_5 (by decide) (fun c_1 => ?_) (fun c_1 => ?_)
  · skip
    have c_1 : vokd.toInt = (3 : Int32).toInt := i_eq.mp c_1
    refine lv_aload_n hx hb dX11_readNumber_14 rfl (lv_at hl 0 rfl) ?_
    refine gf_X11_47 hx hb hts hown hK hP 0 rfl rfl dX11_readNumber_15 ?_
    refine lv_iload_n hx hb dX11_readNumber_18 rfl (lv_at hl 1 rfl) ?_
    refine lv_iload_n hx hb dX11_readNumber_19 rfl (lv_at hl 2 rfl) ?_
    refine jr_i (rSr (As := [.int vonu, .int vlo, .int vhi]) (rest := []) ⟨hx, hb, hml, hown, hts⟩ (m_isIn l dC dI cy vonu vlo vhi ) (cw_X11_75 hts rfl rfl ⟨Nat.le_of_ble_eq_true rfl, Nat.le_of_ble_eq_true rfl⟩) hP hK [] rfl rfl hl.1 rfl (Nat.le_of_ble_eq_true rfl) dX11_readNumber_20 ⟨Nat.le_of_ble_eq_true rfl, Nat.le_of_ble_eq_true rfl⟩) hP hS (fun r_2 H locs hp_3 hP hS => ?_)
    have hp_3 : ((r_2 = 0 ∧ ((vonu : Int32).toInt < (vlo : Int32).toInt ∨ (vhi : Int32).toInt < (vonu : Int32).toInt)) ∨ (r_2 = 1 ∧ (vlo : Int32).toInt ≤ (vonu : Int32).toInt ∧ (vonu : Int32).toInt ≤ (vhi : Int32).toInt)) := hp_3
    have q_4 := hp_3
    rcases q_4 with ⟨aq_4, f0q_4⟩ | ⟨aq_4, f0q_4, f1q_4⟩
    · skip
      refine as_i 0 aq_4 ?_
      refine lv_if_ne (tgt := 32) hx hb dX11_readNumber_23 (by decide) (fun c9 => absurd c9 (by decide)) (fun _ => ?_)
      refine lv_aload_n hx hb dX11_readNumber_26 rfl (lv_at hl 0 rfl) ?_
      refine lv_iconst (v := 2) hx hb dX11_readNumber_27 (by decide) ?_
      have k_2 : (2 : Int32).toInt = 2 := by decide
      refine jn_i (wr := [(vmt, .inl (cy 0, 940, .inl vmtf))]) (rV (As := [.int 2]) (rest := []) (ci := 12) ⟨hx, hb, hml, hown, hts⟩ (m_bad l dC dI cy _ vo voth vmt votp vosz volm voto vofr vokd vonu vosg vofa vopl vowd votd vmn vmr vmk vms vma vmm vmrn vmkn vmik vmon vosm vohp vmw vmf vmb vomb vmd vmc vocm voct vocy vmx votx vose vml vmwr voln vohw vmno vond voon vowi votop 2 ) (cw_X11_72 hts rfl rfl ⟨Nat.le_of_ble_eq_true rfl, Nat.le_of_ble_eq_true rfl⟩) hP hD hK [0] rfl rfl rfl rfl bl0 e0 rfl hl.1 rfl (Nat.le_of_ble_eq_true rfl) dX11_readNumber_28 ⟨Nat.le_of_ble_eq_true rfl, Nat.le_of_ble_eq_true rfl⟩) hP hD hS hA [0] [1] rfl rfl rfl (by decide) (fun r_5 u_7 H locs hp_6 hP hD hS => ?_)
      obtain ⟨vofa_8, vopl_9⟩ := u_7
      have hp_6 : ((r_5 = 0)) := hp_6
      have q_10 := hp_6
      have hP : va_P (dC, dI) vwCl [(vmt, .inl (cy 0, 940, .inl vmtf)), (vo, .inr (12, [.int voth, .ref vmt, .int votp, .int vosz, .int volm, .int voto, .int vofr, .int vokd, .int vonu, .int vosg, .int vofa_8, .int vopl_9, .long vowd, .int votd, .ref vmn, .ref vmr, .ref vmk, .ref vms, .ref vma, .ref vmm, .ref vmrn, .ref vmkn, .ref vmik, .ref vmon, .int vosm, .int vohp, .ref vmw, .ref vmf, .ref vmb, .int vomb, .ref vmd, .ref vmc, .int vocm, .int voct, .int vocy, .ref vmx, .int votx, .int vose, .ref vml, .ref vmwr, .int voln, .int vohw, .ref vmno, .int vond, .int voon, .int vowi, .int votop]))] H := hP
      have hD : va_D A [(vmt, .inl (cy 0, 940, .inl vmtf)), (vo, .inr (12, [.int voth, .ref vmt, .int votp, .int vosz, .int volm, .int voto, .int vofr, .int vokd, .int vonu, .int vosg, .int vofa_8, .int vopl_9, .long vowd, .int votd, .ref vmn, .ref vmr, .ref vmk, .ref vms, .ref vma, .ref vmm, .ref vmrn, .ref vmkn, .ref vmik, .ref vmon, .int vosm, .int vohp, .ref vmw, .ref vmf, .ref vmb, .int vomb, .ref vmd, .ref vmc, .int vocm, .int voct, .int vocy, .ref vmx, .int votx, .int vose, .ref vml, .ref vmwr, .int voln, .int vohw, .ref vmno, .int vond, .int voon, .int vowi, .int votop]))] := hD
      have aq_10 := q_10
      · skip
        refine as_i 0 aq_10 ?_
        have k_0 : (0 : Int32).toInt = 0 := by decide
        rw [hQ9]
        exact re_z (voto, vofr, vokd, vosg, vowd, vonu, vofa_8, vopl_9, votd) hx hb hr hlocks (Or.inl rfl) ⟨(show ((0 : Int32) = 0 ∧ (votd : Int32).toInt = (votd : Int32).toInt) ∨ ((0 : Int32) = 1 ∧ (vlo : Int32).toInt ≤ (votd : Int32).toInt ∧ (votd : Int32).toInt ≤ (vhi : Int32).toInt ∧ ((vokd : Int32).toInt = 0 ∨ (vokd : Int32).toInt = 1 ∨ (voto : Int32).toInt + 1 ≤ (voto : Int32).toInt)) from (Or.inl ⟨rfl, by omega⟩)), (show 0 ≤ (voto : Int32).toInt ∧ (voto : Int32).toInt ≤ 940 from ⟨by omega, by omega⟩), (show -1 ≤ (votd : Int32).toInt ∧ (votd : Int32).toInt ≤ 999 from ⟨by omega, by omega⟩), (show (voto : Int32).toInt ≤ (voto : Int32).toInt from (by omega))⟩ (hP.sub [1, 0] rfl) (hD.sub [1, 0] rfl rfl) hS dX11_readNumber_31
    · skip
      refine as_i 1 aq_4 ?_
      refine lv_if_ne (tgt := 32) hx hb dX11_readNumber_23 (by decide) (fun _ => ?_) (fun c9 => absurd c9 (by decide))
      refine lv_aload_n hx hb dX11_readNumber_32 rfl (lv_at hl 0 rfl) ?_
      refine lv_aload_n hx hb dX11_readNumber_33 rfl (lv_at hl 0 rfl) ?_
      refine gf_X11_47 hx hb hts hown hK hP 0 rfl rfl dX11_readNumber_34 ?_
      refine pf_X11_79 hx hb hts hown hK hP hD hS 0 rfl rfl rfl (Nat.le_of_ble_eq_true rfl) dX11_readNumber_37 (fun H locs hP hD hS => ?_)
      have hP : va_P (dC, dI) vwCl [(vo, .inr (12, [.int voth, .ref vmt, .int votp, .int vosz, .int volm, .int voto, .int vofr, .int vokd, .int vonu, .int vosg, .int vofa, .int vopl, .long vowd, .int vonu, .ref vmn, .ref vmr, .ref vmk, .ref vms, .ref vma, .ref vmm, .ref vmrn, .ref vmkn, .ref vmik, .ref vmon, .int vosm, .int vohp, .ref vmw, .ref vmf, .ref vmb, .int vomb, .ref vmd, .ref vmc, .int vocm, .int voct, .int vocy, .ref vmx, .int votx, .int vose, .ref vml, .ref vmwr, .int voln, .int vohw, .ref vmno, .int vond, .int voon, .int vowi, .int votop])), (vmt, .inl (cy 0, 940, .inl vmtf))] H := hP
      have hD : va_D A [(vo, .inr (12, [.int voth, .ref vmt, .int votp, .int vosz, .int volm, .int voto, .int vofr, .int vokd, .int vonu, .int vosg, .int vofa, .int vopl, .long vowd, .int vonu, .ref vmn, .ref vmr, .ref vmk, .ref vms, .ref vma, .ref vmm, .ref vmrn, .ref vmkn, .ref vmik, .ref vmon, .int vosm, .int vohp, .ref vmw, .ref vmf, .ref vmb, .int vomb, .ref vmd, .ref vmc, .int vocm, .int voct, .int vocy, .ref vmx, .int votx, .int vose, .ref vml, .ref vmwr, .int voln, .int vohw, .ref vmno, .int vond, .int voon, .int vowi, .int votop])), (vmt, .inl (cy 0, 940, .inl vmtf))] := hD
      refine lv_aload_n hx hb dX11_readNumber_40 rfl (lv_at hl 0 rfl) ?_
      refine jn_v (wr := []) (rV (As := []) (rest := []) (ci := 12) ⟨hx, hb, hml, hown, hts⟩ (m_go l dC dI cy _ vo voth vmt votp vosz volm voto vofr vokd vonu vosg vofa vopl vowd vonu vmn vmr vmk vms vma vmm vmrn vmkn vmik vmon vosm vohp vmw vmf vmb vomb vmd vmc vocm voct vocy vmx votx vose vml vmwr voln vohw vmno vond voon vowi votop vmtf r_vosz r_voto p_vmtf) (cw_X11_82 hts rfl rfl ⟨Nat.le_of_ble_eq_true rfl, Nat.le_of_ble_eq_true rfl⟩) hP hD hK [0, 1] rfl rfl rfl rfl bl0 e0 rfl hl.1 rfl (Nat.le_of_ble_eq_true rfl) dX11_readNumber_41 ⟨Nat.le_of_ble_eq_true rfl, Nat.le_of_ble_eq_true rfl⟩) hP hD hS hA [0, 1] [] rfl rfl rfl (by decide) (fun u_13 H locs hp_12 hP hD hS => ?_)
      obtain ⟨voto_14, vofr_15, vokd_16, vosg_17, vowd_18, vonu_19⟩ := u_13
      have hp_12 : (0 ≤ (voto_14 : Int32).toInt ∧ (voto_14 : Int32).toInt ≤ 940) ∧ ((voto : Int32).toInt ≤ (voto_14 : Int32).toInt) ∧ (((vokd_16 : Int32).toInt = 0 ∨ (vokd_16 : Int32).toInt = 1 ∨ (voto : Int32).toInt + 1 ≤ (voto_14 : Int32).toInt)) := hp_12
      obtain ⟨q_20, q_21, q_22⟩ := hp_12
      have hP : va_P (dC, dI) vwCl [(vo, .inr (12, [.int voth, .ref vmt, .int votp, .int vosz, .int volm, .int voto_14, .int vofr_15, .int vokd_16, .int vonu_19, .int vosg_17, .int vofa, .int vopl, .long vowd_18, .int vonu, .ref vmn, .ref vmr, .ref vmk, .ref vms, .ref vma, .ref vmm, .ref vmrn, .ref vmkn, .ref vmik, .ref vmon, .int vosm, .int vohp, .ref vmw, .ref vmf, .ref vmb, .int vomb, .ref vmd, .ref vmc, .int vocm, .int voct, .int vocy, .ref vmx, .int votx, .int vose, .ref vml, .ref vmwr, .int voln, .int vohw, .ref vmno, .int vond, .int voon, .int vowi, .int votop])), (vmt, .inl (cy 0, 940, .inl vmtf))] H := hP
      have hD : va_D A [(vo, .inr (12, [.int voth, .ref vmt, .int votp, .int vosz, .int volm, .int voto_14, .int vofr_15, .int vokd_16, .int vonu_19, .int vosg_17, .int vofa, .int vopl, .long vowd_18, .int vonu, .ref vmn, .ref vmr, .ref vmk, .ref vms, .ref vma, .ref vmm, .ref vmrn, .ref vmkn, .ref vmik, .ref vmon, .int vosm, .int vohp, .ref vmw, .ref vmf, .ref vmb, .int vomb, .ref vmd, .ref vmc, .int vocm, .int voct, .int vocy, .ref vmx, .int votx, .int vose, .ref vml, .ref vmwr, .int voln, .int vohw, .ref vmno, .int vond, .int voon, .int vowi, .int votop])), (vmt, .inl (cy 0, 940, .inl vmtf))] := hD
      refine lv_iconst (v := 1) hx hb dX11_readNumber_44 (by decide) ?_
      have k_1 : (1 : Int32).toInt = 1 := by decide
      rw [hQ9]
      exact re_z (voto_14, vofr_15, vokd_16, vosg_17, vowd_18, vonu_19, vofa, vopl, vonu) hx hb hr hlocks (Or.inr rfl) ⟨(show ((1 : Int32) = 0 ∧ (vonu : Int32).toInt = (votd : Int32).toInt) ∨ ((1 : Int32) = 1 ∧ (vlo : Int32).toInt ≤ (vonu : Int32).toInt ∧ (vonu : Int32).toInt ≤ (vhi : Int32).toInt ∧ ((vokd_16 : Int32).toInt = 0 ∨ (vokd_16 : Int32).toInt = 1 ∨ (voto : Int32).toInt + 1 ≤ (voto_14 : Int32).toInt)) from (Or.inr (⟨rfl, by omega, by omega, by omega⟩))), (show 0 ≤ (voto_14 : Int32).toInt ∧ (voto_14 : Int32).toInt ≤ 940 from ⟨by omega, by omega⟩), (show -1 ≤ (vonu : Int32).toInt ∧ (vonu : Int32).toInt ≤ 999 from ⟨by omega, by omega⟩), (show (voto : Int32).toInt ≤ (voto_14 : Int32).toInt from q_21)⟩ (hP.sub [0, 1] rfl) (hD.sub [0, 1] rfl rfl) hS dX11_readNumber_45
  · skip
    have c_1 : ¬ (vokd.toInt = (3 : Int32).toInt) := fun h9 => c_1 (i_eq.mpr h9)
    refine lv_aload_n hx hb dX11_readNumber_8 rfl (lv_at hl 0 rfl) ?_
    refine lv_iconst (v := 1) hx hb dX11_readNumber_9 (by decide) ?_
    have k_1 : (1 : Int32).toInt = 1 := by decide
    refine jn_i (wr := [(vmt, .inl (cy 0, 940, .inl vmtf))]) (rV (As := [.int 1]) (rest := []) (ci := 12) ⟨hx, hb, hml, hown, hts⟩ (m_bad l dC dI cy _ vo voth vmt votp vosz volm voto vofr vokd vonu vosg vofa vopl vowd votd vmn vmr vmk vms vma vmm vmrn vmkn vmik vmon vosm vohp vmw vmf vmb vomb vmd vmc vocm voct vocy vmx votx vose vml vmwr voln vohw vmno vond voon vowi votop 1 ) (cw_X11_72 hts rfl rfl ⟨Nat.le_of_ble_eq_true rfl, Nat.le_of_ble_eq_true rfl⟩) hP hD hK [0] rfl rfl rfl rfl bl0 e0 rfl hl.1 rfl (Nat.le_of_ble_eq_true rfl) dX11_readNumber_10 ⟨Nat.le_of_ble_eq_true rfl, Nat.le_of_ble_eq_true rfl⟩) hP hD hS hA [0] [1] rfl rfl rfl (by decide) (fun r_23 u_25 H locs hp_24 hP hD hS => ?_)
    obtain ⟨vofa_26, vopl_27⟩ := u_25
    have hp_24 : ((r_23 = 0)) := hp_24
    have q_28 := hp_24
    have hP : va_P (dC, dI) vwCl [(vmt, .inl (cy 0, 940, .inl vmtf)), (vo, .inr (12, [.int voth, .ref vmt, .int votp, .int vosz, .int volm, .int voto, .int vofr, .int vokd, .int vonu, .int vosg, .int vofa_26, .int vopl_27, .long vowd, .int votd, .ref vmn, .ref vmr, .ref vmk, .ref vms, .ref vma, .ref vmm, .ref vmrn, .ref vmkn, .ref vmik, .ref vmon, .int vosm, .int vohp, .ref vmw, .ref vmf, .ref vmb, .int vomb, .ref vmd, .ref vmc, .int vocm, .int voct, .int vocy, .ref vmx, .int votx, .int vose, .ref vml, .ref vmwr, .int voln, .int vohw, .ref vmno, .int vond, .int voon, .int vowi, .int votop]))] H := hP
    have hD : va_D A [(vmt, .inl (cy 0, 940, .inl vmtf)), (vo, .inr (12, [.int voth, .ref vmt, .int votp, .int vosz, .int volm, .int voto, .int vofr, .int vokd, .int vonu, .int vosg, .int vofa_26, .int vopl_27, .long vowd, .int votd, .ref vmn, .ref vmr, .ref vmk, .ref vms, .ref vma, .ref vmm, .ref vmrn, .ref vmkn, .ref vmik, .ref vmon, .int vosm, .int vohp, .ref vmw, .ref vmf, .ref vmb, .int vomb, .ref vmd, .ref vmc, .int vocm, .int voct, .int vocy, .ref vmx, .int votx, .int vose, .ref vml, .ref vmwr, .int voln, .int vohw, .ref vmno, .int vond, .int voon, .int vowi, .int votop]))] := hD
    have aq_28 := q_28
    · skip
      refine as_i 0 aq_28 ?_
      have k_0 : (0 : Int32).toInt = 0 := by decide
      rw [hQ9]
      exact re_z (voto, vofr, vokd, vosg, vowd, vonu, vofa_26, vopl_27, votd) hx hb hr hlocks (Or.inl rfl) ⟨(show ((0 : Int32) = 0 ∧ (votd : Int32).toInt = (votd : Int32).toInt) ∨ ((0 : Int32) = 1 ∧ (vlo : Int32).toInt ≤ (votd : Int32).toInt ∧ (votd : Int32).toInt ≤ (vhi : Int32).toInt ∧ ((vokd : Int32).toInt = 0 ∨ (vokd : Int32).toInt = 1 ∨ (voto : Int32).toInt + 1 ≤ (voto : Int32).toInt)) from (Or.inl ⟨rfl, by omega⟩)), (show 0 ≤ (voto : Int32).toInt ∧ (voto : Int32).toInt ≤ 940 from ⟨by omega, by omega⟩), (show -1 ≤ (votd : Int32).toInt ∧ (votd : Int32).toInt ≤ 999 from ⟨by omega, by omega⟩), (show (voto : Int32).toInt ≤ (voto : Int32).toInt from (by omega))⟩ (hP.sub [1, 0] rfl) (hD.sub [1, 0] rfl rfl) hS dX11_readNumber_13
abbrev cX11_readEnd : ByteArray := prog_13_method_24_code
def yX11_readEnd : MethodName := ⟨RX11, "readEnd", "()Z"⟩
theorem t1694 : Cond.code yX11_readEnd cX11_readEnd 1 (some .boolean) ∈ GW := gw_mem 1808 (by decide +kernel) (by decide +kernel)
abbrev O_m_readEnd (cy : Nat → ClassId) (vo : Nat) (voth : Int32) (vmt : Nat) (votp : Int32) (vosz : Int32) (volm : Int32) (voto : Int32) (vofr : Int32) (vokd : Int32) (vonu : Int32) (vosg : Int32) (vofa : Int32) (vopl : Int32) (vowd : Int64) (votd : Int32) (vmn : Nat) (vmr : Nat) (vmk : Nat) (vms : Nat) (vma : Nat) (vmm : Nat) (vmrn : Nat) (vmkn : Nat) (vmik : Nat) (vmon : Nat) (vosm : Int32) (vohp : Int32) (vmw : Nat) (vmf : Nat) (vmb : Nat) (vomb : Int32) (vmd : Nat) (vmc : Nat) (vocm : Int32) (voct : Int32) (vocy : Int32) (vmx : Nat) (votx : Int32) (vose : Int32) (vml : Nat) (vmwr : Nat) (voln : Int32) (vohw : Int32) (vmno : Nat) (vond : Int32) (voon : Int32) (vowi : Int32) (votop : Int32) (vmtf : Nat → Int32) (u : Int32 × Int32 × Int32 × Int32 × Int64 × Int32 × Int32 × Int32) : va_W := [(vo, .inr (12, [.int voth, .ref vmt, .int votp, .int vosz, .int volm, .int u.1, .int u.2.1, .int u.2.2.1, .int u.2.2.2.2.2.1, .int u.2.2.2.1, .int u.2.2.2.2.2.2.1, .int u.2.2.2.2.2.2.2, .long u.2.2.2.2.1, .int votd, .ref vmn, .ref vmr, .ref vmk, .ref vms, .ref vma, .ref vmm, .ref vmrn, .ref vmkn, .ref vmik, .ref vmon, .int vosm, .int vohp, .ref vmw, .ref vmf, .ref vmb, .int vomb, .ref vmd, .ref vmc, .int vocm, .int voct, .int vocy, .ref vmx, .int votx, .int vose, .ref vml, .ref vmwr, .int voln, .int vohw, .ref vmno, .int vond, .int voon, .int vowi, .int votop])), (vmt, .inl (cy 0, 940, .inl vmtf))]
theorem dX11_readEnd_0 : decode cX11_readEnd 0 = .ok (.aload_n 0, 1) := by decide +kernel
theorem dX11_readEnd_1 : decode cX11_readEnd 1 = .ok (.bipush 59, 2) := by decide +kernel
theorem dX11_readEnd_3 : decode cX11_readEnd 3 = .ok (.invokevirtual 86, 3) := by decide +kernel
theorem t1695 : Cond.methodLink RX11 86 yX11_isSign ∈ GW := gw_mem 1809 (by decide +kernel) (by decide +kernel)
theorem t1697 : Cond.instanceMethod yX11_isSign ∈ GW := gw_mem 1811 (by decide +kernel) (by decide +kernel)
theorem s61 : Cond.selects RX11 yX11_isSign yX11_isSign ∈ GW := gw_mem 61 (by decide +kernel) (by decide +kernel)
theorem cw_X11_86 {R : Room} {s : State} {args : Array Value} {rm : Room} {mc ms : Nat} (hts : ∀ w ∈ GW, w.before args s = true) (hrc : rm.cells = mc) (hrs : rm.slots = ms) (hR : rm.frames + 1 ≤ R.frames ∧ 8 + (2 + 11) + rm.locals ≤ R.locals) : CallW R s args RX11 RX11 86 yX11_isSign cX11_isSign 2 (some .boolean) (wl yX11_isSign cX11_isSign 2 (some .boolean)) rm mc ms 1 := cwV 1 hts (gi_V t1695 t1697 s61 t18 t1698) rfl hrc hrs (by decide +kernel) hR
theorem dX11_readEnd_6 : decode cX11_readEnd 6 = .ok (.ifCond .ne 9, 3) := by decide +kernel
theorem dX11_readEnd_9 : decode cX11_readEnd 9 = .ok (.aload_n 0, 1) := by decide +kernel
theorem dX11_readEnd_10 : decode cX11_readEnd 10 = .ok (.iconst 1, 1) := by decide +kernel
theorem dX11_readEnd_11 : decode cX11_readEnd 11 = .ok (.invokevirtual 72, 3) := by decide +kernel
theorem dX11_readEnd_14 : decode cX11_readEnd 14 = .ok (.ireturn, 1) := by decide +kernel
theorem dX11_readEnd_15 : decode cX11_readEnd 15 = .ok (.aload_n 0, 1) := by decide +kernel
theorem dX11_readEnd_16 : decode cX11_readEnd 16 = .ok (.invokevirtual 82, 3) := by decide +kernel
theorem dX11_readEnd_19 : decode cX11_readEnd 19 = .ok (.iconst 1, 1) := by decide +kernel
theorem dX11_readEnd_20 : decode cX11_readEnd 20 = .ok (.ireturn, 1) := by decide +kernel
set_option maxHeartbeats 4000000 in
set_option maxRecDepth 100000 in
theorem m_readEnd (l : Launch) (dC : Nat → ClassId) (dI : Nat → Nat → Nat) (cy : Nat → ClassId) (sz : Nat) (vo : Nat) (voth : Int32) (vmt : Nat) (votp : Int32) (vosz : Int32) (volm : Int32) (voto : Int32) (vofr : Int32) (vokd : Int32) (vonu : Int32) (vosg : Int32) (vofa : Int32) (vopl : Int32) (vowd : Int64) (votd : Int32) (vmn : Nat) (vmr : Nat) (vmk : Nat) (vms : Nat) (vma : Nat) (vmm : Nat) (vmrn : Nat) (vmkn : Nat) (vmik : Nat) (vmon : Nat) (vosm : Int32) (vohp : Int32) (vmw : Nat) (vmf : Nat) (vmb : Nat) (vomb : Int32) (vmd : Nat) (vmc : Nat) (vocm : Int32) (voct : Int32) (vocy : Int32) (vmx : Nat) (votx : Int32) (vose : Int32) (vml : Nat) (vmwr : Nat) (voln : Int32) (vohw : Int32) (vmno : Nat) (vond : Int32) (voon : Int32) (vowi : Int32) (votop : Int32) (vmtf : Nat → Int32) (r_vosz : 0 ≤ (vosz : Int32).toInt ∧ (vosz : Int32).toInt ≤ 940) (r_voto : 0 ≤ (voto : Int32).toInt ∧ (voto : Int32).toInt ≤ 940) (p_vmtf : Rg vmtf 940 0 255) : Met l yX11_readEnd (wl yX11_readEnd cX11_readEnd 1 (some .boolean)) ({ frames := 2, cells := 0, slots := 0, locals := 128 }) (Pw (dC, dI) vwCl cy [(vo, .inr (12, [.int voth, .ref vmt, .int votp, .int vosz, .int volm, .int voto, .int vofr, .int vokd, .int vonu, .int vosg, .int vofa, .int vopl, .long vowd, .int votd, .ref vmn, .ref vmr, .ref vmk, .ref vms, .ref vma, .ref vmm, .ref vmrn, .ref vmkn, .ref vmik, .ref vmon, .int vosm, .int vohp, .ref vmw, .ref vmf, .ref vmb, .int vomb, .ref vmd, .ref vmc, .int vocm, .int voct, .int vocy, .ref vmx, .int votx, .int vose, .ref vml, .ref vmwr, .int voln, .int vohw, .ref vmno, .int vond, .int voon, .int vowi, .int votop])), (vmt, .inl (cy 0, 940, .inl vmtf))] sz [.ref vo] nE) (Qi (dC, dI) vwCl (fun (r : Int32) (u : Int32 × Int32 × Int32 × Int32 × Int64 × Int32 × Int32 × Int32) => ((r = 0) ∨ (r = 1 ∧ (vokd : Int32).toInt = 4)) ∧ (0 ≤ (u.1 : Int32).toInt ∧ (u.1 : Int32).toInt ≤ 940) ∧ ((voto : Int32).toInt ≤ (u.1 : Int32).toInt)) (O_m_readEnd cy vo voth vmt votp vosz volm voto vofr vokd vonu vosg vofa vopl vowd votd vmn vmr vmk vms vma vmm vmrn vmkn vmik vmon vosm vohp vmw vmf vmb vomb vmd vmc vocm voct vocy vmx votx vose vml vmwr voln vohw vmno vond voon vowi votop vmtf) (va_A [(vo, .inr (12, [.int voth, .ref vmt, .int votp, .int vosz, .int volm, .int voto, .int vofr, .int vokd, .int vonu, .int vosg, .int vofa, .int vopl, .long vowd, .int votd, .ref vmn, .ref vmr, .ref vmk, .ref vms, .ref vma, .ref vmm, .ref vmrn, .ref vmkn, .ref vmik, .ref vmon, .int vosm, .int vohp, .ref vmw, .ref vmf, .ref vmb, .int vomb, .ref vmd, .ref vmc, .int vocm, .int voct, .int vocy, .ref vmx, .int votx, .int vose, .ref vml, .ref vmwr, .int voln, .int vohw, .ref vmno, .int vond, .int voon, .int vowi, .int votop])), (vmt, .inl (cy 0, 940, .inl vmtf))] sz)) 0 0 (va_A [(vo, .inr (12, [.int voth, .ref vmt, .int votp, .int vosz, .int volm, .int voto, .int vofr, .int vokd, .int vonu, .int vosg, .int vofa, .int vopl, .long vowd, .int votd, .ref vmn, .ref vmr, .ref vmk, .ref vms, .ref vma, .ref vmm, .ref vmrn, .ref vmkn, .ref vmik, .ref vmon, .int vosm, .int vohp, .ref vmw, .ref vmf, .ref vmb, .int vomb, .ref vmd, .ref vmc, .int vocm, .int voct, .int vocy, .ref vmx, .int votx, .int vose, .ref vml, .ref vmwr, .int voln, .int vohw, .ref vmno, .int vond, .int voon, .int vowi, .int votop])), (vmt, .inl (cy 0, 940, .inl vmtf))] sz) := by
  refine mw (Qc := Qi (dC, dI) vwCl (fun (r : Int32) (u : Int32 × Int32 × Int32 × Int32 × Int64 × Int32 × Int32 × Int32) => ((r = 0) ∨ (r = 1 ∧ (vokd : Int32).toInt = 4)) ∧ (0 ≤ (u.1 : Int32).toInt ∧ (u.1 : Int32).toInt ≤ 940) ∧ ((voto : Int32).toInt ≤ (u.1 : Int32).toInt)) (O_m_readEnd cy vo voth vmt votp vosz volm voto vofr vokd vonu vosg vofa vopl vowd votd vmn vmr vmk vms vma vmm vmrn vmkn vmik vmon vosm vohp vmw vmf vmb vomb vmd vmc vocm voct vocy vmx votx vose vml vmwr voln vohw vmno vond voon vowi votop vmtf)) RX11 rfl (by decide +kernel) (Nat.le_of_ble_eq_true rfl) ?_
  intro p e s m below meth c A hx hb hr hlocks av9 hav hts hown hnm hml hK hP hD hA hS hE hAe Q9 hQ9 ls hl
  have hl : lv_has ls 1 [(0, .ref vo)] := hl
  refine lv_aload_n hx hb dX11_readEnd_0 rfl (lv_at hl 0 rfl) ?_
  refine lv_bipush (v := 59) hx hb dX11_readEnd_1 (by decide) ?_
  have k_59 : (59 : Int32).toInt = 59 := by decide
  refine jr_i (rVr (As := [.int 59]) (rest := []) (ci := 12) ⟨hx, hb, hml, hown, hts⟩ (m_isSign l dC dI cy vo voth vmt votp vosz volm voto vofr vokd vonu vosg vofa vopl vowd votd vmn vmr vmk vms vma vmm vmrn vmkn vmik vmon vosm vohp vmw vmf vmb vomb vmd vmc vocm voct vocy vmx votx vose vml vmwr voln vohw vmno vond voon vowi votop 59 ) (cw_X11_86 hts rfl rfl ⟨Nat.le_of_ble_eq_true rfl, Nat.le_of_ble_eq_true rfl⟩) hP hK [0] rfl rfl rfl rfl hl.1 rfl (Nat.le_of_ble_eq_true rfl) dX11_readEnd_3 ⟨Nat.le_of_ble_eq_true rfl, Nat.le_of_ble_eq_true rfl⟩) hP hS (fun r_1 H locs hp_2 hP hS => ?_)
  have hp_2 : ((r_1 = 0) ∨ (r_1 = 1 ∧ (vokd : Int32).toInt = 4)) := hp_2
  have q_3 := hp_2
  rcases q_3 with aq_3 | ⟨aq_3, f0q_3⟩
  · skip
    refine as_i 0 aq_3 ?_
    refine lv_if_ne (tgt := 15) hx hb dX11_readEnd_6 (by decide) (fun c9 => absurd c9 (by decide)) (fun _ => ?_)
    refine lv_aload_n hx hb dX11_readEnd_9 rfl (lv_at hl 0 rfl) ?_
    refine lv_iconst (v := 1) hx hb dX11_readEnd_10 (by decide) ?_
    have k_1 : (1 : Int32).toInt = 1 := by decide
    refine jn_i (wr := [(vmt, .inl (cy 0, 940, .inl vmtf))]) (rV (As := [.int 1]) (rest := []) (ci := 12) ⟨hx, hb, hml, hown, hts⟩ (m_bad l dC dI cy _ vo voth vmt votp vosz volm voto vofr vokd vonu vosg vofa vopl vowd votd vmn vmr vmk vms vma vmm vmrn vmkn vmik vmon vosm vohp vmw vmf vmb vomb vmd vmc vocm voct vocy vmx votx vose vml vmwr voln vohw vmno vond voon vowi votop 1 ) (cw_X11_72 hts rfl rfl ⟨Nat.le_of_ble_eq_true rfl, Nat.le_of_ble_eq_true rfl⟩) hP hD hK [0] rfl rfl rfl rfl bl0 e0 rfl hl.1 rfl (Nat.le_of_ble_eq_true rfl) dX11_readEnd_11 ⟨Nat.le_of_ble_eq_true rfl, Nat.le_of_ble_eq_true rfl⟩) hP hD hS hA [0] [1] rfl rfl rfl (by decide) (fun r_4 u_6 H locs hp_5 hP hD hS => ?_)
    obtain ⟨vofa_7, vopl_8⟩ := u_6
    have hp_5 : ((r_4 = 0)) := hp_5
    have q_9 := hp_5
    have hP : va_P (dC, dI) vwCl [(vmt, .inl (cy 0, 940, .inl vmtf)), (vo, .inr (12, [.int voth, .ref vmt, .int votp, .int vosz, .int volm, .int voto, .int vofr, .int vokd, .int vonu, .int vosg, .int vofa_7, .int vopl_8, .long vowd, .int votd, .ref vmn, .ref vmr, .ref vmk, .ref vms, .ref vma, .ref vmm, .ref vmrn, .ref vmkn, .ref vmik, .ref vmon, .int vosm, .int vohp, .ref vmw, .ref vmf, .ref vmb, .int vomb, .ref vmd, .ref vmc, .int vocm, .int voct, .int vocy, .ref vmx, .int votx, .int vose, .ref vml, .ref vmwr, .int voln, .int vohw, .ref vmno, .int vond, .int voon, .int vowi, .int votop]))] H := hP
    have hD : va_D A [(vmt, .inl (cy 0, 940, .inl vmtf)), (vo, .inr (12, [.int voth, .ref vmt, .int votp, .int vosz, .int volm, .int voto, .int vofr, .int vokd, .int vonu, .int vosg, .int vofa_7, .int vopl_8, .long vowd, .int votd, .ref vmn, .ref vmr, .ref vmk, .ref vms, .ref vma, .ref vmm, .ref vmrn, .ref vmkn, .ref vmik, .ref vmon, .int vosm, .int vohp, .ref vmw, .ref vmf, .ref vmb, .int vomb, .ref vmd, .ref vmc, .int vocm, .int voct, .int vocy, .ref vmx, .int votx, .int vose, .ref vml, .ref vmwr, .int voln, .int vohw, .ref vmno, .int vond, .int voon, .int vowi, .int votop]))] := hD
    have aq_9 := q_9
    · skip
      refine as_i 0 aq_9 ?_
      have k_0 : (0 : Int32).toInt = 0 := by decide
      rw [hQ9]
      exact re_z (voto, vofr, vokd, vosg, vowd, vonu, vofa_7, vopl_8) hx hb hr hlocks (Or.inl rfl) ⟨(show ((0 : Int32) = 0) ∨ ((0 : Int32) = 1 ∧ (vokd : Int32).toInt = 4) from (Or.inl rfl)), (show 0 ≤ (voto : Int32).toInt ∧ (voto : Int32).toInt ≤ 940 from ⟨by omega, by omega⟩), (show (voto : Int32).toInt ≤ (voto : Int32).toInt from (by omega))⟩ (hP.sub [1, 0] rfl) (hD.sub [1, 0] rfl rfl) hS dX11_readEnd_14
  · skip
    refine as_i 1 aq_3 ?_
    refine lv_if_ne (tgt := 15) hx hb dX11_readEnd_6 (by decide) (fun _ => ?_) (fun c9 => absurd c9 (by decide))
    refine lv_aload_n hx hb dX11_readEnd_15 rfl (lv_at hl 0 rfl) ?_
    refine jn_v (wr := []) (rV (As := []) (rest := []) (ci := 12) ⟨hx, hb, hml, hown, hts⟩ (m_go l dC dI cy _ vo voth vmt votp vosz volm voto vofr vokd vonu vosg vofa vopl vowd votd vmn vmr vmk vms vma vmm vmrn vmkn vmik vmon vosm vohp vmw vmf vmb vomb vmd vmc vocm voct vocy vmx votx vose vml vmwr voln vohw vmno vond voon vowi votop vmtf r_vosz r_voto p_vmtf) (cw_X11_82 hts rfl rfl ⟨Nat.le_of_ble_eq_true rfl, Nat.le_of_ble_eq_true rfl⟩) hP hD hK [0, 1] rfl rfl rfl rfl bl0 e0 rfl hl.1 rfl (Nat.le_of_ble_eq_true rfl) dX11_readEnd_16 ⟨Nat.le_of_ble_eq_true rfl, Nat.le_of_ble_eq_true rfl⟩) hP hD hS hA [0, 1] [] rfl rfl rfl (by decide) (fun u_12 H locs hp_11 hP hD hS => ?_)
    obtain ⟨voto_13, vofr_14, vokd_15, vosg_16, vowd_17, vonu_18⟩ := u_12
    have hp_11 : (0 ≤ (voto_13 : Int32).toInt ∧ (voto_13 : Int32).toInt ≤ 940) ∧ ((voto : Int32).toInt ≤ (voto_13 : Int32).toInt) ∧ (((vokd_15 : Int32).toInt = 0 ∨ (vokd_15 : Int32).toInt = 1 ∨ (voto : Int32).toInt + 1 ≤ (voto_13 : Int32).toInt)) := hp_11
    obtain ⟨q_19, q_20, q_21⟩ := hp_11
    have hP : va_P (dC, dI) vwCl [(vo, .inr (12, [.int voth, .ref vmt, .int votp, .int vosz, .int volm, .int voto_13, .int vofr_14, .int vokd_15, .int vonu_18, .int vosg_16, .int vofa, .int vopl, .long vowd_17, .int votd, .ref vmn, .ref vmr, .ref vmk, .ref vms, .ref vma, .ref vmm, .ref vmrn, .ref vmkn, .ref vmik, .ref vmon, .int vosm, .int vohp, .ref vmw, .ref vmf, .ref vmb, .int vomb, .ref vmd, .ref vmc, .int vocm, .int voct, .int vocy, .ref vmx, .int votx, .int vose, .ref vml, .ref vmwr, .int voln, .int vohw, .ref vmno, .int vond, .int voon, .int vowi, .int votop])), (vmt, .inl (cy 0, 940, .inl vmtf))] H := hP
    have hD : va_D A [(vo, .inr (12, [.int voth, .ref vmt, .int votp, .int vosz, .int volm, .int voto_13, .int vofr_14, .int vokd_15, .int vonu_18, .int vosg_16, .int vofa, .int vopl, .long vowd_17, .int votd, .ref vmn, .ref vmr, .ref vmk, .ref vms, .ref vma, .ref vmm, .ref vmrn, .ref vmkn, .ref vmik, .ref vmon, .int vosm, .int vohp, .ref vmw, .ref vmf, .ref vmb, .int vomb, .ref vmd, .ref vmc, .int vocm, .int voct, .int vocy, .ref vmx, .int votx, .int vose, .ref vml, .ref vmwr, .int voln, .int vohw, .ref vmno, .int vond, .int voon, .int vowi, .int votop])), (vmt, .inl (cy 0, 940, .inl vmtf))] := hD
    refine lv_iconst (v := 1) hx hb dX11_readEnd_19 (by decide) ?_
    have k_1 : (1 : Int32).toInt = 1 := by decide
    rw [hQ9]
    exact re_z (voto_13, vofr_14, vokd_15, vosg_16, vowd_17, vonu_18, vofa, vopl) hx hb hr hlocks (Or.inr rfl) ⟨(show ((1 : Int32) = 0) ∨ ((1 : Int32) = 1 ∧ (vokd : Int32).toInt = 4) from (Or.inr (⟨rfl, by omega⟩))), (show 0 ≤ (voto_13 : Int32).toInt ∧ (voto_13 : Int32).toInt ≤ 940 from ⟨by omega, by omega⟩), (show (voto : Int32).toInt ≤ (voto_13 : Int32).toInt from q_20)⟩ (hP.sub [0, 1] rfl) (hD.sub [0, 1] rfl rfl) hS dX11_readEnd_20
abbrev cX11_begin : ByteArray := prog_13_method_25_code
def yX11_begin : MethodName := ⟨RX11, "begin", "(I)V"⟩
theorem t1591 : Cond.code yX11_begin cX11_begin 2 none ∈ GW := gw_mem 1705 (by decide +kernel) (by decide +kernel)
abbrev O_m_begin (cy : Nat → ClassId) (vo : Nat) (voth : Int32) (vmt : Nat) (votp : Int32) (vosz : Int32) (volm : Int32) (voto : Int32) (vofr : Int32) (vokd : Int32) (vonu : Int32) (vosg : Int32) (vofa : Int32) (vopl : Int32) (vowd : Int64) (votd : Int32) (vmn : Nat) (vmr : Nat) (vmk : Nat) (vms : Nat) (vma : Nat) (vmm : Nat) (vmrn : Nat) (vmkn : Nat) (vmik : Nat) (vmon : Nat) (vosm : Int32) (vohp : Int32) (vmw : Nat) (vmf : Nat) (vmb : Nat) (vomb : Int32) (vmd : Nat) (vmc : Nat) (vocm : Int32) (voct : Int32) (vocy : Int32) (vmx : Nat) (votx : Int32) (vose : Int32) (vml : Nat) (vmwr : Nat) (voln : Int32) (vohw : Int32) (vmno : Nat) (vond : Int32) (voon : Int32) (vowi : Int32) (votop : Int32) (vmtf : Nat → Int32) (vx : Int32) (u : Int32 × Int32 × Int32 × Int32 × Int64 × Int32 × Int32 × Int32 × Int32 × Int32 × Int32) : va_W := [(vo, .inr (12, [.int u.2.2.2.2.2.2.2.1, .ref vmt, .int u.2.2.2.2.2.2.2.2.1, .int u.2.2.2.2.2.2.2.2.2.1, .int u.2.2.2.2.2.2.2.2.2.2, .int u.1, .int u.2.1, .int u.2.2.1, .int u.2.2.2.2.2.1, .int u.2.2.2.1, .int u.2.2.2.2.2.2.1, .int vopl, .long u.2.2.2.2.1, .int votd, .ref vmn, .ref vmr, .ref vmk, .ref vms, .ref vma, .ref vmm, .ref vmrn, .ref vmkn, .ref vmik, .ref vmon, .int vosm, .int vohp, .ref vmw, .ref vmf, .ref vmb, .int vomb, .ref vmd, .ref vmc, .int vocm, .int voct, .int vocy, .ref vmx, .int votx, .int vose, .ref vml, .ref vmwr, .int voln, .int vohw, .ref vmno, .int vond, .int voon, .int vowi, .int votop])), (vmt, .inl (cy 0, 940, .inl vmtf))]
theorem dX11_begin_0 : decode cX11_begin 0 = .ok (.aload_n 0, 1) := by decide +kernel
theorem dX11_begin_1 : decode cX11_begin 1 = .ok (.iconst 0, 1) := by decide +kernel
theorem dX11_begin_2 : decode cX11_begin 2 = .ok (.putfield 1, 3) := by decide +kernel
theorem dX11_begin_5 : decode cX11_begin 5 = .ok (.aload_n 0, 1) := by decide +kernel
theorem dX11_begin_6 : decode cX11_begin 6 = .ok (.aload_n 0, 1) := by decide +kernel
theorem dX11_begin_7 : decode cX11_begin 7 = .ok (.invokevirtual 89, 3) := by decide +kernel
theorem t1592 : Cond.methodLink RX11 89 yX11_take ∈ GW := gw_mem 1706 (by decide +kernel) (by decide +kernel)
theorem t1594 : Cond.instanceMethod yX11_take ∈ GW := gw_mem 1708 (by decide +kernel) (by decide +kernel)
theorem s41 : Cond.selects RX11 yX11_take yX11_take ∈ GW := gw_mem 41 (by decide +kernel) (by decide +kernel)
theorem cw_X11_89 {R : Room} {s : State} {args : Array Value} {rm : Room} {mc ms : Nat} (hts : ∀ w ∈ GW, w.before args s = true) (hrc : rm.cells = mc) (hrs : rm.slots = ms) (hR : rm.frames + 1 ≤ R.frames ∧ 8 + (2 + 11) + rm.locals ≤ R.locals) : CallW R s args RX11 RX11 89 yX11_take cX11_take 2 (some .int) (wl yX11_take cX11_take 2 (some .int)) rm mc ms 0 := cwV 0 hts (gi_V t1592 t1594 s41 t18 t1595) rfl hrc hrs (by decide +kernel) hR
theorem dX11_begin_10 : decode cX11_begin 10 = .ok (.putfield 18, 3) := by decide +kernel
theorem pf_X11_18 {p : Program} {l : Launch} {e : Env} {R : Room} {s : State} {m : MethodId} {args : Array Value} {below : List Frame} {meth : Method} {c : Code} {H : Heap} {locs : List Loc} {cells slots : Nat} {Q : State → Prop} {cc : ByteArray} {pc : Nat} {ls : Array Slot} {rest : List Value} {D : va_G} {A : Nat → Prop} {a : Nat} {tys : List (ClassId × FieldType)} {ws : va_W} {H0 : Heap} (hx : p.tables.exec = Jvm.exec) (hb : c.code = cc) (hts : ∀ w ∈ GW, w.before args s = true) (hown : s.vm.findClass RX11 = some m.cls) (hK : va_K D vwCl tys s) (hP : va_P D vwCl ws H) (hD : va_D A ws) (hS0 : va_S A H0 H locs) (q0 : Nat) {fs : List Value} (he : ws[q0]? = some (a, .inr (12, fs))) {v : Value} (hn : narrow (tyX11 3) v = v) (hfit : fits (tyX11 3) v = true) (hl : 3 < fs.length) (hdg : decode cc pc = .ok (.putfield 18, 3)) (kk : ∀ (H1 : Heap) (locs1 : List Loc), va_P D vwCl (ws.set q0 (a, .inr (12, fs.set 3 v))) H1 → va_D A (ws.set q0 (a, .inr (12, fs.set 3 v))) → va_S A H0 H1 locs1 → W p l e R s m args below meth c H1 locs1 cells slots Q (F0 m (pc + 3) ls rest)) : W p l e R s m args below meth c H locs cells slots Q (F0 m pc ls (v :: .ref a :: rest)) := va_put (C := RX11) (T := TX11) (N := 47) (ci := 12) hx hb hts inX11 tyX11 tkX11 nmX11 hown hK hP hD hS0 q0 he rfl 3 (by decide) (hts _ t1445) (fun _ h => h) rfl (tkX11 3 (by decide)) hn hfit hl hdg kk
theorem dX11_begin_13 : decode cX11_begin 13 = .ok (.aload_n 0, 1) := by decide +kernel
theorem dX11_begin_14 : decode cX11_begin 14 = .ok (.iload_n 1, 1) := by decide +kernel
theorem dX11_begin_15 : decode cX11_begin 15 = .ok (.putfield 27, 3) := by decide +kernel
theorem pf_X11_27 {p : Program} {l : Launch} {e : Env} {R : Room} {s : State} {m : MethodId} {args : Array Value} {below : List Frame} {meth : Method} {c : Code} {H : Heap} {locs : List Loc} {cells slots : Nat} {Q : State → Prop} {cc : ByteArray} {pc : Nat} {ls : Array Slot} {rest : List Value} {D : va_G} {A : Nat → Prop} {a : Nat} {tys : List (ClassId × FieldType)} {ws : va_W} {H0 : Heap} (hx : p.tables.exec = Jvm.exec) (hb : c.code = cc) (hts : ∀ w ∈ GW, w.before args s = true) (hown : s.vm.findClass RX11 = some m.cls) (hK : va_K D vwCl tys s) (hP : va_P D vwCl ws H) (hD : va_D A ws) (hS0 : va_S A H0 H locs) (q0 : Nat) {fs : List Value} (he : ws[q0]? = some (a, .inr (12, fs))) {v : Value} (hn : narrow (tyX11 4) v = v) (hfit : fits (tyX11 4) v = true) (hl : 4 < fs.length) (hdg : decode cc pc = .ok (.putfield 27, 3)) (kk : ∀ (H1 : Heap) (locs1 : List Loc), va_P D vwCl (ws.set q0 (a, .inr (12, fs.set 4 v))) H1 → va_D A (ws.set q0 (a, .inr (12, fs.set 4 v))) → va_S A H0 H1 locs1 → W p l e R s m args below meth c H1 locs1 cells slots Q (F0 m (pc + 3) ls rest)) : W p l e R s m args below meth c H locs cells slots Q (F0 m pc ls (v :: .ref a :: rest)) := va_put (C := RX11) (T := TX11) (N := 47) (ci := 12) hx hb hts inX11 tyX11 tkX11 nmX11 hown hK hP hD hS0 q0 he rfl 4 (by decide) (hts _ t1446) (fun _ h => h) rfl (tkX11 4 (by decide)) hn hfit hl hdg kk
theorem dX11_begin_18 : decode cX11_begin 18 = .ok (.aload_n 0, 1) := by decide +kernel
theorem dX11_begin_19 : decode cX11_begin 19 = .ok (.iconst 0, 1) := by decide +kernel
theorem dX11_begin_20 : decode cX11_begin 20 = .ok (.putfield 66, 3) := by decide +kernel
theorem dX11_begin_23 : decode cX11_begin 23 = .ok (.aload_n 0, 1) := by decide +kernel
theorem dX11_begin_24 : decode cX11_begin 24 = .ok (.iconst 0, 1) := by decide +kernel
theorem dX11_begin_25 : decode cX11_begin 25 = .ok (.putfield 21, 3) := by decide +kernel
theorem dX11_begin_28 : decode cX11_begin 28 = .ok (.aload_n 0, 1) := by decide +kernel
theorem dX11_begin_29 : decode cX11_begin 29 = .ok (.invokevirtual 82, 3) := by decide +kernel
theorem dX11_begin_32 : decode cX11_begin 32 = .ok (.return_, 1) := by decide +kernel
set_option maxHeartbeats 4000000 in
set_option maxRecDepth 100000 in
theorem m_begin (l : Launch) (dC : Nat → ClassId) (dI : Nat → Nat → Nat) (cy : Nat → ClassId) (sz : Nat) (vo : Nat) (voth : Int32) (vmt : Nat) (votp : Int32) (vosz : Int32) (volm : Int32) (voto : Int32) (vofr : Int32) (vokd : Int32) (vonu : Int32) (vosg : Int32) (vofa : Int32) (vopl : Int32) (vowd : Int64) (votd : Int32) (vmn : Nat) (vmr : Nat) (vmk : Nat) (vms : Nat) (vma : Nat) (vmm : Nat) (vmrn : Nat) (vmkn : Nat) (vmik : Nat) (vmon : Nat) (vosm : Int32) (vohp : Int32) (vmw : Nat) (vmf : Nat) (vmb : Nat) (vomb : Int32) (vmd : Nat) (vmc : Nat) (vocm : Int32) (voct : Int32) (vocy : Int32) (vmx : Nat) (votx : Int32) (vose : Int32) (vml : Nat) (vmwr : Nat) (voln : Int32) (vohw : Int32) (vmno : Nat) (vond : Int32) (voon : Int32) (vowi : Int32) (votop : Int32) (vmtf : Nat → Int32) (vx : Int32) (r_votp : 0 ≤ (votp : Int32).toInt ∧ (votp : Int32).toInt ≤ 940) (p_vmtf : Rg vmtf 940 0 255) : Met l yX11_begin (wl yX11_begin cX11_begin 2 none) ({ frames := 2, cells := 0, slots := 0, locals := 128 }) (Pw (dC, dI) vwCl cy [(vo, .inr (12, [.int voth, .ref vmt, .int votp, .int vosz, .int volm, .int voto, .int vofr, .int vokd, .int vonu, .int vosg, .int vofa, .int vopl, .long vowd, .int votd, .ref vmn, .ref vmr, .ref vmk, .ref vms, .ref vma, .ref vmm, .ref vmrn, .ref vmkn, .ref vmik, .ref vmon, .int vosm, .int vohp, .ref vmw, .ref vmf, .ref vmb, .int vomb, .ref vmd, .ref vmc, .int vocm, .int voct, .int vocy, .ref vmx, .int votx, .int vose, .ref vml, .ref vmwr, .int voln, .int vohw, .ref vmno, .int vond, .int voon, .int vowi, .int votop])), (vmt, .inl (cy 0, 940, .inl vmtf))] sz [.ref vo, .int vx] nE) (Qv (dC, dI) vwCl (fun (u : Int32 × Int32 × Int32 × Int32 × Int64 × Int32 × Int32 × Int32 × Int32 × Int32 × Int32) => (0 ≤ (u.1 : Int32).toInt ∧ (u.1 : Int32).toInt ≤ 940) ∧ (0 ≤ (u.2.2.2.2.2.2.2.2.1 : Int32).toInt ∧ (u.2.2.2.2.2.2.2.2.1 : Int32).toInt ≤ 0) ∧ (0 ≤ (u.2.2.2.2.2.2.2.2.2.1 : Int32).toInt ∧ (u.2.2.2.2.2.2.2.2.2.1 : Int32).toInt ≤ 940)) (O_m_begin cy vo voth vmt votp vosz volm voto vofr vokd vonu vosg vofa vopl vowd votd vmn vmr vmk vms vma vmm vmrn vmkn vmik vmon vosm vohp vmw vmf vmb vomb vmd vmc vocm voct vocy vmx votx vose vml vmwr voln vohw vmno vond voon vowi votop vmtf vx) (va_A [(vo, .inr (12, [.int voth, .ref vmt, .int votp, .int vosz, .int volm, .int voto, .int vofr, .int vokd, .int vonu, .int vosg, .int vofa, .int vopl, .long vowd, .int votd, .ref vmn, .ref vmr, .ref vmk, .ref vms, .ref vma, .ref vmm, .ref vmrn, .ref vmkn, .ref vmik, .ref vmon, .int vosm, .int vohp, .ref vmw, .ref vmf, .ref vmb, .int vomb, .ref vmd, .ref vmc, .int vocm, .int voct, .int vocy, .ref vmx, .int votx, .int vose, .ref vml, .ref vmwr, .int voln, .int vohw, .ref vmno, .int vond, .int voon, .int vowi, .int votop])), (vmt, .inl (cy 0, 940, .inl vmtf))] sz)) 0 0 (va_A [(vo, .inr (12, [.int voth, .ref vmt, .int votp, .int vosz, .int volm, .int voto, .int vofr, .int vokd, .int vonu, .int vosg, .int vofa, .int vopl, .long vowd, .int votd, .ref vmn, .ref vmr, .ref vmk, .ref vms, .ref vma, .ref vmm, .ref vmrn, .ref vmkn, .ref vmik, .ref vmon, .int vosm, .int vohp, .ref vmw, .ref vmf, .ref vmb, .int vomb, .ref vmd, .ref vmc, .int vocm, .int voct, .int vocy, .ref vmx, .int votx, .int vose, .ref vml, .ref vmwr, .int voln, .int vohw, .ref vmno, .int vond, .int voon, .int vowi, .int votop])), (vmt, .inl (cy 0, 940, .inl vmtf))] sz) := by
  refine mw (Qc := Qv (dC, dI) vwCl (fun (u : Int32 × Int32 × Int32 × Int32 × Int64 × Int32 × Int32 × Int32 × Int32 × Int32 × Int32) => (0 ≤ (u.1 : Int32).toInt ∧ (u.1 : Int32).toInt ≤ 940) ∧ (0 ≤ (u.2.2.2.2.2.2.2.2.1 : Int32).toInt ∧ (u.2.2.2.2.2.2.2.2.1 : Int32).toInt ≤ 0) ∧ (0 ≤ (u.2.2.2.2.2.2.2.2.2.1 : Int32).toInt ∧ (u.2.2.2.2.2.2.2.2.2.1 : Int32).toInt ≤ 940)) (O_m_begin cy vo voth vmt votp vosz volm voto vofr vokd vonu vosg vofa vopl vowd votd vmn vmr vmk vms vma vmm vmrn vmkn vmik vmon vosm vohp vmw vmf vmb vomb vmd vmc vocm voct vocy vmx votx vose vml vmwr voln vohw vmno vond voon vowi votop vmtf vx)) RX11 rfl (by decide +kernel) (Nat.le_of_ble_eq_true rfl) ?_
  intro p e s m below meth c A hx hb hr hlocks av9 hav hts hown hnm hml hK hP hD hA hS hE hAe Q9 hQ9 ls hl
  have hl : lv_has ls 2 [(0, .ref vo), (1, .int vx)] := hl
  refine lv_aload_n hx hb dX11_begin_0 rfl (lv_at hl 0 rfl) ?_
  refine lv_iconst (v := 0) hx hb dX11_begin_1 (by decide) ?_
  refine pf_X11_1 hx hb hts hown hK hP hD hS 0 rfl rfl rfl (Nat.le_of_ble_eq_true rfl) dX11_begin_2 (fun H locs hP hD hS => ?_)
  have hP : va_P (dC, dI) vwCl [(vo, .inr (12, [.int 0, .ref vmt, .int votp, .int vosz, .int volm, .int voto, .int vofr, .int vokd, .int vonu, .int vosg, .int vofa, .int vopl, .long vowd, .int votd, .ref vmn, .ref vmr, .ref vmk, .ref vms, .ref vma, .ref vmm, .ref vmrn, .ref vmkn, .ref vmik, .ref vmon, .int vosm, .int vohp, .ref vmw, .ref vmf, .ref vmb, .int vomb, .ref vmd, .ref vmc, .int vocm, .int voct, .int vocy, .ref vmx, .int votx, .int vose, .ref vml, .ref vmwr, .int voln, .int vohw, .ref vmno, .int vond, .int voon, .int vowi, .int votop])), (vmt, .inl (cy 0, 940, .inl vmtf))] H := hP
  have hD : va_D A [(vo, .inr (12, [.int 0, .ref vmt, .int votp, .int vosz, .int volm, .int voto, .int vofr, .int vokd, .int vonu, .int vosg, .int vofa, .int vopl, .long vowd, .int votd, .ref vmn, .ref vmr, .ref vmk, .ref vms, .ref vma, .ref vmm, .ref vmrn, .ref vmkn, .ref vmik, .ref vmon, .int vosm, .int vohp, .ref vmw, .ref vmf, .ref vmb, .int vomb, .ref vmd, .ref vmc, .int vocm, .int voct, .int vocy, .ref vmx, .int votx, .int vose, .ref vml, .ref vmwr, .int voln, .int vohw, .ref vmno, .int vond, .int voon, .int vowi, .int votop])), (vmt, .inl (cy 0, 940, .inl vmtf))] := hD
  refine lv_aload_n hx hb dX11_begin_5 rfl (lv_at hl 0 rfl) ?_
  refine lv_aload_n hx hb dX11_begin_6 rfl (lv_at hl 0 rfl) ?_
  have k_0 : (0 : Int32).toInt = 0 := by decide
  refine jn_i (wr := [(vmt, .inl (cy 0, 940, .inl vmtf))]) (rV (As := []) (rest := [.ref vo]) (ci := 12) ⟨hx, hb, hml, hown, hts⟩ (m_take l dC dI cy _ vo 0 vmt votp vosz volm voto vofr vokd vonu vosg vofa vopl vowd votd vmn vmr vmk vms vma vmm vmrn vmkn vmik vmon vosm vohp vmw vmf vmb vomb vmd vmc vocm voct vocy vmx votx vose vml vmwr voln vohw vmno vond voon vowi votop r_votp) (cw_X11_89 hts rfl rfl ⟨Nat.le_of_ble_eq_true rfl, Nat.le_of_ble_eq_true rfl⟩) hP hD hK [0] rfl rfl rfl rfl bl0 e0 rfl hl.1 rfl (Nat.le_of_ble_eq_true rfl) dX11_begin_7 ⟨Nat.le_of_ble_eq_true rfl, Nat.le_of_ble_eq_true rfl⟩) hP hD hS hA [0] [1] rfl rfl rfl (by decide) (fun r_1 u_3 H locs hp_2 hP hD hS => ?_)
  obtain ⟨votp_4, rfl⟩ : ∃ z, z = u_3 := ⟨_, rfl⟩
  have hp_2 : (0 ≤ (r_1 : Int32).toInt ∧ (r_1 : Int32).toInt ≤ 940) ∧ (0 ≤ (votp_4 : Int32).toInt ∧ (votp_4 : Int32).toInt ≤ 0) := hp_2
  obtain ⟨q_5, q_6⟩ := hp_2
  have hP : va_P (dC, dI) vwCl [(vmt, .inl (cy 0, 940, .inl vmtf)), (vo, .inr (12, [.int 0, .ref vmt, .int votp_4, .int vosz, .int volm, .int voto, .int vofr, .int vokd, .int vonu, .int vosg, .int vofa, .int vopl, .long vowd, .int votd, .ref vmn, .ref vmr, .ref vmk, .ref vms, .ref vma, .ref vmm, .ref vmrn, .ref vmkn, .ref vmik, .ref vmon, .int vosm, .int vohp, .ref vmw, .ref vmf, .ref vmb, .int vomb, .ref vmd, .ref vmc, .int vocm, .int voct, .int vocy, .ref vmx, .int votx, .int vose, .ref vml, .ref vmwr, .int voln, .int vohw, .ref vmno, .int vond, .int voon, .int vowi, .int votop]))] H := hP
  have hD : va_D A [(vmt, .inl (cy 0, 940, .inl vmtf)), (vo, .inr (12, [.int 0, .ref vmt, .int votp_4, .int vosz, .int volm, .int voto, .int vofr, .int vokd, .int vonu, .int vosg, .int vofa, .int vopl, .long vowd, .int votd, .ref vmn, .ref vmr, .ref vmk, .ref vms, .ref vma, .ref vmm, .ref vmrn, .ref vmkn, .ref vmik, .ref vmon, .int vosm, .int vohp, .ref vmw, .ref vmf, .ref vmb, .int vomb, .ref vmd, .ref vmc, .int vocm, .int voct, .int vocy, .ref vmx, .int votx, .int vose, .ref vml, .ref vmwr, .int voln, .int vohw, .ref vmno, .int vond, .int voon, .int vowi, .int votop]))] := hD
  refine pf_X11_18 hx hb hts hown hK hP hD hS 1 rfl rfl rfl (Nat.le_of_ble_eq_true rfl) dX11_begin_10 (fun H locs hP hD hS => ?_)
  have hP : va_P (dC, dI) vwCl [(vmt, .inl (cy 0, 940, .inl vmtf)), (vo, .inr (12, [.int 0, .ref vmt, .int votp_4, .int r_1, .int volm, .int voto, .int vofr, .int vokd, .int vonu, .int vosg, .int vofa, .int vopl, .long vowd, .int votd, .ref vmn, .ref vmr, .ref vmk, .ref vms, .ref vma, .ref vmm, .ref vmrn, .ref vmkn, .ref vmik, .ref vmon, .int vosm, .int vohp, .ref vmw, .ref vmf, .ref vmb, .int vomb, .ref vmd, .ref vmc, .int vocm, .int voct, .int vocy, .ref vmx, .int votx, .int vose, .ref vml, .ref vmwr, .int voln, .int vohw, .ref vmno, .int vond, .int voon, .int vowi, .int votop]))] H := hP
  have hD : va_D A [(vmt, .inl (cy 0, 940, .inl vmtf)), (vo, .inr (12, [.int 0, .ref vmt, .int votp_4, .int r_1, .int volm, .int voto, .int vofr, .int vokd, .int vonu, .int vosg, .int vofa, .int vopl, .long vowd, .int votd, .ref vmn, .ref vmr, .ref vmk, .ref vms, .ref vma, .ref vmm, .ref vmrn, .ref vmkn, .ref vmik, .ref vmon, .int vosm, .int vohp, .ref vmw, .ref vmf, .ref vmb, .int vomb, .ref vmd, .ref vmc, .int vocm, .int voct, .int vocy, .ref vmx, .int votx, .int vose, .ref vml, .ref vmwr, .int voln, .int vohw, .ref vmno, .int vond, .int voon, .int vowi, .int votop]))] := hD
  refine lv_aload_n hx hb dX11_begin_13 rfl (lv_at hl 0 rfl) ?_
  refine lv_iload_n hx hb dX11_begin_14 rfl (lv_at hl 1 rfl) ?_
  refine pf_X11_27 hx hb hts hown hK hP hD hS 1 rfl rfl rfl (Nat.le_of_ble_eq_true rfl) dX11_begin_15 (fun H locs hP hD hS => ?_)
  have hP : va_P (dC, dI) vwCl [(vmt, .inl (cy 0, 940, .inl vmtf)), (vo, .inr (12, [.int 0, .ref vmt, .int votp_4, .int r_1, .int vx, .int voto, .int vofr, .int vokd, .int vonu, .int vosg, .int vofa, .int vopl, .long vowd, .int votd, .ref vmn, .ref vmr, .ref vmk, .ref vms, .ref vma, .ref vmm, .ref vmrn, .ref vmkn, .ref vmik, .ref vmon, .int vosm, .int vohp, .ref vmw, .ref vmf, .ref vmb, .int vomb, .ref vmd, .ref vmc, .int vocm, .int voct, .int vocy, .ref vmx, .int votx, .int vose, .ref vml, .ref vmwr, .int voln, .int vohw, .ref vmno, .int vond, .int voon, .int vowi, .int votop]))] H := hP
  have hD : va_D A [(vmt, .inl (cy 0, 940, .inl vmtf)), (vo, .inr (12, [.int 0, .ref vmt, .int votp_4, .int r_1, .int vx, .int voto, .int vofr, .int vokd, .int vonu, .int vosg, .int vofa, .int vopl, .long vowd, .int votd, .ref vmn, .ref vmr, .ref vmk, .ref vms, .ref vma, .ref vmm, .ref vmrn, .ref vmkn, .ref vmik, .ref vmon, .int vosm, .int vohp, .ref vmw, .ref vmf, .ref vmb, .int vomb, .ref vmd, .ref vmc, .int vocm, .int voct, .int vocy, .ref vmx, .int votx, .int vose, .ref vml, .ref vmwr, .int voln, .int vohw, .ref vmno, .int vond, .int voon, .int vowi, .int votop]))] := hD
  refine lv_aload_n hx hb dX11_begin_18 rfl (lv_at hl 0 rfl) ?_
  refine lv_iconst (v := 0) hx hb dX11_begin_19 (by decide) ?_
  refine pf_X11_66 hx hb hts hown hK hP hD hS 1 rfl rfl rfl (Nat.le_of_ble_eq_true rfl) dX11_begin_20 (fun H locs hP hD hS => ?_)
  have hP : va_P (dC, dI) vwCl [(vmt, .inl (cy 0, 940, .inl vmtf)), (vo, .inr (12, [.int 0, .ref vmt, .int votp_4, .int r_1, .int vx, .int voto, .int vofr, .int vokd, .int vonu, .int vosg, .int 0, .int vopl, .long vowd, .int votd, .ref vmn, .ref vmr, .ref vmk, .ref vms, .ref vma, .ref vmm, .ref vmrn, .ref vmkn, .ref vmik, .ref vmon, .int vosm, .int vohp, .ref vmw, .ref vmf, .ref vmb, .int vomb, .ref vmd, .ref vmc, .int vocm, .int voct, .int vocy, .ref vmx, .int votx, .int vose, .ref vml, .ref vmwr, .int voln, .int vohw, .ref vmno, .int vond, .int voon, .int vowi, .int votop]))] H := hP
  have hD : va_D A [(vmt, .inl (cy 0, 940, .inl vmtf)), (vo, .inr (12, [.int 0, .ref vmt, .int votp_4, .int r_1, .int vx, .int voto, .int vofr, .int vokd, .int vonu, .int vosg, .int 0, .int vopl, .long vowd, .int votd, .ref vmn, .ref vmr, .ref vmk, .ref vms, .ref vma, .ref vmm, .ref vmrn, .ref vmkn, .ref vmik, .ref vmon, .int vosm, .int vohp, .ref vmw, .ref vmf, .ref vmb, .int vomb, .ref vmd, .ref vmc, .int vocm, .int voct, .int vocy, .ref vmx, .int votx, .int vose, .ref vml, .ref vmwr, .int voln, .int vohw, .ref vmno, .int vond, .int voon, .int vowi, .int votop]))] := hD
  refine lv_aload_n hx hb dX11_begin_23 rfl (lv_at hl 0 rfl) ?_
  refine lv_iconst (v := 0) hx hb dX11_begin_24 (by decide) ?_
  refine pf_X11_21 hx hb hts hown hK hP hD hS 1 rfl rfl rfl (Nat.le_of_ble_eq_true rfl) dX11_begin_25 (fun H locs hP hD hS => ?_)
  have hP : va_P (dC, dI) vwCl [(vmt, .inl (cy 0, 940, .inl vmtf)), (vo, .inr (12, [.int 0, .ref vmt, .int votp_4, .int r_1, .int vx, .int 0, .int vofr, .int vokd, .int vonu, .int vosg, .int 0, .int vopl, .long vowd, .int votd, .ref vmn, .ref vmr, .ref vmk, .ref vms, .ref vma, .ref vmm, .ref vmrn, .ref vmkn, .ref vmik, .ref vmon, .int vosm, .int vohp, .ref vmw, .ref vmf, .ref vmb, .int vomb, .ref vmd, .ref vmc, .int vocm, .int voct, .int vocy, .ref vmx, .int votx, .int vose, .ref vml, .ref vmwr, .int voln, .int vohw, .ref vmno, .int vond, .int voon, .int vowi, .int votop]))] H := hP
  have hD : va_D A [(vmt, .inl (cy 0, 940, .inl vmtf)), (vo, .inr (12, [.int 0, .ref vmt, .int votp_4, .int r_1, .int vx, .int 0, .int vofr, .int vokd, .int vonu, .int vosg, .int 0, .int vopl, .long vowd, .int votd, .ref vmn, .ref vmr, .ref vmk, .ref vms, .ref vma, .ref vmm, .ref vmrn, .ref vmkn, .ref vmik, .ref vmon, .int vosm, .int vohp, .ref vmw, .ref vmf, .ref vmb, .int vomb, .ref vmd, .ref vmc, .int vocm, .int voct, .int vocy, .ref vmx, .int votx, .int vose, .ref vml, .ref vmwr, .int voln, .int vohw, .ref vmno, .int vond, .int voon, .int vowi, .int votop]))] := hD
  refine lv_aload_n hx hb dX11_begin_28 rfl (lv_at hl 0 rfl) ?_
  refine jn_v (wr := []) (rV (As := []) (rest := []) (ci := 12) ⟨hx, hb, hml, hown, hts⟩ (m_go l dC dI cy _ vo 0 vmt votp_4 r_1 vx 0 vofr vokd vonu vosg 0 vopl vowd votd vmn vmr vmk vms vma vmm vmrn vmkn vmik vmon vosm vohp vmw vmf vmb vomb vmd vmc vocm voct vocy vmx votx vose vml vmwr voln vohw vmno vond voon vowi votop vmtf ⟨by omega, by omega⟩ ⟨by omega, by omega⟩ p_vmtf) (cw_X11_82 hts rfl rfl ⟨Nat.le_of_ble_eq_true rfl, Nat.le_of_ble_eq_true rfl⟩) hP hD hK [1, 0] rfl rfl rfl rfl bl0 e0 rfl hl.1 rfl (Nat.le_of_ble_eq_true rfl) dX11_begin_29 ⟨Nat.le_of_ble_eq_true rfl, Nat.le_of_ble_eq_true rfl⟩) hP hD hS hA [1, 0] [] rfl rfl rfl (by decide) (fun u_9 H locs hp_8 hP hD hS => ?_)
  obtain ⟨voto_10, vofr_11, vokd_12, vosg_13, vowd_14, vonu_15⟩ := u_9
  have hp_8 : (0 ≤ (voto_10 : Int32).toInt ∧ (voto_10 : Int32).toInt ≤ 940) ∧ ((0 : Int32).toInt ≤ (voto_10 : Int32).toInt) ∧ (((vokd_12 : Int32).toInt = 0 ∨ (vokd_12 : Int32).toInt = 1 ∨ (0 : Int32).toInt + 1 ≤ (voto_10 : Int32).toInt)) := hp_8
  obtain ⟨q_16, q_17, q_18⟩ := hp_8
  have hP : va_P (dC, dI) vwCl [(vo, .inr (12, [.int 0, .ref vmt, .int votp_4, .int r_1, .int vx, .int voto_10, .int vofr_11, .int vokd_12, .int vonu_15, .int vosg_13, .int 0, .int vopl, .long vowd_14, .int votd, .ref vmn, .ref vmr, .ref vmk, .ref vms, .ref vma, .ref vmm, .ref vmrn, .ref vmkn, .ref vmik, .ref vmon, .int vosm, .int vohp, .ref vmw, .ref vmf, .ref vmb, .int vomb, .ref vmd, .ref vmc, .int vocm, .int voct, .int vocy, .ref vmx, .int votx, .int vose, .ref vml, .ref vmwr, .int voln, .int vohw, .ref vmno, .int vond, .int voon, .int vowi, .int votop])), (vmt, .inl (cy 0, 940, .inl vmtf))] H := hP
  have hD : va_D A [(vo, .inr (12, [.int 0, .ref vmt, .int votp_4, .int r_1, .int vx, .int voto_10, .int vofr_11, .int vokd_12, .int vonu_15, .int vosg_13, .int 0, .int vopl, .long vowd_14, .int votd, .ref vmn, .ref vmr, .ref vmk, .ref vms, .ref vma, .ref vmm, .ref vmrn, .ref vmkn, .ref vmik, .ref vmon, .int vosm, .int vohp, .ref vmw, .ref vmf, .ref vmb, .int vomb, .ref vmd, .ref vmc, .int vocm, .int voct, .int vocy, .ref vmx, .int votx, .int vose, .ref vml, .ref vmwr, .int voln, .int vohw, .ref vmno, .int vond, .int voon, .int vowi, .int votop])), (vmt, .inl (cy 0, 940, .inl vmtf))] := hD
  rw [hQ9]
  exact re_v (voto_10, vofr_11, vokd_12, vosg_13, vowd_14, vonu_15, (0 : Int32), (0 : Int32), votp_4, r_1, vx) hx hb hr hlocks ⟨(show 0 ≤ (voto_10 : Int32).toInt ∧ (voto_10 : Int32).toInt ≤ 940 from ⟨by omega, by omega⟩), (show 0 ≤ (votp_4 : Int32).toInt ∧ (votp_4 : Int32).toInt ≤ 0 from ⟨by omega, by omega⟩), (show 0 ≤ (r_1 : Int32).toInt ∧ (r_1 : Int32).toInt ≤ 940 from ⟨by omega, by omega⟩)⟩ (hP.sub [0, 1] rfl) (hD.sub [0, 1] rfl rfl) hS dX11_begin_32
abbrev cX11_startSo : ByteArray := prog_13_method_27_code
def yX11_startSo : MethodName := ⟨RX11, "startSo", "()V"⟩
theorem t1441 : Cond.code yX11_startSo cX11_startSo 2 none ∈ GW := gw_mem 1555 (by decide +kernel) (by decide +kernel)
abbrev O_m_startSo (cy : Nat → ClassId) (vnh : Nat → Int32) (vo : Nat) (voth : Int32) (vmt : Nat) (votp : Int32) (vosz : Int32) (volm : Int32) (voto : Int32) (vofr : Int32) (vokd : Int32) (vonu : Int32) (vosg : Int32) (vofa : Int32) (vopl : Int32) (vowd : Int64) (votd : Int32) (vmn : Nat) (vmr : Nat) (vmk : Nat) (vms : Nat) (vma : Nat) (vmm : Nat) (vmrn : Nat) (vmkn : Nat) (vmik : Nat) (vmon : Nat) (vosm : Int32) (vohp : Int32) (vmw : Nat) (vmf : Nat) (vmb : Nat) (vomb : Int32) (vmd : Nat) (vmc : Nat) (vocm : Int32) (voct : Int32) (vocy : Int32) (vmx : Nat) (votx : Int32) (vose : Int32) (vml : Nat) (vmwr : Nat) (voln : Int32) (vohw : Int32) (vmno : Nat) (vond : Int32) (voon : Int32) (vowi : Int32) (votop : Int32) (vmnf : Nat → Int32) (u : (Nat → Int32)) : va_W := [(vo, .inr (12, [.int voth, .ref vmt, .int votp, .int vosz, .int volm, .int voto, .int vofr, .int vokd, .int vonu, .int vosg, .int vofa, .int vopl, .long vowd, .int votd, .ref vmn, .ref vmr, .ref vmk, .ref vms, .ref vma, .ref vmm, .ref vmrn, .ref vmkn, .ref vmik, .ref vmon, .int vosm, .int vohp, .ref vmw, .ref vmf, .ref vmb, .int vomb, .ref vmd, .ref vmc, .int vocm, .int voct, .int vocy, .ref vmx, .int votx, .int vose, .ref vml, .ref vmwr, .int voln, .int vohw, .ref vmno, .int vond, .int voon, .int vowi, .int votop])), (vmn, .inl (cy 0, 575, .inl u))]
theorem dX11_startSo_0 : decode cX11_startSo 0 = .ok (.sipush 157, 3) := by decide +kernel
theorem dX11_startSo_3 : decode cX11_startSo 3 = .ok (.istore_n 1, 1) := by decide +kernel
theorem dX11_startSo_4 : decode cX11_startSo 4 = .ok (.iload_n 1, 1) := by decide +kernel
theorem dX11_startSo_5 : decode cX11_startSo 5 = .ok (.sipush 575, 3) := by decide +kernel
theorem dX11_startSo_8 : decode cX11_startSo 8 = .ok (.if_icmp .ge 16, 3) := by decide +kernel
theorem dX11_startSo_24 : decode cX11_startSo 24 = .ok (.iconst 0, 1) := by decide +kernel
theorem dX11_startSo_25 : decode cX11_startSo 25 = .ok (.istore_n 1, 1) := by decide +kernel
theorem dX11_startSo_26 : decode cX11_startSo 26 = .ok (.iload_n 1, 1) := by decide +kernel
theorem dX11_startSo_27 : decode cX11_startSo 27 = .ok (.bipush 70, 2) := by decide +kernel
theorem dX11_startSo_29 : decode cX11_startSo 29 = .ok (.if_icmp .ge 28, 3) := by decide +kernel
theorem dX11_startSo_57 : decode cX11_startSo 57 = .ok (.iconst 0, 1) := by decide +kernel
theorem dX11_startSo_58 : decode cX11_startSo 58 = .ok (.istore_n 1, 1) := by decide +kernel
theorem dX11_startSo_59 : decode cX11_startSo 59 = .ok (.iload_n 1, 1) := by decide +kernel
theorem dX11_startSo_60 : decode cX11_startSo 60 = .ok (.bipush 49, 2) := by decide +kernel
theorem dX11_startSo_62 : decode cX11_startSo 62 = .ok (.if_icmp .ge 28, 3) := by decide +kernel
theorem dX11_startSo_90 : decode cX11_startSo 90 = .ok (.iconst 0, 1) := by decide +kernel
theorem dX11_startSo_91 : decode cX11_startSo 91 = .ok (.istore_n 1, 1) := by decide +kernel
theorem dX11_startSo_92 : decode cX11_startSo 92 = .ok (.iload_n 1, 1) := by decide +kernel
theorem dX11_startSo_93 : decode cX11_startSo 93 = .ok (.bipush 7, 2) := by decide +kernel
theorem dX11_startSo_95 : decode cX11_startSo 95 = .ok (.if_icmp .ge 49, 3) := by decide +kernel
theorem dX11_startSo_144 : decode cX11_startSo 144 = .ok (.return_, 1) := by decide +kernel
theorem dX11_startSo_98 : decode cX11_startSo 98 = .ok (.aload_n 0, 1) := by decide +kernel
theorem dX11_startSo_99 : decode cX11_startSo 99 = .ok (.getfield 98, 3) := by decide +kernel
theorem t1456 : Cond.fieldLink RX11 98 "LikenessPoundModel" "now" "[I" ∈ GW := gw_mem 1570 (by decide +kernel) (by decide +kernel)
theorem gf_X11_98 {p : Program} {l : Launch} {e : Env} {R : Room} {s : State} {m : MethodId} {args : Array Value} {below : List Frame} {meth : Method} {c : Code} {H : Heap} {locs : List Loc} {cells slots : Nat} {Q : State → Prop} {cc : ByteArray} {pc : Nat} {ls : Array Slot} {rest : List Value} {D : va_G} {a : Nat} {tys : List (ClassId × FieldType)} {ws : va_W} (hx : p.tables.exec = Jvm.exec) (hb : c.code = cc) (hts : ∀ w ∈ GW, w.before args s = true) (hown : s.vm.findClass RX11 = some m.cls) (hK : va_K D vwCl tys s) (hP : va_P D vwCl ws H) (q0 : Nat) {fs : List Value} (he : ws[q0]? = some (a, .inr (12, fs))) {v : Value} (hv : fs[14]? = some v) (hdg : decode cc pc = .ok (.getfield 98, 3)) (kk : W p l e R s m args below meth c H locs cells slots Q (F0 m (pc + 3) ls (v :: rest))) : W p l e R s m args below meth c H locs cells slots Q (F0 m pc ls (.ref a :: rest)) := va_get (C := RX11) (T := TX11) (N := 47) (ci := 12) hx hb hts inX11 hown hK hP q0 he rfl 14 (by decide) (hts _ t1456) (fun _ h => h) hv hdg kk
theorem dX11_startSo_102 : decode cX11_startSo 102 = .ok (.sipush 158, 3) := by decide +kernel
theorem dX11_startSo_105 : decode cX11_startSo 105 = .ok (.iload_n 1, 1) := by decide +kernel
theorem dX11_startSo_106 : decode cX11_startSo 106 = .ok (.iadd, 1) := by decide +kernel
theorem dX11_startSo_107 : decode cX11_startSo 107 = .ok (.aload_n 0, 1) := by decide +kernel
theorem dX11_startSo_108 : decode cX11_startSo 108 = .ok (.getfield 98, 3) := by decide +kernel
theorem dX11_startSo_111 : decode cX11_startSo 111 = .ok (.iconst 4, 1) := by decide +kernel
theorem dX11_startSo_112 : decode cX11_startSo 112 = .ok (.iload_n 1, 1) := by decide +kernel
theorem dX11_startSo_113 : decode cX11_startSo 113 = .ok (.iadd, 1) := by decide +kernel
theorem dX11_startSo_114 : decode cX11_startSo 114 = .ok (.iaload, 1) := by decide +kernel
theorem dX11_startSo_115 : decode cX11_startSo 115 = .ok (.iastore, 1) := by decide +kernel
theorem dX11_startSo_116 : decode cX11_startSo 116 = .ok (.aload_n 0, 1) := by decide +kernel
theorem dX11_startSo_117 : decode cX11_startSo 117 = .ok (.getfield 98, 3) := by decide +kernel
theorem dX11_startSo_120 : decode cX11_startSo 120 = .ok (.sipush 235, 3) := by decide +kernel
theorem dX11_startSo_123 : decode cX11_startSo 123 = .ok (.iload_n 1, 1) := by decide +kernel
theorem dX11_startSo_124 : decode cX11_startSo 124 = .ok (.iadd, 1) := by decide +kernel
theorem dX11_startSo_125 : decode cX11_startSo 125 = .ok (.iconst (-1), 1) := by decide +kernel
theorem dX11_startSo_126 : decode cX11_startSo 126 = .ok (.iastore, 1) := by decide +kernel
theorem dX11_startSo_127 : decode cX11_startSo 127 = .ok (.aload_n 0, 1) := by decide +kernel
theorem dX11_startSo_128 : decode cX11_startSo 128 = .ok (.getfield 98, 3) := by decide +kernel
theorem dX11_startSo_131 : decode cX11_startSo 131 = .ok (.sipush 242, 3) := by decide +kernel
theorem dX11_startSo_134 : decode cX11_startSo 134 = .ok (.iload_n 1, 1) := by decide +kernel
theorem dX11_startSo_135 : decode cX11_startSo 135 = .ok (.iadd, 1) := by decide +kernel
theorem dX11_startSo_136 : decode cX11_startSo 136 = .ok (.iconst (-1), 1) := by decide +kernel
theorem dX11_startSo_137 : decode cX11_startSo 137 = .ok (.iastore, 1) := by decide +kernel
theorem dX11_startSo_138 : decode cX11_startSo 138 = .ok (.iinc 1 1, 3) := by decide +kernel
theorem dX11_startSo_141 : decode cX11_startSo 141 = .ok (.goto (-49), 3) := by decide +kernel
theorem dX11_startSo_65 : decode cX11_startSo 65 = .ok (.aload_n 0, 1) := by decide +kernel
theorem dX11_startSo_66 : decode cX11_startSo 66 = .ok (.getfield 98, 3) := by decide +kernel
theorem dX11_startSo_69 : decode cX11_startSo 69 = .ok (.sipush 249, 3) := by decide +kernel
theorem dX11_startSo_72 : decode cX11_startSo 72 = .ok (.iload_n 1, 1) := by decide +kernel
theorem dX11_startSo_73 : decode cX11_startSo 73 = .ok (.iadd, 1) := by decide +kernel
theorem dX11_startSo_74 : decode cX11_startSo 74 = .ok (.aload_n 0, 1) := by decide +kernel
theorem dX11_startSo_75 : decode cX11_startSo 75 = .ok (.getfield 98, 3) := by decide +kernel
theorem dX11_startSo_78 : decode cX11_startSo 78 = .ok (.bipush 108, 2) := by decide +kernel
theorem dX11_startSo_80 : decode cX11_startSo 80 = .ok (.iload_n 1, 1) := by decide +kernel
theorem dX11_startSo_81 : decode cX11_startSo 81 = .ok (.iadd, 1) := by decide +kernel
theorem dX11_startSo_82 : decode cX11_startSo 82 = .ok (.iaload, 1) := by decide +kernel
theorem dX11_startSo_83 : decode cX11_startSo 83 = .ok (.iastore, 1) := by decide +kernel
theorem dX11_startSo_84 : decode cX11_startSo 84 = .ok (.iinc 1 1, 3) := by decide +kernel
theorem dX11_startSo_87 : decode cX11_startSo 87 = .ok (.goto (-28), 3) := by decide +kernel
theorem dX11_startSo_32 : decode cX11_startSo 32 = .ok (.aload_n 0, 1) := by decide +kernel
theorem dX11_startSo_33 : decode cX11_startSo 33 = .ok (.getfield 98, 3) := by decide +kernel
theorem dX11_startSo_36 : decode cX11_startSo 36 = .ok (.sipush 165, 3) := by decide +kernel
theorem dX11_startSo_39 : decode cX11_startSo 39 = .ok (.iload_n 1, 1) := by decide +kernel
theorem dX11_startSo_40 : decode cX11_startSo 40 = .ok (.iadd, 1) := by decide +kernel
theorem dX11_startSo_41 : decode cX11_startSo 41 = .ok (.aload_n 0, 1) := by decide +kernel
theorem dX11_startSo_42 : decode cX11_startSo 42 = .ok (.getfield 98, 3) := by decide +kernel
theorem dX11_startSo_45 : decode cX11_startSo 45 = .ok (.bipush 31, 2) := by decide +kernel
theorem dX11_startSo_47 : decode cX11_startSo 47 = .ok (.iload_n 1, 1) := by decide +kernel
theorem dX11_startSo_48 : decode cX11_startSo 48 = .ok (.iadd, 1) := by decide +kernel
theorem dX11_startSo_49 : decode cX11_startSo 49 = .ok (.iaload, 1) := by decide +kernel
theorem dX11_startSo_50 : decode cX11_startSo 50 = .ok (.iastore, 1) := by decide +kernel
theorem dX11_startSo_51 : decode cX11_startSo 51 = .ok (.iinc 1 1, 3) := by decide +kernel
theorem dX11_startSo_54 : decode cX11_startSo 54 = .ok (.goto (-28), 3) := by decide +kernel
theorem dX11_startSo_11 : decode cX11_startSo 11 = .ok (.aload_n 0, 1) := by decide +kernel
theorem dX11_startSo_12 : decode cX11_startSo 12 = .ok (.getfield 98, 3) := by decide +kernel
theorem dX11_startSo_15 : decode cX11_startSo 15 = .ok (.iload_n 1, 1) := by decide +kernel
theorem dX11_startSo_16 : decode cX11_startSo 16 = .ok (.iconst 0, 1) := by decide +kernel
theorem dX11_startSo_17 : decode cX11_startSo 17 = .ok (.iastore, 1) := by decide +kernel
theorem dX11_startSo_18 : decode cX11_startSo 18 = .ok (.iinc 1 1, 3) := by decide +kernel
theorem dX11_startSo_21 : decode cX11_startSo 21 = .ok (.goto (-17), 3) := by decide +kernel
set_option maxHeartbeats 4000000 in
set_option maxRecDepth 100000 in
theorem m_startSo (l : Launch) (dC : Nat → ClassId) (dI : Nat → Nat → Nat) (cy : Nat → ClassId) (sz : Nat) (vnh : Nat → Int32) (vo : Nat) (voth : Int32) (vmt : Nat) (votp : Int32) (vosz : Int32) (volm : Int32) (voto : Int32) (vofr : Int32) (vokd : Int32) (vonu : Int32) (vosg : Int32) (vofa : Int32) (vopl : Int32) (vowd : Int64) (votd : Int32) (vmn : Nat) (vmr : Nat) (vmk : Nat) (vms : Nat) (vma : Nat) (vmm : Nat) (vmrn : Nat) (vmkn : Nat) (vmik : Nat) (vmon : Nat) (vosm : Int32) (vohp : Int32) (vmw : Nat) (vmf : Nat) (vmb : Nat) (vomb : Int32) (vmd : Nat) (vmc : Nat) (vocm : Int32) (voct : Int32) (vocy : Int32) (vmx : Nat) (votx : Int32) (vose : Int32) (vml : Nat) (vmwr : Nat) (voln : Int32) (vohw : Int32) (vmno : Nat) (vond : Int32) (voon : Int32) (vowi : Int32) (votop : Int32) (vmnf : Nat → Int32) (p_vmnf : RN vnh vmnf) : Met l yX11_startSo (wl yX11_startSo cX11_startSo 2 none) ({ frames := 0, cells := 0, slots := 0, locals := 0 }) (Pw (dC, dI) vwCl cy [(vo, .inr (12, [.int voth, .ref vmt, .int votp, .int vosz, .int volm, .int voto, .int vofr, .int vokd, .int vonu, .int vosg, .int vofa, .int vopl, .long vowd, .int votd, .ref vmn, .ref vmr, .ref vmk, .ref vms, .ref vma, .ref vmm, .ref vmrn, .ref vmkn, .ref vmik, .ref vmon, .int vosm, .int vohp, .ref vmw, .ref vmf, .ref vmb, .int vomb, .ref vmd, .ref vmc, .int vocm, .int voct, .int vocy, .ref vmx, .int votx, .int vose, .ref vml, .ref vmwr, .int voln, .int vohw, .ref vmno, .int vond, .int voon, .int vowi, .int votop])), (vmn, .inl (cy 0, 575, .inl vmnf))] sz [.ref vo] nE) (Qv (dC, dI) vwCl (fun (u : (Nat → Int32)) => (NW vnh u)) (O_m_startSo cy vnh vo voth vmt votp vosz volm voto vofr vokd vonu vosg vofa vopl vowd votd vmn vmr vmk vms vma vmm vmrn vmkn vmik vmon vosm vohp vmw vmf vmb vomb vmd vmc vocm voct vocy vmx votx vose vml vmwr voln vohw vmno vond voon vowi votop vmnf) (va_A [(vo, .inr (12, [.int voth, .ref vmt, .int votp, .int vosz, .int volm, .int voto, .int vofr, .int vokd, .int vonu, .int vosg, .int vofa, .int vopl, .long vowd, .int votd, .ref vmn, .ref vmr, .ref vmk, .ref vms, .ref vma, .ref vmm, .ref vmrn, .ref vmkn, .ref vmik, .ref vmon, .int vosm, .int vohp, .ref vmw, .ref vmf, .ref vmb, .int vomb, .ref vmd, .ref vmc, .int vocm, .int voct, .int vocy, .ref vmx, .int votx, .int vose, .ref vml, .ref vmwr, .int voln, .int vohw, .ref vmno, .int vond, .int voon, .int vowi, .int votop])), (vmn, .inl (cy 0, 575, .inl vmnf))] sz)) 0 0 (va_A [(vo, .inr (12, [.int voth, .ref vmt, .int votp, .int vosz, .int volm, .int voto, .int vofr, .int vokd, .int vonu, .int vosg, .int vofa, .int vopl, .long vowd, .int votd, .ref vmn, .ref vmr, .ref vmk, .ref vms, .ref vma, .ref vmm, .ref vmrn, .ref vmkn, .ref vmik, .ref vmon, .int vosm, .int vohp, .ref vmw, .ref vmf, .ref vmb, .int vomb, .ref vmd, .ref vmc, .int vocm, .int voct, .int vocy, .ref vmx, .int votx, .int vose, .ref vml, .ref vmwr, .int voln, .int vohw, .ref vmno, .int vond, .int voon, .int vowi, .int votop])), (vmn, .inl (cy 0, 575, .inl vmnf))] sz) := by
  refine mw (Qc := Qv (dC, dI) vwCl (fun (u : (Nat → Int32)) => (NW vnh u)) (O_m_startSo cy vnh vo voth vmt votp vosz volm voto vofr vokd vonu vosg vofa vopl vowd votd vmn vmr vmk vms vma vmm vmrn vmkn vmik vmon vosm vohp vmw vmf vmb vomb vmd vmc vocm voct vocy vmx votx vose vml vmwr voln vohw vmno vond voon vowi votop vmnf)) RX11 rfl (by decide +kernel) (Nat.le_of_ble_eq_true rfl) ?_
  intro p e s m below meth c A hx hb hr hlocks av9 hav hts hown hnm hml hK hP hD hA hS hE hAe Q9 hQ9 ls hl
  have hl : lv_has ls 2 [(0, .ref vo)] := hl
  refine lv_sipush (v := 157) hx hb dX11_startSo_0 (by decide) ?_
  refine lv_istore_n (lv' := [(1, .int 157), (0, .ref vo)]) hx hb dX11_startSo_3 rfl hl (by decide) rfl (fun ls hl => ?_)
  have loop1 : ∀ (n1 : Nat) (x_2 : Int32) (g_3 : Nat → Int32), (157 ≤ x_2.toInt ∧ x_2.toInt ≤ 575) → RN vnh g_3 → (ZR g_3 x_2.toInt) → 575 - x_2.toInt < (n1 : Int) → ∀ (H : Heap) (locs : List Loc), va_P (dC, dI) vwCl [(vo, .inr (12, [.int voth, .ref vmt, .int votp, .int vosz, .int volm, .int voto, .int vofr, .int vokd, .int vonu, .int vosg, .int vofa, .int vopl, .long vowd, .int votd, .ref vmn, .ref vmr, .ref vmk, .ref vms, .ref vma, .ref vmm, .ref vmrn, .ref vmkn, .ref vmik, .ref vmon, .int vosm, .int vohp, .ref vmw, .ref vmf, .ref vmb, .int vomb, .ref vmd, .ref vmc, .int vocm, .int voct, .int vocy, .ref vmx, .int votx, .int vose, .ref vml, .ref vmwr, .int voln, .int vohw, .ref vmno, .int vond, .int voon, .int vowi, .int votop])), (vmn, .inl (cy 0, 575, .inl g_3))] H → va_D A [(vo, .inr (12, [.int voth, .ref vmt, .int votp, .int vosz, .int volm, .int voto, .int vofr, .int vokd, .int vonu, .int vosg, .int vofa, .int vopl, .long vowd, .int votd, .ref vmn, .ref vmr, .ref vmk, .ref vms, .ref vma, .ref vmm, .ref vmrn, .ref vmkn, .ref vmik, .ref vmon, .int vosm, .int vohp, .ref vmw, .ref vmf, .ref vmb, .int vomb, .ref vmd, .ref vmc, .int vocm, .int voct, .int vocy, .ref vmx, .int votx, .int vose, .ref vml, .ref vmwr, .int voln, .int vohw, .ref vmno, .int vond, .int voon, .int vowi, .int votop])), (vmn, .inl (cy 0, 575, .inl g_3))] → va_S A s.heap H locs → ∀ ls : Array Slot, lv_has ls 2 [(1, .int x_2), (0, .ref vo)] → W p l e ({ frames := 0, cells := 0, slots := 0, locals := 0 }) s m av9 below meth c H locs 0 0 Q9 (F0 m 4 ls []) := by
    intro n1
    induction n1 with
    | zero =>
      intro x_2 g_3 bx_2 p_g_3 v1_0 hn1 H locs hP hD hS ls hl
      exfalso; omega
    | succ n1 ih1 =>
      intro x_2 g_3 bx_2 p_g_3 v1_0 hn1 H locs hP hD hS ls hl
      refine lv_iload_n hx hb dX11_startSo_4 rfl (lv_at hl 0 rfl) ?_
      refine lv_sipush (v := 575) hx hb dX11_startSo_5 (by decide) ?_
      have k_575 : (575 : Int32).toInt = 575 := by decide
      refine lv_icmp_ge (tgt := 24) hx hb dX11_startSo_8 (by decide) (fun c_4 => ?_) (fun c_4 => ?_)
      · skip
        have c_4 : (575 : Int32).toInt ≤ x_2.toInt := i_le.mp c_4
        have w_g_3 : NW vnh g_3 := ZR.nw v1_0 p_g_3 (by omega)
        refine lv_iconst (v := 0) hx hb dX11_startSo_24 (by decide) ?_
        refine lv_istore_n (lv' := [(1, .int 0), (0, .ref vo)]) hx hb dX11_startSo_25 rfl hl (by decide) rfl (fun ls hl => ?_)
        have loop5 : ∀ (n5 : Nat) (x_6 : Int32) (g_7 : Nat → Int32), (0 ≤ x_6.toInt ∧ x_6.toInt ≤ 70) → NW vnh g_7 → 70 - x_6.toInt < (n5 : Int) → ∀ (H : Heap) (locs : List Loc), va_P (dC, dI) vwCl [(vo, .inr (12, [.int voth, .ref vmt, .int votp, .int vosz, .int volm, .int voto, .int vofr, .int vokd, .int vonu, .int vosg, .int vofa, .int vopl, .long vowd, .int votd, .ref vmn, .ref vmr, .ref vmk, .ref vms, .ref vma, .ref vmm, .ref vmrn, .ref vmkn, .ref vmik, .ref vmon, .int vosm, .int vohp, .ref vmw, .ref vmf, .ref vmb, .int vomb, .ref vmd, .ref vmc, .int vocm, .int voct, .int vocy, .ref vmx, .int votx, .int vose, .ref vml, .ref vmwr, .int voln, .int vohw, .ref vmno, .int vond, .int voon, .int vowi, .int votop])), (vmn, .inl (cy 0, 575, .inl g_7))] H → va_D A [(vo, .inr (12, [.int voth, .ref vmt, .int votp, .int vosz, .int volm, .int voto, .int vofr, .int vokd, .int vonu, .int vosg, .int vofa, .int vopl, .long vowd, .int votd, .ref vmn, .ref vmr, .ref vmk, .ref vms, .ref vma, .ref vmm, .ref vmrn, .ref vmkn, .ref vmik, .ref vmon, .int vosm, .int vohp, .ref vmw, .ref vmf, .ref vmb, .int vomb, .ref vmd, .ref vmc, .int vocm, .int voct, .int vocy, .ref vmx, .int votx, .int vose, .ref vml, .ref vmwr, .int voln, .int vohw, .ref vmno, .int vond, .int voon, .int vowi, .int votop])), (vmn, .inl (cy 0, 575, .inl g_7))] → va_S A s.heap H locs → ∀ ls : Array Slot, lv_has ls 2 [(1, .int x_6), (0, .ref vo)] → W p l e ({ frames := 0, cells := 0, slots := 0, locals := 0 }) s m av9 below meth c H locs 0 0 Q9 (F0 m 26 ls []) := by
          intro n5
          induction n5 with
          | zero =>
            intro x_6 g_7 bx_6 p_g_7 hn5 H locs hP hD hS ls hl
            exfalso; omega
          | succ n5 ih5 =>
            intro x_6 g_7 bx_6 p_g_7 hn5 H locs hP hD hS ls hl
            refine lv_iload_n hx hb dX11_startSo_26 rfl (lv_at hl 0 rfl) ?_
            refine lv_bipush (v := 70) hx hb dX11_startSo_27 (by decide) ?_
            have k_70 : (70 : Int32).toInt = 70 := by decide
            refine lv_icmp_ge (tgt := 57) hx hb dX11_startSo_29 (by decide) (fun c_8 => ?_) (fun c_8 => ?_)
            · skip
              have c_8 : (70 : Int32).toInt ≤ x_6.toInt := i_le.mp c_8
              refine lv_iconst (v := 0) hx hb dX11_startSo_57 (by decide) ?_
              refine lv_istore_n (lv' := [(1, .int 0), (0, .ref vo)]) hx hb dX11_startSo_58 rfl hl (by decide) rfl (fun ls hl => ?_)
              have loop9 : ∀ (n9 : Nat) (x_10 : Int32) (g_11 : Nat → Int32), (0 ≤ x_10.toInt ∧ x_10.toInt ≤ 49) → NW vnh g_11 → 49 - x_10.toInt < (n9 : Int) → ∀ (H : Heap) (locs : List Loc), va_P (dC, dI) vwCl [(vo, .inr (12, [.int voth, .ref vmt, .int votp, .int vosz, .int volm, .int voto, .int vofr, .int vokd, .int vonu, .int vosg, .int vofa, .int vopl, .long vowd, .int votd, .ref vmn, .ref vmr, .ref vmk, .ref vms, .ref vma, .ref vmm, .ref vmrn, .ref vmkn, .ref vmik, .ref vmon, .int vosm, .int vohp, .ref vmw, .ref vmf, .ref vmb, .int vomb, .ref vmd, .ref vmc, .int vocm, .int voct, .int vocy, .ref vmx, .int votx, .int vose, .ref vml, .ref vmwr, .int voln, .int vohw, .ref vmno, .int vond, .int voon, .int vowi, .int votop])), (vmn, .inl (cy 0, 575, .inl g_11))] H → va_D A [(vo, .inr (12, [.int voth, .ref vmt, .int votp, .int vosz, .int volm, .int voto, .int vofr, .int vokd, .int vonu, .int vosg, .int vofa, .int vopl, .long vowd, .int votd, .ref vmn, .ref vmr, .ref vmk, .ref vms, .ref vma, .ref vmm, .ref vmrn, .ref vmkn, .ref vmik, .ref vmon, .int vosm, .int vohp, .ref vmw, .ref vmf, .ref vmb, .int vomb, .ref vmd, .ref vmc, .int vocm, .int voct, .int vocy, .ref vmx, .int votx, .int vose, .ref vml, .ref vmwr, .int voln, .int vohw, .ref vmno, .int vond, .int voon, .int vowi, .int votop])), (vmn, .inl (cy 0, 575, .inl g_11))] → va_S A s.heap H locs → ∀ ls : Array Slot, lv_has ls 2 [(1, .int x_10), (0, .ref vo)] → W p l e ({ frames := 0, cells := 0, slots := 0, locals := 0 }) s m av9 below meth c H locs 0 0 Q9 (F0 m 59 ls []) := by
                intro n9
                induction n9 with
                | zero =>
                  intro x_10 g_11 bx_10 p_g_11 hn9 H locs hP hD hS ls hl
                  exfalso; omega
                | succ n9 ih9 =>
                  intro x_10 g_11 bx_10 p_g_11 hn9 H locs hP hD hS ls hl
                  refine lv_iload_n hx hb dX11_startSo_59 rfl (lv_at hl 0 rfl) ?_
                  refine lv_bipush (v := 49) hx hb dX11_startSo_60 (by decide) ?_
                  have k_49 : (49 : Int32).toInt = 49 := by decide
                  refine lv_icmp_ge (tgt := 90) hx hb dX11_startSo_62 (by decide) (fun c_12 => ?_) (fun c_12 => ?_)
                  · skip
                    have c_12 : (49 : Int32).toInt ≤ x_10.toInt := i_le.mp c_12
                    refine lv_iconst (v := 0) hx hb dX11_startSo_90 (by decide) ?_
                    refine lv_istore_n (lv' := [(1, .int 0), (0, .ref vo)]) hx hb dX11_startSo_91 rfl hl (by decide) rfl (fun ls hl => ?_)
                    have loop13 : ∀ (n13 : Nat) (x_14 : Int32) (g_15 : Nat → Int32), (0 ≤ x_14.toInt ∧ x_14.toInt ≤ 7) → NW vnh g_15 → 7 - x_14.toInt < (n13 : Int) → ∀ (H : Heap) (locs : List Loc), va_P (dC, dI) vwCl [(vo, .inr (12, [.int voth, .ref vmt, .int votp, .int vosz, .int volm, .int voto, .int vofr, .int vokd, .int vonu, .int vosg, .int vofa, .int vopl, .long vowd, .int votd, .ref vmn, .ref vmr, .ref vmk, .ref vms, .ref vma, .ref vmm, .ref vmrn, .ref vmkn, .ref vmik, .ref vmon, .int vosm, .int vohp, .ref vmw, .ref vmf, .ref vmb, .int vomb, .ref vmd, .ref vmc, .int vocm, .int voct, .int vocy, .ref vmx, .int votx, .int vose, .ref vml, .ref vmwr, .int voln, .int vohw, .ref vmno, .int vond, .int voon, .int vowi, .int votop])), (vmn, .inl (cy 0, 575, .inl g_15))] H → va_D A [(vo, .inr (12, [.int voth, .ref vmt, .int votp, .int vosz, .int volm, .int voto, .int vofr, .int vokd, .int vonu, .int vosg, .int vofa, .int vopl, .long vowd, .int votd, .ref vmn, .ref vmr, .ref vmk, .ref vms, .ref vma, .ref vmm, .ref vmrn, .ref vmkn, .ref vmik, .ref vmon, .int vosm, .int vohp, .ref vmw, .ref vmf, .ref vmb, .int vomb, .ref vmd, .ref vmc, .int vocm, .int voct, .int vocy, .ref vmx, .int votx, .int vose, .ref vml, .ref vmwr, .int voln, .int vohw, .ref vmno, .int vond, .int voon, .int vowi, .int votop])), (vmn, .inl (cy 0, 575, .inl g_15))] → va_S A s.heap H locs → ∀ ls : Array Slot, lv_has ls 2 [(1, .int x_14), (0, .ref vo)] → W p l e ({ frames := 0, cells := 0, slots := 0, locals := 0 }) s m av9 below meth c H locs 0 0 Q9 (F0 m 92 ls []) := by
                      intro n13
                      induction n13 with
                      | zero =>
                        intro x_14 g_15 bx_14 p_g_15 hn13 H locs hP hD hS ls hl
                        exfalso; omega
                      | succ n13 ih13 =>
                        intro x_14 g_15 bx_14 p_g_15 hn13 H locs hP hD hS ls hl
                        refine lv_iload_n hx hb dX11_startSo_92 rfl (lv_at hl 0 rfl) ?_
                        refine lv_bipush (v := 7) hx hb dX11_startSo_93 (by decide) ?_
                        have k_7 : (7 : Int32).toInt = 7 := by decide
                        refine lv_icmp_ge (tgt := 144) hx hb dX11_startSo_95 (by decide) (fun c_16 => ?_) (fun c_16 => ?_)
                        · skip
                          have c_16 : (7 : Int32).toInt ≤ x_14.toInt := i_le.mp c_16
                          rw [hQ9]
                          exact re_v g_15 hx hb hr hlocks (show NW vnh g_15 from p_g_15) (hP.sub [0, 1] rfl) (hD.sub [0, 1] rfl rfl) hS dX11_startSo_144
                        · skip
                          have c_16 : ¬ ((7 : Int32).toInt ≤ x_14.toInt) := fun h9 => c_16 (i_le.mpr h9)
                          refine lv_aload_n hx hb dX11_startSo_98 rfl (lv_at hl 1 rfl) ?_
                          refine gf_X11_98 hx hb hts hown hK hP 0 rfl rfl dX11_startSo_99 ?_
                          refine lv_sipush (v := 158) hx hb dX11_startSo_102 (by decide) ?_
                          refine lv_iload_n hx hb dX11_startSo_105 rfl (lv_at hl 0 rfl) ?_
                          refine lv_iadd hx hb dX11_startSo_106 ?_
                          refine lv_topi (fun z_17 ez_17 => ?_)
                          have k_158 : (158 : Int32).toInt = 158 := by decide
                          have bz_17 : z_17.toInt = (158 : Int32).toInt + x_14.toInt := i_add ez_17 (by omega) (by omega)
                          refine lv_aload_n hx hb dX11_startSo_107 rfl (lv_at hl 1 rfl) ?_
                          refine gf_X11_98 hx hb hts hown hK hP 0 rfl rfl dX11_startSo_108 ?_
                          refine lv_iconst (v := 4) hx hb dX11_startSo_111 (by decide) ?_
                          refine lv_iload_n hx hb dX11_startSo_112 rfl (lv_at hl 0 rfl) ?_
                          refine lv_iadd hx hb dX11_startSo_113 ?_
                          refine lv_topi (fun z_18 ez_18 => ?_)
                          have k_4 : (4 : Int32).toInt = 4 := by decide
                          have bz_18 : z_18.toInt = (4 : Int32).toInt + x_14.toInt := i_add ez_18 (by omega) (by omega)
                          have hin_19 : vp_in z_18 575 := vp_in_iff.mpr ⟨by omega, by omega⟩
                          refine va_iald hx hb hK hP 1 0 rfl rfl hin_19 dX11_startSo_114 ?_
                          refine lv_topi (fun z_20 ez_20 => ?_)
                          have hin_21 : vp_in z_17 575 := vp_in_iff.mpr ⟨by omega, by omega⟩
                          refine va_iast hx hb hK hP hD hS 1 0 rfl rfl hin_21 dX11_startSo_115 (fun H locs hP hD hS => ?_)
                          obtain ⟨f_22, ef_22⟩ : ∃ z : Nat → Int32, z = upd g_15 (Int32.toNatClampNeg z_17) z_20 := ⟨_, rfl⟩
                          have hP : va_P (dC, dI) vwCl [(vo, .inr (12, [.int voth, .ref vmt, .int votp, .int vosz, .int volm, .int voto, .int vofr, .int vokd, .int vonu, .int vosg, .int vofa, .int vopl, .long vowd, .int votd, .ref vmn, .ref vmr, .ref vmk, .ref vms, .ref vma, .ref vmm, .ref vmrn, .ref vmkn, .ref vmik, .ref vmon, .int vosm, .int vohp, .ref vmw, .ref vmf, .ref vmb, .int vomb, .ref vmd, .ref vmc, .int vocm, .int voct, .int vocy, .ref vmx, .int votx, .int vose, .ref vml, .ref vmwr, .int voln, .int vohw, .ref vmno, .int vond, .int voon, .int vowi, .int votop])), (vmn, .inl (cy 0, 575, .inl f_22))] H := by rw [ef_22]; exact hP
                          have hD : va_D A [(vo, .inr (12, [.int voth, .ref vmt, .int votp, .int vosz, .int volm, .int voto, .int vofr, .int vokd, .int vonu, .int vosg, .int vofa, .int vopl, .long vowd, .int votd, .ref vmn, .ref vmr, .ref vmk, .ref vms, .ref vma, .ref vmm, .ref vmrn, .ref vmkn, .ref vmik, .ref vmon, .int vosm, .int vohp, .ref vmw, .ref vmf, .ref vmb, .int vomb, .ref vmd, .ref vmc, .int vocm, .int voct, .int vocy, .ref vmx, .int votx, .int vose, .ref vml, .ref vmwr, .int voln, .int vohw, .ref vmno, .int vond, .int voon, .int vowi, .int votop])), (vmn, .inl (cy 0, 575, .inl f_22))] := by rw [ef_22]; exact hD
                          have p_f_22 : NW vnh f_22 := by rw [ef_22]; exact p_g_15.upd ⟨by omega, by omega⟩
                          refine lv_aload_n hx hb dX11_startSo_116 rfl (lv_at hl 1 rfl) ?_
                          refine gf_X11_98 hx hb hts hown hK hP 0 rfl rfl dX11_startSo_117 ?_
                          refine lv_sipush (v := 235) hx hb dX11_startSo_120 (by decide) ?_
                          refine lv_iload_n hx hb dX11_startSo_123 rfl (lv_at hl 0 rfl) ?_
                          refine lv_iadd hx hb dX11_startSo_124 ?_
                          refine lv_topi (fun z_23 ez_23 => ?_)
                          have k_235 : (235 : Int32).toInt = 235 := by decide
                          have bz_23 : z_23.toInt = (235 : Int32).toInt + x_14.toInt := i_add ez_23 (by omega) (by omega)
                          refine lv_iconst (v := (-1)) hx hb dX11_startSo_125 (by decide) ?_
                          have hin_24 : vp_in z_23 575 := vp_in_iff.mpr ⟨by omega, by omega⟩
                          refine va_iast hx hb hK hP hD hS 1 0 rfl rfl hin_24 dX11_startSo_126 (fun H locs hP hD hS => ?_)
                          obtain ⟨f_25, ef_25⟩ : ∃ z : Nat → Int32, z = upd f_22 (Int32.toNatClampNeg z_23) (-1) := ⟨_, rfl⟩
                          have hP : va_P (dC, dI) vwCl [(vo, .inr (12, [.int voth, .ref vmt, .int votp, .int vosz, .int volm, .int voto, .int vofr, .int vokd, .int vonu, .int vosg, .int vofa, .int vopl, .long vowd, .int votd, .ref vmn, .ref vmr, .ref vmk, .ref vms, .ref vma, .ref vmm, .ref vmrn, .ref vmkn, .ref vmik, .ref vmon, .int vosm, .int vohp, .ref vmw, .ref vmf, .ref vmb, .int vomb, .ref vmd, .ref vmc, .int vocm, .int voct, .int vocy, .ref vmx, .int votx, .int vose, .ref vml, .ref vmwr, .int voln, .int vohw, .ref vmno, .int vond, .int voon, .int vowi, .int votop])), (vmn, .inl (cy 0, 575, .inl f_25))] H := by rw [ef_25]; exact hP
                          have hD : va_D A [(vo, .inr (12, [.int voth, .ref vmt, .int votp, .int vosz, .int volm, .int voto, .int vofr, .int vokd, .int vonu, .int vosg, .int vofa, .int vopl, .long vowd, .int votd, .ref vmn, .ref vmr, .ref vmk, .ref vms, .ref vma, .ref vmm, .ref vmrn, .ref vmkn, .ref vmik, .ref vmon, .int vosm, .int vohp, .ref vmw, .ref vmf, .ref vmb, .int vomb, .ref vmd, .ref vmc, .int vocm, .int voct, .int vocy, .ref vmx, .int votx, .int vose, .ref vml, .ref vmwr, .int voln, .int vohw, .ref vmno, .int vond, .int voon, .int vowi, .int votop])), (vmn, .inl (cy 0, 575, .inl f_25))] := by rw [ef_25]; exact hD
                          have k_m1 : ((-1) : Int32).toInt = (-1) := by decide
                          have p_f_25 : NW vnh f_25 := by rw [ef_25]; exact p_f_22.upd ⟨by omega, by omega⟩
                          refine lv_aload_n hx hb dX11_startSo_127 rfl (lv_at hl 1 rfl) ?_
                          refine gf_X11_98 hx hb hts hown hK hP 0 rfl rfl dX11_startSo_128 ?_
                          refine lv_sipush (v := 242) hx hb dX11_startSo_131 (by decide) ?_
                          refine lv_iload_n hx hb dX11_startSo_134 rfl (lv_at hl 0 rfl) ?_
                          refine lv_iadd hx hb dX11_startSo_135 ?_
                          refine lv_topi (fun z_26 ez_26 => ?_)
                          have k_242 : (242 : Int32).toInt = 242 := by decide
                          have bz_26 : z_26.toInt = (242 : Int32).toInt + x_14.toInt := i_add ez_26 (by omega) (by omega)
                          refine lv_iconst (v := (-1)) hx hb dX11_startSo_136 (by decide) ?_
                          have hin_27 : vp_in z_26 575 := vp_in_iff.mpr ⟨by omega, by omega⟩
                          refine va_iast hx hb hK hP hD hS 1 0 rfl rfl hin_27 dX11_startSo_137 (fun H locs hP hD hS => ?_)
                          obtain ⟨f_28, ef_28⟩ : ∃ z : Nat → Int32, z = upd f_25 (Int32.toNatClampNeg z_26) (-1) := ⟨_, rfl⟩
                          have hP : va_P (dC, dI) vwCl [(vo, .inr (12, [.int voth, .ref vmt, .int votp, .int vosz, .int volm, .int voto, .int vofr, .int vokd, .int vonu, .int vosg, .int vofa, .int vopl, .long vowd, .int votd, .ref vmn, .ref vmr, .ref vmk, .ref vms, .ref vma, .ref vmm, .ref vmrn, .ref vmkn, .ref vmik, .ref vmon, .int vosm, .int vohp, .ref vmw, .ref vmf, .ref vmb, .int vomb, .ref vmd, .ref vmc, .int vocm, .int voct, .int vocy, .ref vmx, .int votx, .int vose, .ref vml, .ref vmwr, .int voln, .int vohw, .ref vmno, .int vond, .int voon, .int vowi, .int votop])), (vmn, .inl (cy 0, 575, .inl f_28))] H := by rw [ef_28]; exact hP
                          have hD : va_D A [(vo, .inr (12, [.int voth, .ref vmt, .int votp, .int vosz, .int volm, .int voto, .int vofr, .int vokd, .int vonu, .int vosg, .int vofa, .int vopl, .long vowd, .int votd, .ref vmn, .ref vmr, .ref vmk, .ref vms, .ref vma, .ref vmm, .ref vmrn, .ref vmkn, .ref vmik, .ref vmon, .int vosm, .int vohp, .ref vmw, .ref vmf, .ref vmb, .int vomb, .ref vmd, .ref vmc, .int vocm, .int voct, .int vocy, .ref vmx, .int votx, .int vose, .ref vml, .ref vmwr, .int voln, .int vohw, .ref vmno, .int vond, .int voon, .int vowi, .int votop])), (vmn, .inl (cy 0, 575, .inl f_28))] := by rw [ef_28]; exact hD
                          have p_f_28 : NW vnh f_28 := by rw [ef_28]; exact p_f_25.upd ⟨by omega, by omega⟩
                          obtain ⟨z_29, ez_29⟩ : ∃ z : Int32, z = x_14 + 1 := ⟨_, rfl⟩
                          have k_1 : (1 : Int32).toInt = 1 := by decide
                          have bz_29 : z_29.toInt = x_14.toInt + (1 : Int32).toInt := i_add ez_29 (by omega) (by omega)
                          refine lv_iinc (v := z_29) (lv' := [(1, .int z_29), (0, .ref vo)]) hx hb dX11_startSo_138 hl (k := 0) rfl ez_29.symm (by decide) rfl (fun ls hl => ?_)
                          refine lv_goto (tgt := 92) hx hb dX11_startSo_141 (by decide) ?_
                          exact ih13 z_29 f_28 ⟨by omega, by omega⟩ p_f_28 (by omega) _ _ (hP.sub [0, 1] rfl) (hD.sub [0, 1] rfl rfl) hS ls (lv_sub hl [0, 1] rfl)
                    have k_0 : (0 : Int32).toInt = 0 := by decide
                    exact loop13 ((7 - (0 : Int32).toInt).toNat + 1) 0 g_11 ⟨by omega, by omega⟩ p_g_11 (by omega) _ _ hP hD hS ls (lv_sub hl [0, 1] rfl)
                  · skip
                    have c_12 : ¬ ((49 : Int32).toInt ≤ x_10.toInt) := fun h9 => c_12 (i_le.mpr h9)
                    refine lv_aload_n hx hb dX11_startSo_65 rfl (lv_at hl 1 rfl) ?_
                    refine gf_X11_98 hx hb hts hown hK hP 0 rfl rfl dX11_startSo_66 ?_
                    refine lv_sipush (v := 249) hx hb dX11_startSo_69 (by decide) ?_
                    refine lv_iload_n hx hb dX11_startSo_72 rfl (lv_at hl 0 rfl) ?_
                    refine lv_iadd hx hb dX11_startSo_73 ?_
                    refine lv_topi (fun z_30 ez_30 => ?_)
                    have k_249 : (249 : Int32).toInt = 249 := by decide
                    have bz_30 : z_30.toInt = (249 : Int32).toInt + x_10.toInt := i_add ez_30 (by omega) (by omega)
                    refine lv_aload_n hx hb dX11_startSo_74 rfl (lv_at hl 1 rfl) ?_
                    refine gf_X11_98 hx hb hts hown hK hP 0 rfl rfl dX11_startSo_75 ?_
                    refine lv_bipush (v := 108) hx hb dX11_startSo_78 (by decide) ?_
                    refine lv_iload_n hx hb dX11_startSo_80 rfl (lv_at hl 0 rfl) ?_
                    refine lv_iadd hx hb dX11_startSo_81 ?_
                    refine lv_topi (fun z_31 ez_31 => ?_)
                    have k_108 : (108 : Int32).toInt = 108 := by decide
                    have bz_31 : z_31.toInt = (108 : Int32).toInt + x_10.toInt := i_add ez_31 (by omega) (by omega)
                    have hin_32 : vp_in z_31 575 := vp_in_iff.mpr ⟨by omega, by omega⟩
                    refine va_iald hx hb hK hP 1 0 rfl rfl hin_32 dX11_startSo_82 ?_
                    refine lv_topi (fun z_33 ez_33 => ?_)
                    have hin_34 : vp_in z_30 575 := vp_in_iff.mpr ⟨by omega, by omega⟩
                    refine va_iast hx hb hK hP hD hS 1 0 rfl rfl hin_34 dX11_startSo_83 (fun H locs hP hD hS => ?_)
                    obtain ⟨f_35, ef_35⟩ : ∃ z : Nat → Int32, z = upd g_11 (Int32.toNatClampNeg z_30) z_33 := ⟨_, rfl⟩
                    have hP : va_P (dC, dI) vwCl [(vo, .inr (12, [.int voth, .ref vmt, .int votp, .int vosz, .int volm, .int voto, .int vofr, .int vokd, .int vonu, .int vosg, .int vofa, .int vopl, .long vowd, .int votd, .ref vmn, .ref vmr, .ref vmk, .ref vms, .ref vma, .ref vmm, .ref vmrn, .ref vmkn, .ref vmik, .ref vmon, .int vosm, .int vohp, .ref vmw, .ref vmf, .ref vmb, .int vomb, .ref vmd, .ref vmc, .int vocm, .int voct, .int vocy, .ref vmx, .int votx, .int vose, .ref vml, .ref vmwr, .int voln, .int vohw, .ref vmno, .int vond, .int voon, .int vowi, .int votop])), (vmn, .inl (cy 0, 575, .inl f_35))] H := by rw [ef_35]; exact hP
                    have hD : va_D A [(vo, .inr (12, [.int voth, .ref vmt, .int votp, .int vosz, .int volm, .int voto, .int vofr, .int vokd, .int vonu, .int vosg, .int vofa, .int vopl, .long vowd, .int votd, .ref vmn, .ref vmr, .ref vmk, .ref vms, .ref vma, .ref vmm, .ref vmrn, .ref vmkn, .ref vmik, .ref vmon, .int vosm, .int vohp, .ref vmw, .ref vmf, .ref vmb, .int vomb, .ref vmd, .ref vmc, .int vocm, .int voct, .int vocy, .ref vmx, .int votx, .int vose, .ref vml, .ref vmwr, .int voln, .int vohw, .ref vmno, .int vond, .int voon, .int vowi, .int votop])), (vmn, .inl (cy 0, 575, .inl f_35))] := by rw [ef_35]; exact hD
                    have p_f_35 : NW vnh f_35 := by rw [ef_35]; exact p_g_11.upd ⟨by omega, by omega⟩
                    obtain ⟨z_36, ez_36⟩ : ∃ z : Int32, z = x_10 + 1 := ⟨_, rfl⟩
                    have k_1 : (1 : Int32).toInt = 1 := by decide
                    have bz_36 : z_36.toInt = x_10.toInt + (1 : Int32).toInt := i_add ez_36 (by omega) (by omega)
                    refine lv_iinc (v := z_36) (lv' := [(1, .int z_36), (0, .ref vo)]) hx hb dX11_startSo_84 hl (k := 0) rfl ez_36.symm (by decide) rfl (fun ls hl => ?_)
                    refine lv_goto (tgt := 59) hx hb dX11_startSo_87 (by decide) ?_
                    exact ih9 z_36 f_35 ⟨by omega, by omega⟩ p_f_35 (by omega) _ _ (hP.sub [0, 1] rfl) (hD.sub [0, 1] rfl rfl) hS ls (lv_sub hl [0, 1] rfl)
              have k_0 : (0 : Int32).toInt = 0 := by decide
              exact loop9 ((49 - (0 : Int32).toInt).toNat + 1) 0 g_7 ⟨by omega, by omega⟩ p_g_7 (by omega) _ _ hP hD hS ls (lv_sub hl [0, 1] rfl)
            · skip
              have c_8 : ¬ ((70 : Int32).toInt ≤ x_6.toInt) := fun h9 => c_8 (i_le.mpr h9)
              refine lv_aload_n hx hb dX11_startSo_32 rfl (lv_at hl 1 rfl) ?_
              refine gf_X11_98 hx hb hts hown hK hP 0 rfl rfl dX11_startSo_33 ?_
              refine lv_sipush (v := 165) hx hb dX11_startSo_36 (by decide) ?_
              refine lv_iload_n hx hb dX11_startSo_39 rfl (lv_at hl 0 rfl) ?_
              refine lv_iadd hx hb dX11_startSo_40 ?_
              refine lv_topi (fun z_37 ez_37 => ?_)
              have k_165 : (165 : Int32).toInt = 165 := by decide
              have bz_37 : z_37.toInt = (165 : Int32).toInt + x_6.toInt := i_add ez_37 (by omega) (by omega)
              refine lv_aload_n hx hb dX11_startSo_41 rfl (lv_at hl 1 rfl) ?_
              refine gf_X11_98 hx hb hts hown hK hP 0 rfl rfl dX11_startSo_42 ?_
              refine lv_bipush (v := 31) hx hb dX11_startSo_45 (by decide) ?_
              refine lv_iload_n hx hb dX11_startSo_47 rfl (lv_at hl 0 rfl) ?_
              refine lv_iadd hx hb dX11_startSo_48 ?_
              refine lv_topi (fun z_38 ez_38 => ?_)
              have k_31 : (31 : Int32).toInt = 31 := by decide
              have bz_38 : z_38.toInt = (31 : Int32).toInt + x_6.toInt := i_add ez_38 (by omega) (by omega)
              have hin_39 : vp_in z_38 575 := vp_in_iff.mpr ⟨by omega, by omega⟩
              refine va_iald hx hb hK hP 1 0 rfl rfl hin_39 dX11_startSo_49 ?_
              refine lv_topi (fun z_40 ez_40 => ?_)
              have hin_41 : vp_in z_37 575 := vp_in_iff.mpr ⟨by omega, by omega⟩
              refine va_iast hx hb hK hP hD hS 1 0 rfl rfl hin_41 dX11_startSo_50 (fun H locs hP hD hS => ?_)
              obtain ⟨f_42, ef_42⟩ : ∃ z : Nat → Int32, z = upd g_7 (Int32.toNatClampNeg z_37) z_40 := ⟨_, rfl⟩
              have hP : va_P (dC, dI) vwCl [(vo, .inr (12, [.int voth, .ref vmt, .int votp, .int vosz, .int volm, .int voto, .int vofr, .int vokd, .int vonu, .int vosg, .int vofa, .int vopl, .long vowd, .int votd, .ref vmn, .ref vmr, .ref vmk, .ref vms, .ref vma, .ref vmm, .ref vmrn, .ref vmkn, .ref vmik, .ref vmon, .int vosm, .int vohp, .ref vmw, .ref vmf, .ref vmb, .int vomb, .ref vmd, .ref vmc, .int vocm, .int voct, .int vocy, .ref vmx, .int votx, .int vose, .ref vml, .ref vmwr, .int voln, .int vohw, .ref vmno, .int vond, .int voon, .int vowi, .int votop])), (vmn, .inl (cy 0, 575, .inl f_42))] H := by rw [ef_42]; exact hP
              have hD : va_D A [(vo, .inr (12, [.int voth, .ref vmt, .int votp, .int vosz, .int volm, .int voto, .int vofr, .int vokd, .int vonu, .int vosg, .int vofa, .int vopl, .long vowd, .int votd, .ref vmn, .ref vmr, .ref vmk, .ref vms, .ref vma, .ref vmm, .ref vmrn, .ref vmkn, .ref vmik, .ref vmon, .int vosm, .int vohp, .ref vmw, .ref vmf, .ref vmb, .int vomb, .ref vmd, .ref vmc, .int vocm, .int voct, .int vocy, .ref vmx, .int votx, .int vose, .ref vml, .ref vmwr, .int voln, .int vohw, .ref vmno, .int vond, .int voon, .int vowi, .int votop])), (vmn, .inl (cy 0, 575, .inl f_42))] := by rw [ef_42]; exact hD
              have p_f_42 : NW vnh f_42 := by rw [ef_42]; exact p_g_7.upd ⟨by omega, by omega⟩
              obtain ⟨z_43, ez_43⟩ : ∃ z : Int32, z = x_6 + 1 := ⟨_, rfl⟩
              have k_1 : (1 : Int32).toInt = 1 := by decide
              have bz_43 : z_43.toInt = x_6.toInt + (1 : Int32).toInt := i_add ez_43 (by omega) (by omega)
              refine lv_iinc (v := z_43) (lv' := [(1, .int z_43), (0, .ref vo)]) hx hb dX11_startSo_51 hl (k := 0) rfl ez_43.symm (by decide) rfl (fun ls hl => ?_)
              refine lv_goto (tgt := 26) hx hb dX11_startSo_54 (by decide) ?_
              exact ih5 z_43 f_42 ⟨by omega, by omega⟩ p_f_42 (by omega) _ _ (hP.sub [0, 1] rfl) (hD.sub [0, 1] rfl rfl) hS ls (lv_sub hl [0, 1] rfl)
        have k_0 : (0 : Int32).toInt = 0 := by decide
        exact loop5 ((70 - (0 : Int32).toInt).toNat + 1) 0 g_3 ⟨by omega, by omega⟩ w_g_3 (by omega) _ _ hP hD hS ls (lv_sub hl [0, 1] rfl)
      · skip
        have c_4 : ¬ ((575 : Int32).toInt ≤ x_2.toInt) := fun h9 => c_4 (i_le.mpr h9)
        refine lv_aload_n hx hb dX11_startSo_11 rfl (lv_at hl 1 rfl) ?_
        refine gf_X11_98 hx hb hts hown hK hP 0 rfl rfl dX11_startSo_12 ?_
        refine lv_iload_n hx hb dX11_startSo_15 rfl (lv_at hl 0 rfl) ?_
        refine lv_iconst (v := 0) hx hb dX11_startSo_16 (by decide) ?_
        have hin_44 : vp_in x_2 575 := vp_in_iff.mpr ⟨by omega, by omega⟩
        refine va_iast hx hb hK hP hD hS 1 0 rfl rfl hin_44 dX11_startSo_17 (fun H locs hP hD hS => ?_)
        obtain ⟨f_45, ef_45⟩ : ∃ z : Nat → Int32, z = upd g_3 (Int32.toNatClampNeg x_2) 0 := ⟨_, rfl⟩
        have hP : va_P (dC, dI) vwCl [(vo, .inr (12, [.int voth, .ref vmt, .int votp, .int vosz, .int volm, .int voto, .int vofr, .int vokd, .int vonu, .int vosg, .int vofa, .int vopl, .long vowd, .int votd, .ref vmn, .ref vmr, .ref vmk, .ref vms, .ref vma, .ref vmm, .ref vmrn, .ref vmkn, .ref vmik, .ref vmon, .int vosm, .int vohp, .ref vmw, .ref vmf, .ref vmb, .int vomb, .ref vmd, .ref vmc, .int vocm, .int voct, .int vocy, .ref vmx, .int votx, .int vose, .ref vml, .ref vmwr, .int voln, .int vohw, .ref vmno, .int vond, .int voon, .int vowi, .int votop])), (vmn, .inl (cy 0, 575, .inl f_45))] H := by rw [ef_45]; exact hP
        have hD : va_D A [(vo, .inr (12, [.int voth, .ref vmt, .int votp, .int vosz, .int volm, .int voto, .int vofr, .int vokd, .int vonu, .int vosg, .int vofa, .int vopl, .long vowd, .int votd, .ref vmn, .ref vmr, .ref vmk, .ref vms, .ref vma, .ref vmm, .ref vmrn, .ref vmkn, .ref vmik, .ref vmon, .int vosm, .int vohp, .ref vmw, .ref vmf, .ref vmb, .int vomb, .ref vmd, .ref vmc, .int vocm, .int voct, .int vocy, .ref vmx, .int votx, .int vose, .ref vml, .ref vmwr, .int voln, .int vohw, .ref vmno, .int vond, .int voon, .int vowi, .int votop])), (vmn, .inl (cy 0, 575, .inl f_45))] := by rw [ef_45]; exact hD
        have k_0 : (0 : Int32).toInt = 0 := by decide
        have p_f_45 : RN vnh f_45 := by rw [ef_45]; exact p_g_3.upd ⟨by omega, by omega⟩
        obtain ⟨z_46, ez_46⟩ : ∃ z : Int32, z = x_2 + 1 := ⟨_, rfl⟩
        have k_1 : (1 : Int32).toInt = 1 := by decide
        have bz_46 : z_46.toInt = x_2.toInt + (1 : Int32).toInt := i_add ez_46 (by omega) (by omega)
        refine lv_iinc (v := z_46) (lv' := [(1, .int z_46), (0, .ref vo)]) hx hb dX11_startSo_18 hl (k := 0) rfl ez_46.symm (by decide) rfl (fun ls hl => ?_)
        refine lv_goto (tgt := 4) hx hb dX11_startSo_21 (by decide) ?_
        exact ih1 z_46 f_45 ⟨by omega, by omega⟩ p_f_45 (ef_45 ▸ ZR.step (x := x_2) (y := z_46) v1_0 (by omega) k_0 (by omega)) (by omega) _ _ (hP.sub [0, 1] rfl) (hD.sub [0, 1] rfl rfl) hS ls (lv_sub hl [0, 1] rfl)
  have k_157 : (157 : Int32).toInt = 157 := by decide
  exact loop1 ((575 - (157 : Int32).toInt).toNat + 1) 157 vmnf ⟨by omega, by omega⟩ p_vmnf (ZR.nil (by omega)) (by omega) _ _ hP hD hS ls (lv_sub hl [0, 1] rfl)
