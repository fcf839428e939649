abbrev cX11_spelt : ByteArray := prog_13_method_17_code
def yX11_spelt : MethodName := ⟨RX11, "spelt", "(IIIIIII)J"⟩
theorem t1625 : Cond.code yX11_spelt cX11_spelt 9 (some .long) ∈ GW := gw_mem 1739 (by decide +kernel) (by decide +kernel)
theorem dX11_spelt_0 : decode cX11_spelt 0 = .ok (.ldc2_w 54, 3) := by decide +kernel
theorem dX11_spelt_3 : decode cX11_spelt 3 = .ok (.iload_n 0, 1) := by decide +kernel
theorem dX11_spelt_4 : decode cX11_spelt 4 = .ok (.i2l, 1) := by decide +kernel
theorem dX11_spelt_5 : decode cX11_spelt 5 = .ok (.ldc2_w 56, 3) := by decide +kernel
theorem dX11_spelt_8 : decode cX11_spelt 8 = .ok (.lsub, 1) := by decide +kernel
theorem dX11_spelt_9 : decode cX11_spelt 9 = .ok (.lmul, 1) := by decide +kernel
theorem dX11_spelt_10 : decode cX11_spelt 10 = .ok (.iload_n 1, 1) := by decide +kernel
theorem dX11_spelt_11 : decode cX11_spelt 11 = .ok (.i2l, 1) := by decide +kernel
theorem dX11_spelt_12 : decode cX11_spelt 12 = .ok (.ladd, 1) := by decide +kernel
theorem dX11_spelt_13 : decode cX11_spelt 13 = .ok (.ldc2_w 56, 3) := by decide +kernel
theorem dX11_spelt_16 : decode cX11_spelt 16 = .ok (.lsub, 1) := by decide +kernel
theorem dX11_spelt_17 : decode cX11_spelt 17 = .ok (.lstore 7, 2) := by decide +kernel
theorem dX11_spelt_19 : decode cX11_spelt 19 = .ok (.iload_n 2, 1) := by decide +kernel
theorem dX11_spelt_20 : decode cX11_spelt 20 = .ok (.ifCond .le 18, 3) := by decide +kernel
theorem dX11_spelt_38 : decode cX11_spelt 38 = .ok (.iload_n 3, 1) := by decide +kernel
theorem dX11_spelt_39 : decode cX11_spelt 39 = .ok (.ifCond .le 18, 3) := by decide +kernel
theorem dX11_spelt_57 : decode cX11_spelt 57 = .ok (.iload 4, 2) := by decide +kernel
theorem dX11_spelt_59 : decode cX11_spelt 59 = .ok (.ifCond .le 19, 3) := by decide +kernel
theorem dX11_spelt_78 : decode cX11_spelt 78 = .ok (.iload 5, 2) := by decide +kernel
theorem dX11_spelt_80 : decode cX11_spelt 80 = .ok (.ifCond .le 19, 3) := by decide +kernel
theorem dX11_spelt_99 : decode cX11_spelt 99 = .ok (.iload 6, 2) := by decide +kernel
theorem dX11_spelt_101 : decode cX11_spelt 101 = .ok (.ifCond .le 19, 3) := by decide +kernel
theorem dX11_spelt_120 : decode cX11_spelt 120 = .ok (.lload 7, 2) := by decide +kernel
theorem dX11_spelt_122 : decode cX11_spelt 122 = .ok (.lreturn, 1) := by decide +kernel
set_option maxHeartbeats 4000000 in
set_option maxRecDepth 100000 in
theorem m_spelt_no (l : Launch) (dC : Nat → ClassId) (dI : Nat → Nat → Nat) (cy : Nat → ClassId)   : Met l yX11_spelt (wl yX11_spelt cX11_spelt 9 (some .long)) ({ frames := 0, cells := 0, slots := 0, locals := 0 }) (Pr (dC, dI) vwCl cy [] [.int 110, .int 111, .int 0, .int 0, .int 0, .int 0, .int 0]) (Rl (fun r => ((r : Int64).toInt = 393))) 0 0 (fun _ => False) := by
  refine mr RX11 rfl (by decide +kernel) (Nat.le_of_ble_eq_true rfl) ?_
  intro p e s m below meth c hx hb hr hlocks av9 hav hts hown hml hK hP hS Q9 hQ9 ls hl
  have hl : lv_has ls 9 [(0, .int 110), (1, .int 111), (2, .int 0), (3, .int 0), (4, .int 0), (5, .int 0), (6, .int 0)] := hl
  refine lv_ldc2 hx hb hown (hts _ t1610) dX11_spelt_0 ?_
  refine lv_iload_n hx hb dX11_spelt_3 rfl (lv_at hl 0 rfl) ?_
  refine lv_i2l (v := 110) hx hb dX11_spelt_4 (by decide) ?_
  refine lv_ldc2 hx hb hown (hts _ t1611) dX11_spelt_5 ?_
  refine lv_lsub hx hb dX11_spelt_8 ?_
  refine as_l 14 (by decide) ?_
  refine lv_lmul hx hb dX11_spelt_9 ?_
  refine as_l 378 (by decide) ?_
  refine lv_iload_n hx hb dX11_spelt_10 rfl (lv_at hl 1 rfl) ?_
  refine lv_i2l (v := 111) hx hb dX11_spelt_11 (by decide) ?_
  refine lv_ladd hx hb dX11_spelt_12 ?_
  refine as_l 489 (by decide) ?_
  refine lv_ldc2 hx hb hown (hts _ t1611) dX11_spelt_13 ?_
  refine lv_lsub hx hb dX11_spelt_16 ?_
  refine as_l 393 (by decide) ?_
  refine lv_lstore (lv' := [(7, .long 393), (0, .int 110), (1, .int 111), (2, .int 0), (3, .int 0), (4, .int 0), (5, .int 0), (6, .int 0)]) hx hb dX11_spelt_17 hl (by decide) rfl (fun ls hl => ?_)
  refine lv_iload_n hx hb dX11_spelt_19 rfl (lv_at hl 3 rfl) ?_
  refine lv_if_le (tgt := 38) hx hb dX11_spelt_20 (by decide) (fun _ => ?_) (fun c9 => absurd (by decide) c9)
  refine lv_iload_n hx hb dX11_spelt_38 rfl (lv_at hl 4 rfl) ?_
  refine lv_if_le (tgt := 57) hx hb dX11_spelt_39 (by decide) (fun _ => ?_) (fun c9 => absurd (by decide) c9)
  refine lv_iload hx hb dX11_spelt_57 (lv_at hl 5 rfl) ?_
  refine lv_if_le (tgt := 78) hx hb dX11_spelt_59 (by decide) (fun _ => ?_) (fun c9 => absurd (by decide) c9)
  refine lv_iload hx hb dX11_spelt_78 (lv_at hl 6 rfl) ?_
  refine lv_if_le (tgt := 99) hx hb dX11_spelt_80 (by decide) (fun _ => ?_) (fun c9 => absurd (by decide) c9)
  refine lv_iload hx hb dX11_spelt_99 (lv_at hl 7 rfl) ?_
  refine lv_if_le (tgt := 120) hx hb dX11_spelt_101 (by decide) (fun _ => ?_) (fun c9 => absurd (by decide) c9)
  refine lv_lload hx hb dX11_spelt_120 (lv_at hl 0 rfl) ?_
  rw [hQ9]
  exact rr_l hx hb hr hlocks (show ((393 : Int64) : Int64).toInt = 393 from (by decide)) hS dX11_spelt_122
set_option maxHeartbeats 4000000 in
set_option maxRecDepth 100000 in
theorem m_spelt_is (l : Launch) (dC : Nat → ClassId) (dI : Nat → Nat → Nat) (cy : Nat → ClassId)   : Met l yX11_spelt (wl yX11_spelt cX11_spelt 9 (some .long)) ({ frames := 0, cells := 0, slots := 0, locals := 0 }) (Pr (dC, dI) vwCl cy [] [.int 105, .int 115, .int 0, .int 0, .int 0, .int 0, .int 0]) (Rl (fun r => ((r : Int64).toInt = 262))) 0 0 (fun _ => False) := by
  refine mr RX11 rfl (by decide +kernel) (Nat.le_of_ble_eq_true rfl) ?_
  intro p e s m below meth c hx hb hr hlocks av9 hav hts hown hml hK hP hS Q9 hQ9 ls hl
  have hl : lv_has ls 9 [(0, .int 105), (1, .int 115), (2, .int 0), (3, .int 0), (4, .int 0), (5, .int 0), (6, .int 0)] := hl
  refine lv_ldc2 hx hb hown (hts _ t1610) dX11_spelt_0 ?_
  refine lv_iload_n hx hb dX11_spelt_3 rfl (lv_at hl 0 rfl) ?_
  refine lv_i2l (v := 105) hx hb dX11_spelt_4 (by decide) ?_
  refine lv_ldc2 hx hb hown (hts _ t1611) dX11_spelt_5 ?_
  refine lv_lsub hx hb dX11_spelt_8 ?_
  refine as_l 9 (by decide) ?_
  refine lv_lmul hx hb dX11_spelt_9 ?_
  refine as_l 243 (by decide) ?_
  refine lv_iload_n hx hb dX11_spelt_10 rfl (lv_at hl 1 rfl) ?_
  refine lv_i2l (v := 115) hx hb dX11_spelt_11 (by decide) ?_
  refine lv_ladd hx hb dX11_spelt_12 ?_
  refine as_l 358 (by decide) ?_
  refine lv_ldc2 hx hb hown (hts _ t1611) dX11_spelt_13 ?_
  refine lv_lsub hx hb dX11_spelt_16 ?_
  refine as_l 262 (by decide) ?_
  refine lv_lstore (lv' := [(7, .long 262), (0, .int 105), (1, .int 115), (2, .int 0), (3, .int 0), (4, .int 0), (5, .int 0), (6, .int 0)]) hx hb dX11_spelt_17 hl (by decide) rfl (fun ls hl => ?_)
  refine lv_iload_n hx hb dX11_spelt_19 rfl (lv_at hl 3 rfl) ?_
  refine lv_if_le (tgt := 38) hx hb dX11_spelt_20 (by decide) (fun _ => ?_) (fun c9 => absurd (by decide) c9)
  refine lv_iload_n hx hb dX11_spelt_38 rfl (lv_at hl 4 rfl) ?_
  refine lv_if_le (tgt := 57) hx hb dX11_spelt_39 (by decide) (fun _ => ?_) (fun c9 => absurd (by decide) c9)
  refine lv_iload hx hb dX11_spelt_57 (lv_at hl 5 rfl) ?_
  refine lv_if_le (tgt := 78) hx hb dX11_spelt_59 (by decide) (fun _ => ?_) (fun c9 => absurd (by decide) c9)
  refine lv_iload hx hb dX11_spelt_78 (lv_at hl 6 rfl) ?_
  refine lv_if_le (tgt := 99) hx hb dX11_spelt_80 (by decide) (fun _ => ?_) (fun c9 => absurd (by decide) c9)
  refine lv_iload hx hb dX11_spelt_99 (lv_at hl 7 rfl) ?_
  refine lv_if_le (tgt := 120) hx hb dX11_spelt_101 (by decide) (fun _ => ?_) (fun c9 => absurd (by decide) c9)
  refine lv_lload hx hb dX11_spelt_120 (lv_at hl 0 rfl) ?_
  rw [hQ9]
  exact rr_l hx hb hr hlocks (show ((262 : Int64) : Int64).toInt = 262 from (by decide)) hS dX11_spelt_122
theorem dX11_spelt_23 : decode cX11_spelt 23 = .ok (.ldc2_w 54, 3) := by decide +kernel
theorem dX11_spelt_26 : decode cX11_spelt 26 = .ok (.lload 7, 2) := by decide +kernel
theorem dX11_spelt_28 : decode cX11_spelt 28 = .ok (.lmul, 1) := by decide +kernel
theorem dX11_spelt_29 : decode cX11_spelt 29 = .ok (.iload_n 2, 1) := by decide +kernel
theorem dX11_spelt_30 : decode cX11_spelt 30 = .ok (.i2l, 1) := by decide +kernel
theorem dX11_spelt_31 : decode cX11_spelt 31 = .ok (.ladd, 1) := by decide +kernel
theorem dX11_spelt_32 : decode cX11_spelt 32 = .ok (.ldc2_w 56, 3) := by decide +kernel
theorem dX11_spelt_35 : decode cX11_spelt 35 = .ok (.lsub, 1) := by decide +kernel
theorem dX11_spelt_36 : decode cX11_spelt 36 = .ok (.lstore 7, 2) := by decide +kernel
theorem dX11_spelt_42 : decode cX11_spelt 42 = .ok (.ldc2_w 54, 3) := by decide +kernel
theorem dX11_spelt_45 : decode cX11_spelt 45 = .ok (.lload 7, 2) := by decide +kernel
theorem dX11_spelt_47 : decode cX11_spelt 47 = .ok (.lmul, 1) := by decide +kernel
theorem dX11_spelt_48 : decode cX11_spelt 48 = .ok (.iload_n 3, 1) := by decide +kernel
theorem dX11_spelt_49 : decode cX11_spelt 49 = .ok (.i2l, 1) := by decide +kernel
theorem dX11_spelt_50 : decode cX11_spelt 50 = .ok (.ladd, 1) := by decide +kernel
theorem dX11_spelt_51 : decode cX11_spelt 51 = .ok (.ldc2_w 56, 3) := by decide +kernel
theorem dX11_spelt_54 : decode cX11_spelt 54 = .ok (.lsub, 1) := by decide +kernel
theorem dX11_spelt_55 : decode cX11_spelt 55 = .ok (.lstore 7, 2) := by decide +kernel
set_option maxHeartbeats 4000000 in
set_option maxRecDepth 100000 in
theorem m_spelt_room (l : Launch) (dC : Nat → ClassId) (dI : Nat → Nat → Nat) (cy : Nat → ClassId)   : Met l yX11_spelt (wl yX11_spelt cX11_spelt 9 (some .long)) ({ frames := 0, cells := 0, slots := 0, locals := 0 }) (Pr (dC, dI) vwCl cy [] [.int 114, .int 111, .int 111, .int 109, .int 0, .int 0, .int 0]) (Rl (fun r => ((r : Int64).toInt = 365647))) 0 0 (fun _ => False) := by
  refine mr RX11 rfl (by decide +kernel) (Nat.le_of_ble_eq_true rfl) ?_
  intro p e s m below meth c hx hb hr hlocks av9 hav hts hown hml hK hP hS Q9 hQ9 ls hl
  have hl : lv_has ls 9 [(0, .int 114), (1, .int 111), (2, .int 111), (3, .int 109), (4, .int 0), (5, .int 0), (6, .int 0)] := hl
  refine lv_ldc2 hx hb hown (hts _ t1610) dX11_spelt_0 ?_
  refine lv_iload_n hx hb dX11_spelt_3 rfl (lv_at hl 0 rfl) ?_
  refine lv_i2l (v := 114) hx hb dX11_spelt_4 (by decide) ?_
  refine lv_ldc2 hx hb hown (hts _ t1611) dX11_spelt_5 ?_
  refine lv_lsub hx hb dX11_spelt_8 ?_
  refine as_l 18 (by decide) ?_
  refine lv_lmul hx hb dX11_spelt_9 ?_
  refine as_l 486 (by decide) ?_
  refine lv_iload_n hx hb dX11_spelt_10 rfl (lv_at hl 1 rfl) ?_
  refine lv_i2l (v := 111) hx hb dX11_spelt_11 (by decide) ?_
  refine lv_ladd hx hb dX11_spelt_12 ?_
  refine as_l 597 (by decide) ?_
  refine lv_ldc2 hx hb hown (hts _ t1611) dX11_spelt_13 ?_
  refine lv_lsub hx hb dX11_spelt_16 ?_
  refine as_l 501 (by decide) ?_
  refine lv_lstore (lv' := [(7, .long 501), (0, .int 114), (1, .int 111), (2, .int 111), (3, .int 109), (4, .int 0), (5, .int 0), (6, .int 0)]) hx hb dX11_spelt_17 hl (by decide) rfl (fun ls hl => ?_)
  refine lv_iload_n hx hb dX11_spelt_19 rfl (lv_at hl 3 rfl) ?_
  refine lv_if_le (tgt := 38) hx hb dX11_spelt_20 (by decide) (fun c9 => absurd c9 (by decide)) (fun _ => ?_)
  refine lv_ldc2 hx hb hown (hts _ t1610) dX11_spelt_23 ?_
  refine lv_lload hx hb dX11_spelt_26 (lv_at hl 0 rfl) ?_
  refine lv_lmul hx hb dX11_spelt_28 ?_
  refine as_l 13527 (by decide) ?_
  refine lv_iload_n hx hb dX11_spelt_29 rfl (lv_at hl 3 rfl) ?_
  refine lv_i2l (v := 111) hx hb dX11_spelt_30 (by decide) ?_
  refine lv_ladd hx hb dX11_spelt_31 ?_
  refine as_l 13638 (by decide) ?_
  refine lv_ldc2 hx hb hown (hts _ t1611) dX11_spelt_32 ?_
  refine lv_lsub hx hb dX11_spelt_35 ?_
  refine as_l 13542 (by decide) ?_
  refine lv_lstore (lv' := [(7, .long 13542), (0, .int 114), (1, .int 111), (2, .int 111), (3, .int 109), (4, .int 0), (5, .int 0), (6, .int 0)]) hx hb dX11_spelt_36 hl (by decide) rfl (fun ls hl => ?_)
  refine lv_iload_n hx hb dX11_spelt_38 rfl (lv_at hl 4 rfl) ?_
  refine lv_if_le (tgt := 57) hx hb dX11_spelt_39 (by decide) (fun c9 => absurd c9 (by decide)) (fun _ => ?_)
  refine lv_ldc2 hx hb hown (hts _ t1610) dX11_spelt_42 ?_
  refine lv_lload hx hb dX11_spelt_45 (lv_at hl 0 rfl) ?_
  refine lv_lmul hx hb dX11_spelt_47 ?_
  refine as_l 365634 (by decide) ?_
  refine lv_iload_n hx hb dX11_spelt_48 rfl (lv_at hl 4 rfl) ?_
  refine lv_i2l (v := 109) hx hb dX11_spelt_49 (by decide) ?_
  refine lv_ladd hx hb dX11_spelt_50 ?_
  refine as_l 365743 (by decide) ?_
  refine lv_ldc2 hx hb hown (hts _ t1611) dX11_spelt_51 ?_
  refine lv_lsub hx hb dX11_spelt_54 ?_
  refine as_l 365647 (by decide) ?_
  refine lv_lstore (lv' := [(7, .long 365647), (0, .int 114), (1, .int 111), (2, .int 111), (3, .int 109), (4, .int 0), (5, .int 0), (6, .int 0)]) hx hb dX11_spelt_55 hl (by decide) rfl (fun ls hl => ?_)
  refine lv_iload hx hb dX11_spelt_57 (lv_at hl 5 rfl) ?_
  refine lv_if_le (tgt := 78) hx hb dX11_spelt_59 (by decide) (fun _ => ?_) (fun c9 => absurd (by decide) c9)
  refine lv_iload hx hb dX11_spelt_78 (lv_at hl 6 rfl) ?_
  refine lv_if_le (tgt := 99) hx hb dX11_spelt_80 (by decide) (fun _ => ?_) (fun c9 => absurd (by decide) c9)
  refine lv_iload hx hb dX11_spelt_99 (lv_at hl 7 rfl) ?_
  refine lv_if_le (tgt := 120) hx hb dX11_spelt_101 (by decide) (fun _ => ?_) (fun c9 => absurd (by decide) c9)
  refine lv_lload hx hb dX11_spelt_120 (lv_at hl 0 rfl) ?_
  rw [hQ9]
  exact rr_l hx hb hr hlocks (show ((365647 : Int64) : Int64).toInt = 365647 from (by decide)) hS dX11_spelt_122
set_option maxHeartbeats 4000000 in
set_option maxRecDepth 100000 in
theorem m_spelt_dark (l : Launch) (dC : Nat → ClassId) (dI : Nat → Nat → Nat) (cy : Nat → ClassId)   : Met l yX11_spelt (wl yX11_spelt cX11_spelt 9 (some .long)) ({ frames := 0, cells := 0, slots := 0, locals := 0 }) (Pr (dC, dI) vwCl cy [] [.int 100, .int 97, .int 114, .int 107, .int 0, .int 0, .int 0]) (Rl (fun r => ((r : Int64).toInt = 79958))) 0 0 (fun _ => False) := by
  refine mr RX11 rfl (by decide +kernel) (Nat.le_of_ble_eq_true rfl) ?_
  intro p e s m below meth c hx hb hr hlocks av9 hav hts hown hml hK hP hS Q9 hQ9 ls hl
  have hl : lv_has ls 9 [(0, .int 100), (1, .int 97), (2, .int 114), (3, .int 107), (4, .int 0), (5, .int 0), (6, .int 0)] := hl
  refine lv_ldc2 hx hb hown (hts _ t1610) dX11_spelt_0 ?_
  refine lv_iload_n hx hb dX11_spelt_3 rfl (lv_at hl 0 rfl) ?_
  refine lv_i2l (v := 100) hx hb dX11_spelt_4 (by decide) ?_
  refine lv_ldc2 hx hb hown (hts _ t1611) dX11_spelt_5 ?_
  refine lv_lsub hx hb dX11_spelt_8 ?_
  refine as_l 4 (by decide) ?_
  refine lv_lmul hx hb dX11_spelt_9 ?_
  refine as_l 108 (by decide) ?_
  refine lv_iload_n hx hb dX11_spelt_10 rfl (lv_at hl 1 rfl) ?_
  refine lv_i2l (v := 97) hx hb dX11_spelt_11 (by decide) ?_
  refine lv_ladd hx hb dX11_spelt_12 ?_
  refine as_l 205 (by decide) ?_
  refine lv_ldc2 hx hb hown (hts _ t1611) dX11_spelt_13 ?_
  refine lv_lsub hx hb dX11_spelt_16 ?_
  refine as_l 109 (by decide) ?_
  refine lv_lstore (lv' := [(7, .long 109), (0, .int 100), (1, .int 97), (2, .int 114), (3, .int 107), (4, .int 0), (5, .int 0), (6, .int 0)]) hx hb dX11_spelt_17 hl (by decide) rfl (fun ls hl => ?_)
  refine lv_iload_n hx hb dX11_spelt_19 rfl (lv_at hl 3 rfl) ?_
  refine lv_if_le (tgt := 38) hx hb dX11_spelt_20 (by decide) (fun c9 => absurd c9 (by decide)) (fun _ => ?_)
  refine lv_ldc2 hx hb hown (hts _ t1610) dX11_spelt_23 ?_
  refine lv_lload hx hb dX11_spelt_26 (lv_at hl 0 rfl) ?_
  refine lv_lmul hx hb dX11_spelt_28 ?_
  refine as_l 2943 (by decide) ?_
  refine lv_iload_n hx hb dX11_spelt_29 rfl (lv_at hl 3 rfl) ?_
  refine lv_i2l (v := 114) hx hb dX11_spelt_30 (by decide) ?_
  refine lv_ladd hx hb dX11_spelt_31 ?_
  refine as_l 3057 (by decide) ?_
  refine lv_ldc2 hx hb hown (hts _ t1611) dX11_spelt_32 ?_
  refine lv_lsub hx hb dX11_spelt_35 ?_
  refine as_l 2961 (by decide) ?_
  refine lv_lstore (lv' := [(7, .long 2961), (0, .int 100), (1, .int 97), (2, .int 114), (3, .int 107), (4, .int 0), (5, .int 0), (6, .int 0)]) hx hb dX11_spelt_36 hl (by decide) rfl (fun ls hl => ?_)
  refine lv_iload_n hx hb dX11_spelt_38 rfl (lv_at hl 4 rfl) ?_
  refine lv_if_le (tgt := 57) hx hb dX11_spelt_39 (by decide) (fun c9 => absurd c9 (by decide)) (fun _ => ?_)
  refine lv_ldc2 hx hb hown (hts _ t1610) dX11_spelt_42 ?_
  refine lv_lload hx hb dX11_spelt_45 (lv_at hl 0 rfl) ?_
  refine lv_lmul hx hb dX11_spelt_47 ?_
  refine as_l 79947 (by decide) ?_
  refine lv_iload_n hx hb dX11_spelt_48 rfl (lv_at hl 4 rfl) ?_
  refine lv_i2l (v := 107) hx hb dX11_spelt_49 (by decide) ?_
  refine lv_ladd hx hb dX11_spelt_50 ?_
  refine as_l 80054 (by decide) ?_
  refine lv_ldc2 hx hb hown (hts _ t1611) dX11_spelt_51 ?_
  refine lv_lsub hx hb dX11_spelt_54 ?_
  refine as_l 79958 (by decide) ?_
  refine lv_lstore (lv' := [(7, .long 79958), (0, .int 100), (1, .int 97), (2, .int 114), (3, .int 107), (4, .int 0), (5, .int 0), (6, .int 0)]) hx hb dX11_spelt_55 hl (by decide) rfl (fun ls hl => ?_)
  refine lv_iload hx hb dX11_spelt_57 (lv_at hl 5 rfl) ?_
  refine lv_if_le (tgt := 78) hx hb dX11_spelt_59 (by decide) (fun _ => ?_) (fun c9 => absurd (by decide) c9)
  refine lv_iload hx hb dX11_spelt_78 (lv_at hl 6 rfl) ?_
  refine lv_if_le (tgt := 99) hx hb dX11_spelt_80 (by decide) (fun _ => ?_) (fun c9 => absurd (by decide) c9)
  refine lv_iload hx hb dX11_spelt_99 (lv_at hl 7 rfl) ?_
  refine lv_if_le (tgt := 120) hx hb dX11_spelt_101 (by decide) (fun _ => ?_) (fun c9 => absurd (by decide) c9)
  refine lv_lload hx hb dX11_spelt_120 (lv_at hl 0 rfl) ?_
  rw [hQ9]
  exact rr_l hx hb hr hlocks (show ((79958 : Int64) : Int64).toInt = 79958 from (by decide)) hS dX11_spelt_122
theorem dX11_spelt_62 : decode cX11_spelt 62 = .ok (.ldc2_w 54, 3) := by decide +kernel
theorem dX11_spelt_65 : decode cX11_spelt 65 = .ok (.lload 7, 2) := by decide +kernel
theorem dX11_spelt_67 : decode cX11_spelt 67 = .ok (.lmul, 1) := by decide +kernel
theorem dX11_spelt_68 : decode cX11_spelt 68 = .ok (.iload 4, 2) := by decide +kernel
theorem dX11_spelt_70 : decode cX11_spelt 70 = .ok (.i2l, 1) := by decide +kernel
theorem dX11_spelt_71 : decode cX11_spelt 71 = .ok (.ladd, 1) := by decide +kernel
theorem dX11_spelt_72 : decode cX11_spelt 72 = .ok (.ldc2_w 56, 3) := by decide +kernel
theorem dX11_spelt_75 : decode cX11_spelt 75 = .ok (.lsub, 1) := by decide +kernel
theorem dX11_spelt_76 : decode cX11_spelt 76 = .ok (.lstore 7, 2) := by decide +kernel
set_option maxHeartbeats 4000000 in
set_option maxRecDepth 100000 in
theorem m_spelt_white (l : Launch) (dC : Nat → ClassId) (dI : Nat → Nat → Nat) (cy : Nat → ClassId)   : Met l yX11_spelt (wl yX11_spelt cX11_spelt 9 (some .long)) ({ frames := 0, cells := 0, slots := 0, locals := 0 }) (Pr (dC, dI) vwCl cy [] [.int 119, .int 104, .int 105, .int 116, .int 101, .int 0, .int 0]) (Rl (fun r => ((r : Int64).toInt = 12387713))) 0 0 (fun _ => False) := by
  refine mr RX11 rfl (by decide +kernel) (Nat.le_of_ble_eq_true rfl) ?_
  intro p e s m below meth c hx hb hr hlocks av9 hav hts hown hml hK hP hS Q9 hQ9 ls hl
  have hl : lv_has ls 9 [(0, .int 119), (1, .int 104), (2, .int 105), (3, .int 116), (4, .int 101), (5, .int 0), (6, .int 0)] := hl
  refine lv_ldc2 hx hb hown (hts _ t1610) dX11_spelt_0 ?_
  refine lv_iload_n hx hb dX11_spelt_3 rfl (lv_at hl 0 rfl) ?_
  refine lv_i2l (v := 119) hx hb dX11_spelt_4 (by decide) ?_
  refine lv_ldc2 hx hb hown (hts _ t1611) dX11_spelt_5 ?_
  refine lv_lsub hx hb dX11_spelt_8 ?_
  refine as_l 23 (by decide) ?_
  refine lv_lmul hx hb dX11_spelt_9 ?_
  refine as_l 621 (by decide) ?_
  refine lv_iload_n hx hb dX11_spelt_10 rfl (lv_at hl 1 rfl) ?_
  refine lv_i2l (v := 104) hx hb dX11_spelt_11 (by decide) ?_
  refine lv_ladd hx hb dX11_spelt_12 ?_
  refine as_l 725 (by decide) ?_
  refine lv_ldc2 hx hb hown (hts _ t1611) dX11_spelt_13 ?_
  refine lv_lsub hx hb dX11_spelt_16 ?_
  refine as_l 629 (by decide) ?_
  refine lv_lstore (lv' := [(7, .long 629), (0, .int 119), (1, .int 104), (2, .int 105), (3, .int 116), (4, .int 101), (5, .int 0), (6, .int 0)]) hx hb dX11_spelt_17 hl (by decide) rfl (fun ls hl => ?_)
  refine lv_iload_n hx hb dX11_spelt_19 rfl (lv_at hl 3 rfl) ?_
  refine lv_if_le (tgt := 38) hx hb dX11_spelt_20 (by decide) (fun c9 => absurd c9 (by decide)) (fun _ => ?_)
  refine lv_ldc2 hx hb hown (hts _ t1610) dX11_spelt_23 ?_
  refine lv_lload hx hb dX11_spelt_26 (lv_at hl 0 rfl) ?_
  refine lv_lmul hx hb dX11_spelt_28 ?_
  refine as_l 16983 (by decide) ?_
  refine lv_iload_n hx hb dX11_spelt_29 rfl (lv_at hl 3 rfl) ?_
  refine lv_i2l (v := 105) hx hb dX11_spelt_30 (by decide) ?_
  refine lv_ladd hx hb dX11_spelt_31 ?_
  refine as_l 17088 (by decide) ?_
  refine lv_ldc2 hx hb hown (hts _ t1611) dX11_spelt_32 ?_
  refine lv_lsub hx hb dX11_spelt_35 ?_
  refine as_l 16992 (by decide) ?_
  refine lv_lstore (lv' := [(7, .long 16992), (0, .int 119), (1, .int 104), (2, .int 105), (3, .int 116), (4, .int 101), (5, .int 0), (6, .int 0)]) hx hb dX11_spelt_36 hl (by decide) rfl (fun ls hl => ?_)
  refine lv_iload_n hx hb dX11_spelt_38 rfl (lv_at hl 4 rfl) ?_
  refine lv_if_le (tgt := 57) hx hb dX11_spelt_39 (by decide) (fun c9 => absurd c9 (by decide)) (fun _ => ?_)
  refine lv_ldc2 hx hb hown (hts _ t1610) dX11_spelt_42 ?_
  refine lv_lload hx hb dX11_spelt_45 (lv_at hl 0 rfl) ?_
  refine lv_lmul hx hb dX11_spelt_47 ?_
  refine as_l 458784 (by decide) ?_
  refine lv_iload_n hx hb dX11_spelt_48 rfl (lv_at hl 4 rfl) ?_
  refine lv_i2l (v := 116) hx hb dX11_spelt_49 (by decide) ?_
  refine lv_ladd hx hb dX11_spelt_50 ?_
  refine as_l 458900 (by decide) ?_
  refine lv_ldc2 hx hb hown (hts _ t1611) dX11_spelt_51 ?_
  refine lv_lsub hx hb dX11_spelt_54 ?_
  refine as_l 458804 (by decide) ?_
  refine lv_lstore (lv' := [(7, .long 458804), (0, .int 119), (1, .int 104), (2, .int 105), (3, .int 116), (4, .int 101), (5, .int 0), (6, .int 0)]) hx hb dX11_spelt_55 hl (by decide) rfl (fun ls hl => ?_)
  refine lv_iload hx hb dX11_spelt_57 (lv_at hl 5 rfl) ?_
  refine lv_if_le (tgt := 78) hx hb dX11_spelt_59 (by decide) (fun c9 => absurd c9 (by decide)) (fun _ => ?_)
  refine lv_ldc2 hx hb hown (hts _ t1610) dX11_spelt_62 ?_
  refine lv_lload hx hb dX11_spelt_65 (lv_at hl 0 rfl) ?_
  refine lv_lmul hx hb dX11_spelt_67 ?_
  refine as_l 12387708 (by decide) ?_
  refine lv_iload hx hb dX11_spelt_68 (lv_at hl 5 rfl) ?_
  refine lv_i2l (v := 101) hx hb dX11_spelt_70 (by decide) ?_
  refine lv_ladd hx hb dX11_spelt_71 ?_
  refine as_l 12387809 (by decide) ?_
  refine lv_ldc2 hx hb hown (hts _ t1611) dX11_spelt_72 ?_
  refine lv_lsub hx hb dX11_spelt_75 ?_
  refine as_l 12387713 (by decide) ?_
  refine lv_lstore (lv' := [(7, .long 12387713), (0, .int 119), (1, .int 104), (2, .int 105), (3, .int 116), (4, .int 101), (5, .int 0), (6, .int 0)]) hx hb dX11_spelt_76 hl (by decide) rfl (fun ls hl => ?_)
  refine lv_iload hx hb dX11_spelt_78 (lv_at hl 6 rfl) ?_
  refine lv_if_le (tgt := 99) hx hb dX11_spelt_80 (by decide) (fun _ => ?_) (fun c9 => absurd (by decide) c9)
  refine lv_iload hx hb dX11_spelt_99 (lv_at hl 7 rfl) ?_
  refine lv_if_le (tgt := 120) hx hb dX11_spelt_101 (by decide) (fun _ => ?_) (fun c9 => absurd (by decide) c9)
  refine lv_lload hx hb dX11_spelt_120 (lv_at hl 0 rfl) ?_
  rw [hQ9]
  exact rr_l hx hb hr hlocks (show ((12387713 : Int64) : Int64).toInt = 12387713 from (by decide)) hS dX11_spelt_122
set_option maxHeartbeats 4000000 in
set_option maxRecDepth 100000 in
theorem m_spelt_faint (l : Launch) (dC : Nat → ClassId) (dI : Nat → Nat → Nat) (cy : Nat → ClassId)   : Met l yX11_spelt (wl yX11_spelt cX11_spelt 9 (some .long)) ({ frames := 0, cells := 0, slots := 0, locals := 0 }) (Pr (dC, dI) vwCl cy [] [.int 102, .int 97, .int 105, .int 110, .int 116, .int 0, .int 0]) (Rl (fun r => ((r : Int64).toInt = 3215288))) 0 0 (fun _ => False) := by
  refine mr RX11 rfl (by decide +kernel) (Nat.le_of_ble_eq_true rfl) ?_
  intro p e s m below meth c hx hb hr hlocks av9 hav hts hown hml hK hP hS Q9 hQ9 ls hl
  have hl : lv_has ls 9 [(0, .int 102), (1, .int 97), (2, .int 105), (3, .int 110), (4, .int 116), (5, .int 0), (6, .int 0)] := hl
  refine lv_ldc2 hx hb hown (hts _ t1610) dX11_spelt_0 ?_
  refine lv_iload_n hx hb dX11_spelt_3 rfl (lv_at hl 0 rfl) ?_
  refine lv_i2l (v := 102) hx hb dX11_spelt_4 (by decide) ?_
  refine lv_ldc2 hx hb hown (hts _ t1611) dX11_spelt_5 ?_
  refine lv_lsub hx hb dX11_spelt_8 ?_
  refine as_l 6 (by decide) ?_
  refine lv_lmul hx hb dX11_spelt_9 ?_
  refine as_l 162 (by decide) ?_
  refine lv_iload_n hx hb dX11_spelt_10 rfl (lv_at hl 1 rfl) ?_
  refine lv_i2l (v := 97) hx hb dX11_spelt_11 (by decide) ?_
  refine lv_ladd hx hb dX11_spelt_12 ?_
  refine as_l 259 (by decide) ?_
  refine lv_ldc2 hx hb hown (hts _ t1611) dX11_spelt_13 ?_
  refine lv_lsub hx hb dX11_spelt_16 ?_
  refine as_l 163 (by decide) ?_
  refine lv_lstore (lv' := [(7, .long 163), (0, .int 102), (1, .int 97), (2, .int 105), (3, .int 110), (4, .int 116), (5, .int 0), (6, .int 0)]) hx hb dX11_spelt_17 hl (by decide) rfl (fun ls hl => ?_)
  refine lv_iload_n hx hb dX11_spelt_19 rfl (lv_at hl 3 rfl) ?_
  refine lv_if_le (tgt := 38) hx hb dX11_spelt_20 (by decide) (fun c9 => absurd c9 (by decide)) (fun _ => ?_)
  refine lv_ldc2 hx hb hown (hts _ t1610) dX11_spelt_23 ?_
  refine lv_lload hx hb dX11_spelt_26 (lv_at hl 0 rfl) ?_
  refine lv_lmul hx hb dX11_spelt_28 ?_
  refine as_l 4401 (by decide) ?_
  refine lv_iload_n hx hb dX11_spelt_29 rfl (lv_at hl 3 rfl) ?_
  refine lv_i2l (v := 105) hx hb dX11_spelt_30 (by decide) ?_
  refine lv_ladd hx hb dX11_spelt_31 ?_
  refine as_l 4506 (by decide) ?_
  refine lv_ldc2 hx hb hown (hts _ t1611) dX11_spelt_32 ?_
  refine lv_lsub hx hb dX11_spelt_35 ?_
  refine as_l 4410 (by decide) ?_
  refine lv_lstore (lv' := [(7, .long 4410), (0, .int 102), (1, .int 97), (2, .int 105), (3, .int 110), (4, .int 116), (5, .int 0), (6, .int 0)]) hx hb dX11_spelt_36 hl (by decide) rfl (fun ls hl => ?_)
  refine lv_iload_n hx hb dX11_spelt_38 rfl (lv_at hl 4 rfl) ?_
  refine lv_if_le (tgt := 57) hx hb dX11_spelt_39 (by decide) (fun c9 => absurd c9 (by decide)) (fun _ => ?_)
  refine lv_ldc2 hx hb hown (hts _ t1610) dX11_spelt_42 ?_
  refine lv_lload hx hb dX11_spelt_45 (lv_at hl 0 rfl) ?_
  refine lv_lmul hx hb dX11_spelt_47 ?_
  refine as_l 119070 (by decide) ?_
  refine lv_iload_n hx hb dX11_spelt_48 rfl (lv_at hl 4 rfl) ?_
  refine lv_i2l (v := 110) hx hb dX11_spelt_49 (by decide) ?_
  refine lv_ladd hx hb dX11_spelt_50 ?_
  refine as_l 119180 (by decide) ?_
  refine lv_ldc2 hx hb hown (hts _ t1611) dX11_spelt_51 ?_
  refine lv_lsub hx hb dX11_spelt_54 ?_
  refine as_l 119084 (by decide) ?_
  refine lv_lstore (lv' := [(7, .long 119084), (0, .int 102), (1, .int 97), (2, .int 105), (3, .int 110), (4, .int 116), (5, .int 0), (6, .int 0)]) hx hb dX11_spelt_55 hl (by decide) rfl (fun ls hl => ?_)
  refine lv_iload hx hb dX11_spelt_57 (lv_at hl 5 rfl) ?_
  refine lv_if_le (tgt := 78) hx hb dX11_spelt_59 (by decide) (fun c9 => absurd c9 (by decide)) (fun _ => ?_)
  refine lv_ldc2 hx hb hown (hts _ t1610) dX11_spelt_62 ?_
  refine lv_lload hx hb dX11_spelt_65 (lv_at hl 0 rfl) ?_
  refine lv_lmul hx hb dX11_spelt_67 ?_
  refine as_l 3215268 (by decide) ?_
  refine lv_iload hx hb dX11_spelt_68 (lv_at hl 5 rfl) ?_
  refine lv_i2l (v := 116) hx hb dX11_spelt_70 (by decide) ?_
  refine lv_ladd hx hb dX11_spelt_71 ?_
  refine as_l 3215384 (by decide) ?_
  refine lv_ldc2 hx hb hown (hts _ t1611) dX11_spelt_72 ?_
  refine lv_lsub hx hb dX11_spelt_75 ?_
  refine as_l 3215288 (by decide) ?_
  refine lv_lstore (lv' := [(7, .long 3215288), (0, .int 102), (1, .int 97), (2, .int 105), (3, .int 110), (4, .int 116), (5, .int 0), (6, .int 0)]) hx hb dX11_spelt_76 hl (by decide) rfl (fun ls hl => ?_)
  refine lv_iload hx hb dX11_spelt_78 (lv_at hl 6 rfl) ?_
  refine lv_if_le (tgt := 99) hx hb dX11_spelt_80 (by decide) (fun _ => ?_) (fun c9 => absurd (by decide) c9)
  refine lv_iload hx hb dX11_spelt_99 (lv_at hl 7 rfl) ?_
  refine lv_if_le (tgt := 120) hx hb dX11_spelt_101 (by decide) (fun _ => ?_) (fun c9 => absurd (by decide) c9)
  refine lv_lload hx hb dX11_spelt_120 (lv_at hl 0 rfl) ?_
  rw [hQ9]
  exact rr_l hx hb hr hlocks (show ((3215288 : Int64) : Int64).toInt = 3215288 from (by decide)) hS dX11_spelt_122
abbrev cX11_wordOf : ByteArray := prog_13_method_18_code
def yX11_wordOf : MethodName := ⟨RX11, "wordOf", "(I)J"⟩
theorem t1622 : Cond.code yX11_wordOf cX11_wordOf 1 (some .long) ∈ GW := gw_mem 1736 (by decide +kernel) (by decide +kernel)
theorem dX11_wordOf_0 : decode cX11_wordOf 0 = .ok (.iload_n 0, 1) := by decide +kernel
theorem dX11_wordOf_1 : decode cX11_wordOf 1 = .ok (.tableswitch 553 0 27 #[127, 141, 156, 171, 187, 201, 215, 230, 246, 261, 277, 295, 313, 328, 343, 358, 371, 385, 399, 414, 430, 445, 461, 479, 493, 508, 524, 539], 127) := by decide +kernel
theorem dX11_wordOf_415 : decode cX11_wordOf 415 = .ok (.bipush 102, 2) := by decide +kernel
theorem dX11_wordOf_417 : decode cX11_wordOf 417 = .ok (.bipush 97, 2) := by decide +kernel
theorem dX11_wordOf_419 : decode cX11_wordOf 419 = .ok (.bipush 105, 2) := by decide +kernel
theorem dX11_wordOf_421 : decode cX11_wordOf 421 = .ok (.bipush 110, 2) := by decide +kernel
theorem dX11_wordOf_423 : decode cX11_wordOf 423 = .ok (.bipush 116, 2) := by decide +kernel
theorem dX11_wordOf_425 : decode cX11_wordOf 425 = .ok (.iconst 0, 1) := by decide +kernel
theorem dX11_wordOf_426 : decode cX11_wordOf 426 = .ok (.iconst 0, 1) := by decide +kernel
theorem dX11_wordOf_427 : decode cX11_wordOf 427 = .ok (.invokestatic 58, 3) := by decide +kernel
theorem t1623 : Cond.methodLink RX11 58 yX11_spelt ∈ GW := gw_mem 1737 (by decide +kernel) (by decide +kernel)
theorem t1624 : Cond.static yX11_spelt ∈ GW := gw_mem 1738 (by decide +kernel) (by decide +kernel)
theorem cw_X11_58 {R : Room} {s : State} {args : Array Value} {rm : Room} {mc ms : Nat} (hts : ∀ w ∈ GW, w.before args s = true) (hrc : rm.cells = mc) (hrs : rm.slots = ms) (hR : rm.frames + 1 ≤ R.frames ∧ 8 + (9 + 11) + rm.locals ≤ R.locals) : CallB R s args RX11 58 yX11_spelt cX11_spelt 9 (some .long) (wl yX11_spelt cX11_spelt 9 (some .long)) rm mc ms 7 ∧ (Cond.static yX11_spelt).before args s = true := va_cwS 7 hts (gi_S t1623 t1624 t18 t1625) rfl hrc hrs (by decide +kernel) hR
theorem dX11_wordOf_430 : decode cX11_wordOf 430 = .ok (.lreturn, 1) := by decide +kernel
set_option maxHeartbeats 4000000 in
set_option maxRecDepth 100000 in
theorem m_wordOf_19 (l : Launch) (dC : Nat → ClassId) (dI : Nat → Nat → Nat) (cy : Nat → ClassId)   : Met l yX11_wordOf (wl yX11_wordOf cX11_wordOf 1 (some .long)) ({ frames := 1, cells := 0, slots := 0, locals := 64 }) (Pr (dC, dI) vwCl cy [] [.int 19]) (Rl (fun r => ((r : Int64).toInt = 3215288))) 0 0 (fun _ => False) := by
  refine mr RX11 rfl (by decide +kernel) (Nat.le_of_ble_eq_true rfl) ?_
  intro p e s m below meth c hx hb hr hlocks av9 hav hts hown hml hK hP hS Q9 hQ9 ls hl
  have hl : lv_has ls 1 [(0, .int 19)] := hl
  refine lv_iload_n hx hb dX11_wordOf_0 rfl (lv_at hl 0 rfl) ?_
  refine lv_tableIn (off := 414) (tgt := 415) hx hb dX11_wordOf_1 (by decide) (by decide) (by decide) (by decide) ?_
  refine lv_bipush (v := 102) hx hb dX11_wordOf_415 (by decide) ?_
  refine lv_bipush (v := 97) hx hb dX11_wordOf_417 (by decide) ?_
  refine lv_bipush (v := 105) hx hb dX11_wordOf_419 (by decide) ?_
  refine lv_bipush (v := 110) hx hb dX11_wordOf_421 (by decide) ?_
  refine lv_bipush (v := 116) hx hb dX11_wordOf_423 (by decide) ?_
  refine lv_iconst (v := 0) hx hb dX11_wordOf_425 (by decide) ?_
  refine lv_iconst (v := 0) hx hb dX11_wordOf_426 (by decide) ?_
  refine jr_l (rSr (As := [.int 102, .int 97, .int 105, .int 110, .int 116, .int 0, .int 0]) (rest := []) ⟨hx, hb, hml, hown, hts⟩ (m_spelt_faint l dC dI cy  ) (cw_X11_58 hts rfl rfl ⟨Nat.le_of_ble_eq_true rfl, Nat.le_of_ble_eq_true rfl⟩) hP hK [] rfl rfl hl.1 rfl (Nat.le_of_ble_eq_true rfl) dX11_wordOf_427 ⟨Nat.le_of_ble_eq_true rfl, Nat.le_of_ble_eq_true rfl⟩) hP hS (fun r_1 H locs hp_2 hP hS => ?_)
  have hp_2 : ((r_1 : Int64).toInt = 3215288) := hp_2
  have q_3 := hp_2
  rw [hQ9]
  exact rr_l hx hb hr hlocks (show (r_1 : Int64).toInt = 3215288 from q_3) hS dX11_wordOf_430
theorem dX11_wordOf_509 : decode cX11_wordOf 509 = .ok (.bipush 119, 2) := by decide +kernel
theorem dX11_wordOf_511 : decode cX11_wordOf 511 = .ok (.bipush 104, 2) := by decide +kernel
theorem dX11_wordOf_513 : decode cX11_wordOf 513 = .ok (.bipush 105, 2) := by decide +kernel
theorem dX11_wordOf_515 : decode cX11_wordOf 515 = .ok (.bipush 116, 2) := by decide +kernel
theorem dX11_wordOf_517 : decode cX11_wordOf 517 = .ok (.bipush 101, 2) := by decide +kernel
theorem dX11_wordOf_519 : decode cX11_wordOf 519 = .ok (.iconst 0, 1) := by decide +kernel
theorem dX11_wordOf_520 : decode cX11_wordOf 520 = .ok (.iconst 0, 1) := by decide +kernel
theorem dX11_wordOf_521 : decode cX11_wordOf 521 = .ok (.invokestatic 58, 3) := by decide +kernel
theorem dX11_wordOf_524 : decode cX11_wordOf 524 = .ok (.lreturn, 1) := by decide +kernel
set_option maxHeartbeats 4000000 in
set_option maxRecDepth 100000 in
theorem m_wordOf_25 (l : Launch) (dC : Nat → ClassId) (dI : Nat → Nat → Nat) (cy : Nat → ClassId)   : Met l yX11_wordOf (wl yX11_wordOf cX11_wordOf 1 (some .long)) ({ frames := 1, cells := 0, slots := 0, locals := 64 }) (Pr (dC, dI) vwCl cy [] [.int 25]) (Rl (fun r => ((r : Int64).toInt = 12387713))) 0 0 (fun _ => False) := by
  refine mr RX11 rfl (by decide +kernel) (Nat.le_of_ble_eq_true rfl) ?_
  intro p e s m below meth c hx hb hr hlocks av9 hav hts hown hml hK hP hS Q9 hQ9 ls hl
  have hl : lv_has ls 1 [(0, .int 25)] := hl
  refine lv_iload_n hx hb dX11_wordOf_0 rfl (lv_at hl 0 rfl) ?_
  refine lv_tableIn (off := 508) (tgt := 509) hx hb dX11_wordOf_1 (by decide) (by decide) (by decide) (by decide) ?_
  refine lv_bipush (v := 119) hx hb dX11_wordOf_509 (by decide) ?_
  refine lv_bipush (v := 104) hx hb dX11_wordOf_511 (by decide) ?_
  refine lv_bipush (v := 105) hx hb dX11_wordOf_513 (by decide) ?_
  refine lv_bipush (v := 116) hx hb dX11_wordOf_515 (by decide) ?_
  refine lv_bipush (v := 101) hx hb dX11_wordOf_517 (by decide) ?_
  refine lv_iconst (v := 0) hx hb dX11_wordOf_519 (by decide) ?_
  refine lv_iconst (v := 0) hx hb dX11_wordOf_520 (by decide) ?_
  refine jr_l (rSr (As := [.int 119, .int 104, .int 105, .int 116, .int 101, .int 0, .int 0]) (rest := []) ⟨hx, hb, hml, hown, hts⟩ (m_spelt_white l dC dI cy  ) (cw_X11_58 hts rfl rfl ⟨Nat.le_of_ble_eq_true rfl, Nat.le_of_ble_eq_true rfl⟩) hP hK [] rfl rfl hl.1 rfl (Nat.le_of_ble_eq_true rfl) dX11_wordOf_521 ⟨Nat.le_of_ble_eq_true rfl, Nat.le_of_ble_eq_true rfl⟩) hP hS (fun r_1 H locs hp_2 hP hS => ?_)
  have hp_2 : ((r_1 : Int64).toInt = 12387713) := hp_2
  have q_3 := hp_2
  rw [hQ9]
  exact rr_l hx hb hr hlocks (show (r_1 : Int64).toInt = 12387713 from q_3) hS dX11_wordOf_524
theorem dX11_wordOf_525 : decode cX11_wordOf 525 = .ok (.bipush 100, 2) := by decide +kernel
theorem dX11_wordOf_527 : decode cX11_wordOf 527 = .ok (.bipush 97, 2) := by decide +kernel
theorem dX11_wordOf_529 : decode cX11_wordOf 529 = .ok (.bipush 114, 2) := by decide +kernel
theorem dX11_wordOf_531 : decode cX11_wordOf 531 = .ok (.bipush 107, 2) := by decide +kernel
theorem dX11_wordOf_533 : decode cX11_wordOf 533 = .ok (.iconst 0, 1) := by decide +kernel
theorem dX11_wordOf_534 : decode cX11_wordOf 534 = .ok (.iconst 0, 1) := by decide +kernel
theorem dX11_wordOf_535 : decode cX11_wordOf 535 = .ok (.iconst 0, 1) := by decide +kernel
theorem dX11_wordOf_536 : decode cX11_wordOf 536 = .ok (.invokestatic 58, 3) := by decide +kernel
theorem dX11_wordOf_539 : decode cX11_wordOf 539 = .ok (.lreturn, 1) := by decide +kernel
set_option maxHeartbeats 4000000 in
set_option maxRecDepth 100000 in
theorem m_wordOf_26 (l : Launch) (dC : Nat → ClassId) (dI : Nat → Nat → Nat) (cy : Nat → ClassId)   : Met l yX11_wordOf (wl yX11_wordOf cX11_wordOf 1 (some .long)) ({ frames := 1, cells := 0, slots := 0, locals := 64 }) (Pr (dC, dI) vwCl cy [] [.int 26]) (Rl (fun r => ((r : Int64).toInt = 79958))) 0 0 (fun _ => False) := by
  refine mr RX11 rfl (by decide +kernel) (Nat.le_of_ble_eq_true rfl) ?_
  intro p e s m below meth c hx hb hr hlocks av9 hav hts hown hml hK hP hS Q9 hQ9 ls hl
  have hl : lv_has ls 1 [(0, .int 26)] := hl
  refine lv_iload_n hx hb dX11_wordOf_0 rfl (lv_at hl 0 rfl) ?_
  refine lv_tableIn (off := 524) (tgt := 525) hx hb dX11_wordOf_1 (by decide) (by decide) (by decide) (by decide) ?_
  refine lv_bipush (v := 100) hx hb dX11_wordOf_525 (by decide) ?_
  refine lv_bipush (v := 97) hx hb dX11_wordOf_527 (by decide) ?_
  refine lv_bipush (v := 114) hx hb dX11_wordOf_529 (by decide) ?_
  refine lv_bipush (v := 107) hx hb dX11_wordOf_531 (by decide) ?_
  refine lv_iconst (v := 0) hx hb dX11_wordOf_533 (by decide) ?_
  refine lv_iconst (v := 0) hx hb dX11_wordOf_534 (by decide) ?_
  refine lv_iconst (v := 0) hx hb dX11_wordOf_535 (by decide) ?_
  refine jr_l (rSr (As := [.int 100, .int 97, .int 114, .int 107, .int 0, .int 0, .int 0]) (rest := []) ⟨hx, hb, hml, hown, hts⟩ (m_spelt_dark l dC dI cy  ) (cw_X11_58 hts rfl rfl ⟨Nat.le_of_ble_eq_true rfl, Nat.le_of_ble_eq_true rfl⟩) hP hK [] rfl rfl hl.1 rfl (Nat.le_of_ble_eq_true rfl) dX11_wordOf_536 ⟨Nat.le_of_ble_eq_true rfl, Nat.le_of_ble_eq_true rfl⟩) hP hS (fun r_1 H locs hp_2 hP hS => ?_)
  have hp_2 : ((r_1 : Int64).toInt = 79958) := hp_2
  have q_3 := hp_2
  rw [hQ9]
  exact rr_l hx hb hr hlocks (show (r_1 : Int64).toInt = 79958 from q_3) hS dX11_wordOf_539
theorem dX11_spelt_104 : decode cX11_spelt 104 = .ok (.ldc2_w 54, 3) := by decide +kernel
theorem dX11_spelt_107 : decode cX11_spelt 107 = .ok (.lload 7, 2) := by decide +kernel
theorem dX11_spelt_109 : decode cX11_spelt 109 = .ok (.lmul, 1) := by decide +kernel
theorem dX11_spelt_110 : decode cX11_spelt 110 = .ok (.iload 6, 2) := by decide +kernel
theorem dX11_spelt_112 : decode cX11_spelt 112 = .ok (.i2l, 1) := by decide +kernel
theorem dX11_spelt_113 : decode cX11_spelt 113 = .ok (.ladd, 1) := by decide +kernel
theorem dX11_spelt_114 : decode cX11_spelt 114 = .ok (.ldc2_w 56, 3) := by decide +kernel
theorem dX11_spelt_117 : decode cX11_spelt 117 = .ok (.lsub, 1) := by decide +kernel
theorem dX11_spelt_118 : decode cX11_spelt 118 = .ok (.lstore 7, 2) := by decide +kernel
theorem dX11_spelt_83 : decode cX11_spelt 83 = .ok (.ldc2_w 54, 3) := by decide +kernel
theorem dX11_spelt_86 : decode cX11_spelt 86 = .ok (.lload 7, 2) := by decide +kernel
theorem dX11_spelt_88 : decode cX11_spelt 88 = .ok (.lmul, 1) := by decide +kernel
theorem dX11_spelt_89 : decode cX11_spelt 89 = .ok (.iload 5, 2) := by decide +kernel
theorem dX11_spelt_91 : decode cX11_spelt 91 = .ok (.i2l, 1) := by decide +kernel
theorem dX11_spelt_92 : decode cX11_spelt 92 = .ok (.ladd, 1) := by decide +kernel
theorem dX11_spelt_93 : decode cX11_spelt 93 = .ok (.ldc2_w 56, 3) := by decide +kernel
theorem dX11_spelt_96 : decode cX11_spelt 96 = .ok (.lsub, 1) := by decide +kernel
theorem dX11_spelt_97 : decode cX11_spelt 97 = .ok (.lstore 7, 2) := by decide +kernel
theorem dX11_wordOf_128 : decode cX11_wordOf 128 = .ok (.bipush 109, 2) := by decide +kernel
theorem dX11_wordOf_130 : decode cX11_wordOf 130 = .ok (.bipush 97, 2) := by decide +kernel
theorem dX11_wordOf_132 : decode cX11_wordOf 132 = .ok (.bipush 110, 2) := by decide +kernel
theorem dX11_wordOf_134 : decode cX11_wordOf 134 = .ok (.iconst 0, 1) := by decide +kernel
theorem dX11_wordOf_135 : decode cX11_wordOf 135 = .ok (.iconst 0, 1) := by decide +kernel
theorem dX11_wordOf_136 : decode cX11_wordOf 136 = .ok (.iconst 0, 1) := by decide +kernel
theorem dX11_wordOf_137 : decode cX11_wordOf 137 = .ok (.iconst 0, 1) := by decide +kernel
theorem dX11_wordOf_138 : decode cX11_wordOf 138 = .ok (.invokestatic 58, 3) := by decide +kernel
theorem dX11_wordOf_141 : decode cX11_wordOf 141 = .ok (.lreturn, 1) := by decide +kernel
theorem dX11_wordOf_142 : decode cX11_wordOf 142 = .ok (.bipush 100, 2) := by decide +kernel
theorem dX11_wordOf_144 : decode cX11_wordOf 144 = .ok (.bipush 101, 2) := by decide +kernel
theorem dX11_wordOf_146 : decode cX11_wordOf 146 = .ok (.bipush 101, 2) := by decide +kernel
theorem dX11_wordOf_148 : decode cX11_wordOf 148 = .ok (.bipush 100, 2) := by decide +kernel
theorem dX11_wordOf_150 : decode cX11_wordOf 150 = .ok (.iconst 0, 1) := by decide +kernel
theorem dX11_wordOf_151 : decode cX11_wordOf 151 = .ok (.iconst 0, 1) := by decide +kernel
theorem dX11_wordOf_152 : decode cX11_wordOf 152 = .ok (.iconst 0, 1) := by decide +kernel
theorem dX11_wordOf_153 : decode cX11_wordOf 153 = .ok (.invokestatic 58, 3) := by decide +kernel
theorem dX11_wordOf_156 : decode cX11_wordOf 156 = .ok (.lreturn, 1) := by decide +kernel
theorem dX11_wordOf_157 : decode cX11_wordOf 157 = .ok (.bipush 103, 2) := by decide +kernel
theorem dX11_wordOf_159 : decode cX11_wordOf 159 = .ok (.bipush 111, 2) := by decide +kernel
theorem dX11_wordOf_161 : decode cX11_wordOf 161 = .ok (.bipush 111, 2) := by decide +kernel
theorem dX11_wordOf_163 : decode cX11_wordOf 163 = .ok (.bipush 100, 2) := by decide +kernel
theorem dX11_wordOf_165 : decode cX11_wordOf 165 = .ok (.iconst 0, 1) := by decide +kernel
theorem dX11_wordOf_166 : decode cX11_wordOf 166 = .ok (.iconst 0, 1) := by decide +kernel
theorem dX11_wordOf_167 : decode cX11_wordOf 167 = .ok (.iconst 0, 1) := by decide +kernel
theorem dX11_wordOf_168 : decode cX11_wordOf 168 = .ok (.invokestatic 58, 3) := by decide +kernel
theorem dX11_wordOf_171 : decode cX11_wordOf 171 = .ok (.lreturn, 1) := by decide +kernel
theorem dX11_wordOf_172 : decode cX11_wordOf 172 = .ok (.bipush 99, 2) := by decide +kernel
theorem dX11_wordOf_174 : decode cX11_wordOf 174 = .ok (.bipush 114, 2) := by decide +kernel
theorem dX11_wordOf_176 : decode cX11_wordOf 176 = .ok (.bipush 105, 2) := by decide +kernel
theorem dX11_wordOf_178 : decode cX11_wordOf 178 = .ok (.bipush 109, 2) := by decide +kernel
theorem dX11_wordOf_180 : decode cX11_wordOf 180 = .ok (.bipush 101, 2) := by decide +kernel
theorem dX11_wordOf_182 : decode cX11_wordOf 182 = .ok (.iconst 0, 1) := by decide +kernel
theorem dX11_wordOf_183 : decode cX11_wordOf 183 = .ok (.iconst 0, 1) := by decide +kernel
theorem dX11_wordOf_184 : decode cX11_wordOf 184 = .ok (.invokestatic 58, 3) := by decide +kernel
theorem dX11_wordOf_187 : decode cX11_wordOf 187 = .ok (.lreturn, 1) := by decide +kernel
theorem dX11_wordOf_188 : decode cX11_wordOf 188 = .ok (.bipush 100, 2) := by decide +kernel
theorem dX11_wordOf_190 : decode cX11_wordOf 190 = .ok (.bipush 105, 2) := by decide +kernel
theorem dX11_wordOf_192 : decode cX11_wordOf 192 = .ok (.bipush 100, 2) := by decide +kernel
theorem dX11_wordOf_194 : decode cX11_wordOf 194 = .ok (.iconst 0, 1) := by decide +kernel
theorem dX11_wordOf_195 : decode cX11_wordOf 195 = .ok (.iconst 0, 1) := by decide +kernel
theorem dX11_wordOf_196 : decode cX11_wordOf 196 = .ok (.iconst 0, 1) := by decide +kernel
theorem dX11_wordOf_197 : decode cX11_wordOf 197 = .ok (.iconst 0, 1) := by decide +kernel
theorem dX11_wordOf_198 : decode cX11_wordOf 198 = .ok (.invokestatic 58, 3) := by decide +kernel
theorem dX11_wordOf_201 : decode cX11_wordOf 201 = .ok (.lreturn, 1) := by decide +kernel
theorem dX11_wordOf_202 : decode cX11_wordOf 202 = .ok (.bipush 107, 2) := by decide +kernel
theorem dX11_wordOf_204 : decode cX11_wordOf 204 = .ok (.bipush 105, 2) := by decide +kernel
theorem dX11_wordOf_206 : decode cX11_wordOf 206 = .ok (.bipush 110, 2) := by decide +kernel
theorem dX11_wordOf_208 : decode cX11_wordOf 208 = .ok (.iconst 0, 1) := by decide +kernel
theorem dX11_wordOf_209 : decode cX11_wordOf 209 = .ok (.iconst 0, 1) := by decide +kernel
theorem dX11_wordOf_210 : decode cX11_wordOf 210 = .ok (.iconst 0, 1) := by decide +kernel
theorem dX11_wordOf_211 : decode cX11_wordOf 211 = .ok (.iconst 0, 1) := by decide +kernel
theorem dX11_wordOf_212 : decode cX11_wordOf 212 = .ok (.invokestatic 58, 3) := by decide +kernel
theorem dX11_wordOf_215 : decode cX11_wordOf 215 = .ok (.lreturn, 1) := by decide +kernel
theorem dX11_wordOf_216 : decode cX11_wordOf 216 = .ok (.bipush 111, 2) := by decide +kernel
theorem dX11_wordOf_218 : decode cX11_wordOf 218 = .ok (.bipush 119, 2) := by decide +kernel
theorem dX11_wordOf_220 : decode cX11_wordOf 220 = .ok (.bipush 101, 2) := by decide +kernel
theorem dX11_wordOf_222 : decode cX11_wordOf 222 = .ok (.bipush 115, 2) := by decide +kernel
theorem dX11_wordOf_224 : decode cX11_wordOf 224 = .ok (.iconst 0, 1) := by decide +kernel
theorem dX11_wordOf_225 : decode cX11_wordOf 225 = .ok (.iconst 0, 1) := by decide +kernel
theorem dX11_wordOf_226 : decode cX11_wordOf 226 = .ok (.iconst 0, 1) := by decide +kernel
theorem dX11_wordOf_227 : decode cX11_wordOf 227 = .ok (.invokestatic 58, 3) := by decide +kernel
theorem dX11_wordOf_230 : decode cX11_wordOf 230 = .ok (.lreturn, 1) := by decide +kernel
theorem dX11_wordOf_231 : decode cX11_wordOf 231 = .ok (.bipush 112, 2) := by decide +kernel
theorem dX11_wordOf_233 : decode cX11_wordOf 233 = .ok (.bipush 108, 2) := by decide +kernel
theorem dX11_wordOf_235 : decode cX11_wordOf 235 = .ok (.bipush 97, 2) := by decide +kernel
theorem dX11_wordOf_237 : decode cX11_wordOf 237 = .ok (.bipush 116, 2) := by decide +kernel
theorem dX11_wordOf_239 : decode cX11_wordOf 239 = .ok (.bipush 101, 2) := by decide +kernel
theorem dX11_wordOf_241 : decode cX11_wordOf 241 = .ok (.iconst 0, 1) := by decide +kernel
theorem dX11_wordOf_242 : decode cX11_wordOf 242 = .ok (.iconst 0, 1) := by decide +kernel
theorem dX11_wordOf_243 : decode cX11_wordOf 243 = .ok (.invokestatic 58, 3) := by decide +kernel
theorem dX11_wordOf_246 : decode cX11_wordOf 246 = .ok (.lreturn, 1) := by decide +kernel
theorem dX11_wordOf_247 : decode cX11_wordOf 247 = .ok (.bipush 100, 2) := by decide +kernel
theorem dX11_wordOf_249 : decode cX11_wordOf 249 = .ok (.bipush 111, 2) := by decide +kernel
theorem dX11_wordOf_251 : decode cX11_wordOf 251 = .ok (.bipush 101, 2) := by decide +kernel
theorem dX11_wordOf_253 : decode cX11_wordOf 253 = .ok (.bipush 115, 2) := by decide +kernel
theorem dX11_wordOf_255 : decode cX11_wordOf 255 = .ok (.iconst 0, 1) := by decide +kernel
theorem dX11_wordOf_256 : decode cX11_wordOf 256 = .ok (.iconst 0, 1) := by decide +kernel
theorem dX11_wordOf_257 : decode cX11_wordOf 257 = .ok (.iconst 0, 1) := by decide +kernel
theorem dX11_wordOf_258 : decode cX11_wordOf 258 = .ok (.invokestatic 58, 3) := by decide +kernel
theorem dX11_wordOf_261 : decode cX11_wordOf 261 = .ok (.lreturn, 1) := by decide +kernel
theorem dX11_wordOf_262 : decode cX11_wordOf 262 = .ok (.bipush 108, 2) := by decide +kernel
theorem dX11_wordOf_264 : decode cX11_wordOf 264 = .ok (.bipush 101, 2) := by decide +kernel
theorem dX11_wordOf_266 : decode cX11_wordOf 266 = .ok (.bipush 110, 2) := by decide +kernel
theorem dX11_wordOf_268 : decode cX11_wordOf 268 = .ok (.bipush 100, 2) := by decide +kernel
theorem dX11_wordOf_270 : decode cX11_wordOf 270 = .ok (.bipush 115, 2) := by decide +kernel
theorem dX11_wordOf_272 : decode cX11_wordOf 272 = .ok (.iconst 0, 1) := by decide +kernel
theorem dX11_wordOf_273 : decode cX11_wordOf 273 = .ok (.iconst 0, 1) := by decide +kernel
theorem dX11_wordOf_274 : decode cX11_wordOf 274 = .ok (.invokestatic 58, 3) := by decide +kernel
theorem dX11_wordOf_277 : decode cX11_wordOf 277 = .ok (.lreturn, 1) := by decide +kernel
theorem dX11_wordOf_278 : decode cX11_wordOf 278 = .ok (.bipush 114, 2) := by decide +kernel
theorem dX11_wordOf_280 : decode cX11_wordOf 280 = .ok (.bipush 101, 2) := by decide +kernel
theorem dX11_wordOf_282 : decode cX11_wordOf 282 = .ok (.bipush 116, 2) := by decide +kernel
theorem dX11_wordOf_284 : decode cX11_wordOf 284 = .ok (.bipush 117, 2) := by decide +kernel
theorem dX11_wordOf_286 : decode cX11_wordOf 286 = .ok (.bipush 114, 2) := by decide +kernel
theorem dX11_wordOf_288 : decode cX11_wordOf 288 = .ok (.bipush 110, 2) := by decide +kernel
theorem dX11_wordOf_290 : decode cX11_wordOf 290 = .ok (.bipush 115, 2) := by decide +kernel
theorem dX11_wordOf_292 : decode cX11_wordOf 292 = .ok (.invokestatic 58, 3) := by decide +kernel
theorem dX11_wordOf_295 : decode cX11_wordOf 295 = .ok (.lreturn, 1) := by decide +kernel
theorem dX11_wordOf_296 : decode cX11_wordOf 296 = .ok (.bipush 98, 2) := by decide +kernel
theorem dX11_wordOf_298 : decode cX11_wordOf 298 = .ok (.bipush 111, 2) := by decide +kernel
theorem dX11_wordOf_300 : decode cX11_wordOf 300 = .ok (.bipush 114, 2) := by decide +kernel
theorem dX11_wordOf_302 : decode cX11_wordOf 302 = .ok (.bipush 114, 2) := by decide +kernel
theorem dX11_wordOf_304 : decode cX11_wordOf 304 = .ok (.bipush 111, 2) := by decide +kernel
theorem dX11_wordOf_306 : decode cX11_wordOf 306 = .ok (.bipush 119, 2) := by decide +kernel
theorem dX11_wordOf_308 : decode cX11_wordOf 308 = .ok (.bipush 115, 2) := by decide +kernel
theorem dX11_wordOf_310 : decode cX11_wordOf 310 = .ok (.invokestatic 58, 3) := by decide +kernel
theorem dX11_wordOf_313 : decode cX11_wordOf 313 = .ok (.lreturn, 1) := by decide +kernel
theorem dX11_wordOf_314 : decode cX11_wordOf 314 = .ok (.bipush 112, 2) := by decide +kernel
theorem dX11_wordOf_316 : decode cX11_wordOf 316 = .ok (.bipush 97, 2) := by decide +kernel
theorem dX11_wordOf_318 : decode cX11_wordOf 318 = .ok (.bipush 121, 2) := by decide +kernel
theorem dX11_wordOf_320 : decode cX11_wordOf 320 = .ok (.bipush 115, 2) := by decide +kernel
theorem dX11_wordOf_322 : decode cX11_wordOf 322 = .ok (.iconst 0, 1) := by decide +kernel
theorem dX11_wordOf_323 : decode cX11_wordOf 323 = .ok (.iconst 0, 1) := by decide +kernel
theorem dX11_wordOf_324 : decode cX11_wordOf 324 = .ok (.iconst 0, 1) := by decide +kernel
theorem dX11_wordOf_325 : decode cX11_wordOf 325 = .ok (.invokestatic 58, 3) := by decide +kernel
theorem dX11_wordOf_328 : decode cX11_wordOf 328 = .ok (.lreturn, 1) := by decide +kernel
theorem dX11_wordOf_329 : decode cX11_wordOf 329 = .ok (.bipush 115, 2) := by decide +kernel
theorem dX11_wordOf_331 : decode cX11_wordOf 331 = .ok (.bipush 105, 2) := by decide +kernel
theorem dX11_wordOf_333 : decode cX11_wordOf 333 = .ok (.bipush 116, 2) := by decide +kernel
theorem dX11_wordOf_335 : decode cX11_wordOf 335 = .ok (.bipush 115, 2) := by decide +kernel
theorem dX11_wordOf_337 : decode cX11_wordOf 337 = .ok (.iconst 0, 1) := by decide +kernel
theorem dX11_wordOf_338 : decode cX11_wordOf 338 = .ok (.iconst 0, 1) := by decide +kernel
theorem dX11_wordOf_339 : decode cX11_wordOf 339 = .ok (.iconst 0, 1) := by decide +kernel
theorem dX11_wordOf_340 : decode cX11_wordOf 340 = .ok (.invokestatic 58, 3) := by decide +kernel
theorem dX11_wordOf_343 : decode cX11_wordOf 343 = .ok (.lreturn, 1) := by decide +kernel
theorem dX11_wordOf_344 : decode cX11_wordOf 344 = .ok (.bipush 121, 2) := by decide +kernel
theorem dX11_wordOf_346 : decode cX11_wordOf 346 = .ok (.bipush 101, 2) := by decide +kernel
theorem dX11_wordOf_348 : decode cX11_wordOf 348 = .ok (.bipush 97, 2) := by decide +kernel
theorem dX11_wordOf_350 : decode cX11_wordOf 350 = .ok (.bipush 114, 2) := by decide +kernel
theorem dX11_wordOf_352 : decode cX11_wordOf 352 = .ok (.iconst 0, 1) := by decide +kernel
theorem dX11_wordOf_353 : decode cX11_wordOf 353 = .ok (.iconst 0, 1) := by decide +kernel
theorem dX11_wordOf_354 : decode cX11_wordOf 354 = .ok (.iconst 0, 1) := by decide +kernel
theorem dX11_wordOf_355 : decode cX11_wordOf 355 = .ok (.invokestatic 58, 3) := by decide +kernel
theorem dX11_wordOf_358 : decode cX11_wordOf 358 = .ok (.lreturn, 1) := by decide +kernel
theorem dX11_wordOf_359 : decode cX11_wordOf 359 = .ok (.bipush 111, 2) := by decide +kernel
theorem dX11_wordOf_361 : decode cX11_wordOf 361 = .ok (.bipush 114, 2) := by decide +kernel
theorem dX11_wordOf_363 : decode cX11_wordOf 363 = .ok (.iconst 0, 1) := by decide +kernel
theorem dX11_wordOf_364 : decode cX11_wordOf 364 = .ok (.iconst 0, 1) := by decide +kernel
theorem dX11_wordOf_365 : decode cX11_wordOf 365 = .ok (.iconst 0, 1) := by decide +kernel
theorem dX11_wordOf_366 : decode cX11_wordOf 366 = .ok (.iconst 0, 1) := by decide +kernel
theorem dX11_wordOf_367 : decode cX11_wordOf 367 = .ok (.iconst 0, 1) := by decide +kernel
theorem dX11_wordOf_368 : decode cX11_wordOf 368 = .ok (.invokestatic 58, 3) := by decide +kernel
theorem dX11_wordOf_371 : decode cX11_wordOf 371 = .ok (.lreturn, 1) := by decide +kernel
theorem dX11_wordOf_372 : decode cX11_wordOf 372 = .ok (.bipush 97, 2) := by decide +kernel
theorem dX11_wordOf_374 : decode cX11_wordOf 374 = .ok (.bipush 110, 2) := by decide +kernel
theorem dX11_wordOf_376 : decode cX11_wordOf 376 = .ok (.bipush 100, 2) := by decide +kernel
theorem dX11_wordOf_378 : decode cX11_wordOf 378 = .ok (.iconst 0, 1) := by decide +kernel
theorem dX11_wordOf_379 : decode cX11_wordOf 379 = .ok (.iconst 0, 1) := by decide +kernel
theorem dX11_wordOf_380 : decode cX11_wordOf 380 = .ok (.iconst 0, 1) := by decide +kernel
theorem dX11_wordOf_381 : decode cX11_wordOf 381 = .ok (.iconst 0, 1) := by decide +kernel
theorem dX11_wordOf_382 : decode cX11_wordOf 382 = .ok (.invokestatic 58, 3) := by decide +kernel
theorem dX11_wordOf_385 : decode cX11_wordOf 385 = .ok (.lreturn, 1) := by decide +kernel
theorem dX11_wordOf_386 : decode cX11_wordOf 386 = .ok (.bipush 110, 2) := by decide +kernel
theorem dX11_wordOf_388 : decode cX11_wordOf 388 = .ok (.bipush 111, 2) := by decide +kernel
theorem dX11_wordOf_390 : decode cX11_wordOf 390 = .ok (.bipush 116, 2) := by decide +kernel
theorem dX11_wordOf_392 : decode cX11_wordOf 392 = .ok (.iconst 0, 1) := by decide +kernel
theorem dX11_wordOf_393 : decode cX11_wordOf 393 = .ok (.iconst 0, 1) := by decide +kernel
theorem dX11_wordOf_394 : decode cX11_wordOf 394 = .ok (.iconst 0, 1) := by decide +kernel
theorem dX11_wordOf_395 : decode cX11_wordOf 395 = .ok (.iconst 0, 1) := by decide +kernel
theorem dX11_wordOf_396 : decode cX11_wordOf 396 = .ok (.invokestatic 58, 3) := by decide +kernel
theorem dX11_wordOf_399 : decode cX11_wordOf 399 = .ok (.lreturn, 1) := by decide +kernel
theorem dX11_wordOf_400 : decode cX11_wordOf 400 = .ok (.bipush 115, 2) := by decide +kernel
theorem dX11_wordOf_402 : decode cX11_wordOf 402 = .ok (.bipush 101, 2) := by decide +kernel
theorem dX11_wordOf_404 : decode cX11_wordOf 404 = .ok (.bipush 101, 2) := by decide +kernel
theorem dX11_wordOf_406 : decode cX11_wordOf 406 = .ok (.bipush 110, 2) := by decide +kernel
theorem dX11_wordOf_408 : decode cX11_wordOf 408 = .ok (.iconst 0, 1) := by decide +kernel
theorem dX11_wordOf_409 : decode cX11_wordOf 409 = .ok (.iconst 0, 1) := by decide +kernel
theorem dX11_wordOf_410 : decode cX11_wordOf 410 = .ok (.iconst 0, 1) := by decide +kernel
theorem dX11_wordOf_411 : decode cX11_wordOf 411 = .ok (.invokestatic 58, 3) := by decide +kernel
theorem dX11_wordOf_414 : decode cX11_wordOf 414 = .ok (.lreturn, 1) := by decide +kernel
theorem dX11_wordOf_431 : decode cX11_wordOf 431 = .ok (.bipush 102, 2) := by decide +kernel
theorem dX11_wordOf_433 : decode cX11_wordOf 433 = .ok (.bipush 117, 2) := by decide +kernel
theorem dX11_wordOf_435 : decode cX11_wordOf 435 = .ok (.bipush 108, 2) := by decide +kernel
theorem dX11_wordOf_437 : decode cX11_wordOf 437 = .ok (.bipush 108, 2) := by decide +kernel
theorem dX11_wordOf_439 : decode cX11_wordOf 439 = .ok (.iconst 0, 1) := by decide +kernel
theorem dX11_wordOf_440 : decode cX11_wordOf 440 = .ok (.iconst 0, 1) := by decide +kernel
theorem dX11_wordOf_441 : decode cX11_wordOf 441 = .ok (.iconst 0, 1) := by decide +kernel
theorem dX11_wordOf_442 : decode cX11_wordOf 442 = .ok (.invokestatic 58, 3) := by decide +kernel
theorem dX11_wordOf_445 : decode cX11_wordOf 445 = .ok (.lreturn, 1) := by decide +kernel
theorem dX11_wordOf_446 : decode cX11_wordOf 446 = .ok (.bipush 116, 2) := by decide +kernel
theorem dX11_wordOf_448 : decode cX11_wordOf 448 = .ok (.bipush 97, 2) := by decide +kernel
theorem dX11_wordOf_450 : decode cX11_wordOf 450 = .ok (.bipush 107, 2) := by decide +kernel
theorem dX11_wordOf_452 : decode cX11_wordOf 452 = .ok (.bipush 101, 2) := by decide +kernel
theorem dX11_wordOf_454 : decode cX11_wordOf 454 = .ok (.bipush 110, 2) := by decide +kernel
theorem dX11_wordOf_456 : decode cX11_wordOf 456 = .ok (.iconst 0, 1) := by decide +kernel
theorem dX11_wordOf_457 : decode cX11_wordOf 457 = .ok (.iconst 0, 1) := by decide +kernel
theorem dX11_wordOf_458 : decode cX11_wordOf 458 = .ok (.invokestatic 58, 3) := by decide +kernel
theorem dX11_wordOf_461 : decode cX11_wordOf 461 = .ok (.lreturn, 1) := by decide +kernel
theorem dX11_wordOf_462 : decode cX11_wordOf 462 = .ok (.bipush 108, 2) := by decide +kernel
theorem dX11_wordOf_464 : decode cX11_wordOf 464 = .ok (.bipush 101, 2) := by decide +kernel
theorem dX11_wordOf_466 : decode cX11_wordOf 466 = .ok (.bipush 110, 2) := by decide +kernel
theorem dX11_wordOf_468 : decode cX11_wordOf 468 = .ok (.bipush 100, 2) := by decide +kernel
theorem dX11_wordOf_470 : decode cX11_wordOf 470 = .ok (.bipush 105, 2) := by decide +kernel
theorem dX11_wordOf_472 : decode cX11_wordOf 472 = .ok (.bipush 110, 2) := by decide +kernel
theorem dX11_wordOf_474 : decode cX11_wordOf 474 = .ok (.bipush 103, 2) := by decide +kernel
theorem dX11_wordOf_476 : decode cX11_wordOf 476 = .ok (.invokestatic 58, 3) := by decide +kernel
theorem dX11_wordOf_479 : decode cX11_wordOf 479 = .ok (.lreturn, 1) := by decide +kernel
theorem dX11_wordOf_480 : decode cX11_wordOf 480 = .ok (.bipush 104, 2) := by decide +kernel
theorem dX11_wordOf_482 : decode cX11_wordOf 482 = .ok (.bipush 97, 2) := by decide +kernel
theorem dX11_wordOf_484 : decode cX11_wordOf 484 = .ok (.bipush 115, 2) := by decide +kernel
theorem dX11_wordOf_486 : decode cX11_wordOf 486 = .ok (.iconst 0, 1) := by decide +kernel
theorem dX11_wordOf_487 : decode cX11_wordOf 487 = .ok (.iconst 0, 1) := by decide +kernel
theorem dX11_wordOf_488 : decode cX11_wordOf 488 = .ok (.iconst 0, 1) := by decide +kernel
theorem dX11_wordOf_489 : decode cX11_wordOf 489 = .ok (.iconst 0, 1) := by decide +kernel
theorem dX11_wordOf_490 : decode cX11_wordOf 490 = .ok (.invokestatic 58, 3) := by decide +kernel
theorem dX11_wordOf_493 : decode cX11_wordOf 493 = .ok (.lreturn, 1) := by decide +kernel
theorem dX11_wordOf_494 : decode cX11_wordOf 494 = .ok (.bipush 97, 2) := by decide +kernel
theorem dX11_wordOf_496 : decode cX11_wordOf 496 = .ok (.bipush 107, 2) := by decide +kernel
theorem dX11_wordOf_498 : decode cX11_wordOf 498 = .ok (.bipush 105, 2) := by decide +kernel
theorem dX11_wordOf_500 : decode cX11_wordOf 500 = .ok (.bipush 110, 2) := by decide +kernel
theorem dX11_wordOf_502 : decode cX11_wordOf 502 = .ok (.iconst 0, 1) := by decide +kernel
theorem dX11_wordOf_503 : decode cX11_wordOf 503 = .ok (.iconst 0, 1) := by decide +kernel
theorem dX11_wordOf_504 : decode cX11_wordOf 504 = .ok (.iconst 0, 1) := by decide +kernel
theorem dX11_wordOf_505 : decode cX11_wordOf 505 = .ok (.invokestatic 58, 3) := by decide +kernel
theorem dX11_wordOf_508 : decode cX11_wordOf 508 = .ok (.lreturn, 1) := by decide +kernel
theorem dX11_wordOf_540 : decode cX11_wordOf 540 = .ok (.bipush 97, 2) := by decide +kernel
theorem dX11_wordOf_542 : decode cX11_wordOf 542 = .ok (.bipush 103, 2) := by decide +kernel
theorem dX11_wordOf_544 : decode cX11_wordOf 544 = .ok (.bipush 101, 2) := by decide +kernel
theorem dX11_wordOf_546 : decode cX11_wordOf 546 = .ok (.iconst 0, 1) := by decide +kernel
theorem dX11_wordOf_547 : decode cX11_wordOf 547 = .ok (.iconst 0, 1) := by decide +kernel
theorem dX11_wordOf_548 : decode cX11_wordOf 548 = .ok (.iconst 0, 1) := by decide +kernel
theorem dX11_wordOf_549 : decode cX11_wordOf 549 = .ok (.iconst 0, 1) := by decide +kernel
theorem dX11_wordOf_550 : decode cX11_wordOf 550 = .ok (.invokestatic 58, 3) := by decide +kernel
theorem dX11_wordOf_553 : decode cX11_wordOf 553 = .ok (.lreturn, 1) := by decide +kernel
theorem dX11_wordOf_554 : decode cX11_wordOf 554 = .ok (.bipush 110, 2) := by decide +kernel
theorem dX11_wordOf_556 : decode cX11_wordOf 556 = .ok (.bipush 117, 2) := by decide +kernel
theorem dX11_wordOf_558 : decode cX11_wordOf 558 = .ok (.bipush 109, 2) := by decide +kernel
theorem dX11_wordOf_560 : decode cX11_wordOf 560 = .ok (.bipush 98, 2) := by decide +kernel
theorem dX11_wordOf_562 : decode cX11_wordOf 562 = .ok (.bipush 101, 2) := by decide +kernel
theorem dX11_wordOf_564 : decode cX11_wordOf 564 = .ok (.bipush 114, 2) := by decide +kernel
theorem dX11_wordOf_566 : decode cX11_wordOf 566 = .ok (.iconst 0, 1) := by decide +kernel
theorem dX11_wordOf_567 : decode cX11_wordOf 567 = .ok (.invokestatic 58, 3) := by decide +kernel
theorem dX11_wordOf_570 : decode cX11_wordOf 570 = .ok (.lreturn, 1) := by decide +kernel
abbrev cX11_isWord : ByteArray := prog_13_method_19_code
def yX11_isWord : MethodName := ⟨RX11, "isWord", "(I)Z"⟩
theorem t1619 : Cond.code yX11_isWord cX11_isWord 2 (some .boolean) ∈ GW := gw_mem 1733 (by decide +kernel) (by decide +kernel)
theorem dX11_isWord_0 : decode cX11_isWord 0 = .ok (.aload_n 0, 1) := by decide +kernel
theorem dX11_isWord_1 : decode cX11_isWord 1 = .ok (.getfield 30, 3) := by decide +kernel
theorem gf_X11_30 {p : Program} {l : Launch} {e : Env} {R : Room} {s : State} {m : MethodId} {args : Array Value} {below : List Frame} {meth : Method} {c : Code} {H : Heap} {locs : List Loc} {cells slots : Nat} {Q : State → Prop} {cc : ByteArray} {pc : Nat} {ls : Array Slot} {rest : List Value} {D : va_G} {a : Nat} {tys : List (ClassId × FieldType)} {ws : va_W} (hx : p.tables.exec = Jvm.exec) (hb : c.code = cc) (hts : ∀ w ∈ GW, w.before args s = true) (hown : s.vm.findClass RX11 = some m.cls) (hK : va_K D vwCl tys s) (hP : va_P D vwCl ws H) (q0 : Nat) {fs : List Value} (he : ws[q0]? = some (a, .inr (12, fs))) {v : Value} (hv : fs[7]? = some v) (hdg : decode cc pc = .ok (.getfield 30, 3)) (kk : W p l e R s m args below meth c H locs cells slots Q (F0 m (pc + 3) ls (v :: rest))) : W p l e R s m args below meth c H locs cells slots Q (F0 m pc ls (.ref a :: rest)) := va_get (C := RX11) (T := TX11) (N := 47) (ci := 12) hx hb hts inX11 hown hK hP q0 he rfl 7 (by decide) (hts _ t1449) (fun _ h => h) hv hdg kk
theorem dX11_isWord_4 : decode cX11_isWord 4 = .ok (.iconst 2, 1) := by decide +kernel
theorem dX11_isWord_5 : decode cX11_isWord 5 = .ok (.if_icmp .ne 19, 3) := by decide +kernel
theorem dX11_isWord_24 : decode cX11_isWord 24 = .ok (.iconst 0, 1) := by decide +kernel
theorem dX11_isWord_25 : decode cX11_isWord 25 = .ok (.ireturn, 1) := by decide +kernel
theorem dX11_isWord_8 : decode cX11_isWord 8 = .ok (.aload_n 0, 1) := by decide +kernel
theorem dX11_isWord_9 : decode cX11_isWord 9 = .ok (.getfield 43, 3) := by decide +kernel
theorem dX11_isWord_12 : decode cX11_isWord 12 = .ok (.iload_n 1, 1) := by decide +kernel
theorem dX11_isWord_13 : decode cX11_isWord 13 = .ok (.invokestatic 62, 3) := by decide +kernel
theorem t1620 : Cond.methodLink RX11 62 yX11_wordOf ∈ GW := gw_mem 1734 (by decide +kernel) (by decide +kernel)
theorem t1621 : Cond.static yX11_wordOf ∈ GW := gw_mem 1735 (by decide +kernel) (by decide +kernel)
theorem cw_X11_62 {R : Room} {s : State} {args : Array Value} {rm : Room} {mc ms : Nat} (hts : ∀ w ∈ GW, w.before args s = true) (hrc : rm.cells = mc) (hrs : rm.slots = ms) (hR : rm.frames + 1 ≤ R.frames ∧ 8 + (1 + 11) + rm.locals ≤ R.locals) : CallB R s args RX11 62 yX11_wordOf cX11_wordOf 1 (some .long) (wl yX11_wordOf cX11_wordOf 1 (some .long)) rm mc ms 1 ∧ (Cond.static yX11_wordOf).before args s = true := va_cwS 1 hts (gi_S t1620 t1621 t18 t1622) rfl hrc hrs (by decide +kernel) hR
theorem dX11_isWord_16 : decode cX11_isWord 16 = .ok (.lcmp, 1) := by decide +kernel
theorem dX11_isWord_17 : decode cX11_isWord 17 = .ok (.ifCond .ne 7, 3) := by decide +kernel
theorem dX11_isWord_20 : decode cX11_isWord 20 = .ok (.iconst 1, 1) := by decide +kernel
theorem dX11_isWord_21 : decode cX11_isWord 21 = .ok (.goto 4, 3) := by decide +kernel
abbrev cX11_isSign : ByteArray := prog_13_method_20_code
def yX11_isSign : MethodName := ⟨RX11, "isSign", "(I)Z"⟩
theorem t1698 : Cond.code yX11_isSign cX11_isSign 2 (some .boolean) ∈ GW := gw_mem 1812 (by decide +kernel) (by decide +kernel)
theorem dX11_isSign_0 : decode cX11_isSign 0 = .ok (.aload_n 0, 1) := by decide +kernel
theorem dX11_isSign_1 : decode cX11_isSign 1 = .ok (.getfield 30, 3) := by decide +kernel
theorem dX11_isSign_4 : decode cX11_isSign 4 = .ok (.iconst 4, 1) := by decide +kernel
theorem dX11_isSign_5 : decode cX11_isSign 5 = .ok (.if_icmp .ne 15, 3) := by decide +kernel
theorem dX11_isSign_20 : decode cX11_isSign 20 = .ok (.iconst 0, 1) := by decide +kernel
theorem dX11_isSign_21 : decode cX11_isSign 21 = .ok (.ireturn, 1) := by decide +kernel
theorem dX11_isSign_8 : decode cX11_isSign 8 = .ok (.aload_n 0, 1) := by decide +kernel
theorem dX11_isSign_9 : decode cX11_isSign 9 = .ok (.getfield 40, 3) := by decide +kernel
theorem gf_X11_40 {p : Program} {l : Launch} {e : Env} {R : Room} {s : State} {m : MethodId} {args : Array Value} {below : List Frame} {meth : Method} {c : Code} {H : Heap} {locs : List Loc} {cells slots : Nat} {Q : State → Prop} {cc : ByteArray} {pc : Nat} {ls : Array Slot} {rest : List Value} {D : va_G} {a : Nat} {tys : List (ClassId × FieldType)} {ws : va_W} (hx : p.tables.exec = Jvm.exec) (hb : c.code = cc) (hts : ∀ w ∈ GW, w.before args s = true) (hown : s.vm.findClass RX11 = some m.cls) (hK : va_K D vwCl tys s) (hP : va_P D vwCl ws H) (q0 : Nat) {fs : List Value} (he : ws[q0]? = some (a, .inr (12, fs))) {v : Value} (hv : fs[9]? = some v) (hdg : decode cc pc = .ok (.getfield 40, 3)) (kk : W p l e R s m args below meth c H locs cells slots Q (F0 m (pc + 3) ls (v :: rest))) : W p l e R s m args below meth c H locs cells slots Q (F0 m pc ls (.ref a :: rest)) := va_get (C := RX11) (T := TX11) (N := 47) (ci := 12) hx hb hts inX11 hown hK hP q0 he rfl 9 (by decide) (hts _ t1451) (fun _ h => h) hv hdg kk
theorem dX11_isSign_12 : decode cX11_isSign 12 = .ok (.iload_n 1, 1) := by decide +kernel
theorem dX11_isSign_13 : decode cX11_isSign 13 = .ok (.if_icmp .ne 7, 3) := by decide +kernel
theorem dX11_isSign_16 : decode cX11_isSign 16 = .ok (.iconst 1, 1) := by decide +kernel
theorem dX11_isSign_17 : decode cX11_isSign 17 = .ok (.goto 4, 3) := by decide +kernel
abbrev cX11_isName : ByteArray := prog_13_method_21_code
def yX11_isName : MethodName := ⟨RX11, "isName", "()Z"⟩
theorem t1645 : Cond.code yX11_isName cX11_isName 2 (some .boolean) ∈ GW := gw_mem 1759 (by decide +kernel) (by decide +kernel)
theorem dX11_isName_0 : decode cX11_isName 0 = .ok (.aload_n 0, 1) := by decide +kernel
theorem dX11_isName_1 : decode cX11_isName 1 = .ok (.getfield 30, 3) := by decide +kernel
theorem dX11_isName_4 : decode cX11_isName 4 = .ok (.iconst 2, 1) := by decide +kernel
theorem dX11_isName_5 : decode cX11_isName 5 = .ok (.if_icmp .eq 5, 3) := by decide +kernel
theorem dX11_isName_10 : decode cX11_isName 10 = .ok (.iconst 0, 1) := by decide +kernel
theorem dX11_isName_11 : decode cX11_isName 11 = .ok (.istore_n 1, 1) := by decide +kernel
theorem dX11_isName_12 : decode cX11_isName 12 = .ok (.iload_n 1, 1) := by decide +kernel
theorem dX11_isName_13 : decode cX11_isName 13 = .ok (.bipush 28, 2) := by decide +kernel
theorem dX11_isName_15 : decode cX11_isName 15 = .ok (.if_icmp .gt 23, 3) := by decide +kernel
theorem dX11_isName_38 : decode cX11_isName 38 = .ok (.iconst 1, 1) := by decide +kernel
theorem dX11_isName_39 : decode cX11_isName 39 = .ok (.ireturn, 1) := by decide +kernel
theorem dX11_isName_18 : decode cX11_isName 18 = .ok (.aload_n 0, 1) := by decide +kernel
theorem dX11_isName_19 : decode cX11_isName 19 = .ok (.getfield 43, 3) := by decide +kernel
theorem dX11_isName_22 : decode cX11_isName 22 = .ok (.iload_n 1, 1) := by decide +kernel
theorem dX11_isName_23 : decode cX11_isName 23 = .ok (.invokestatic 62, 3) := by decide +kernel
theorem dX11_isName_26 : decode cX11_isName 26 = .ok (.lcmp, 1) := by decide +kernel
theorem dX11_isName_27 : decode cX11_isName 27 = .ok (.ifCond .ne 5, 3) := by decide +kernel
theorem dX11_isName_32 : decode cX11_isName 32 = .ok (.iinc 1 1, 3) := by decide +kernel
theorem dX11_isName_35 : decode cX11_isName 35 = .ok (.goto (-23), 3) := by decide +kernel
theorem dX11_isName_30 : decode cX11_isName 30 = .ok (.iconst 0, 1) := by decide +kernel
theorem dX11_isName_31 : decode cX11_isName 31 = .ok (.ireturn, 1) := by decide +kernel
theorem dX11_isName_8 : decode cX11_isName 8 = .ok (.iconst 0, 1) := by decide +kernel
theorem dX11_isName_9 : decode cX11_isName 9 = .ok (.ireturn, 1) := by decide +kernel
abbrev cX11_bad : ByteArray := prog_13_method_22_code
def yX11_bad : MethodName := ⟨RX11, "bad", "(I)Z"⟩
theorem t1637 : Cond.code yX11_bad cX11_bad 2 (some .boolean) ∈ GW := gw_mem 1751 (by decide +kernel) (by decide +kernel)
theorem dX11_bad_0 : decode cX11_bad 0 = .ok (.aload_n 0, 1) := by decide +kernel
theorem dX11_bad_1 : decode cX11_bad 1 = .ok (.aload_n 0, 1) := by decide +kernel
theorem dX11_bad_2 : decode cX11_bad 2 = .ok (.getfield 30, 3) := by decide +kernel
theorem dX11_bad_5 : decode cX11_bad 5 = .ok (.iconst 1, 1) := by decide +kernel
theorem dX11_bad_6 : decode cX11_bad 6 = .ok (.if_icmp .ne 7, 3) := by decide +kernel
theorem dX11_bad_13 : decode cX11_bad 13 = .ok (.iload_n 1, 1) := by decide +kernel
theorem dX11_bad_14 : decode cX11_bad 14 = .ok (.putfield 66, 3) := by decide +kernel
theorem t1452 : Cond.fieldLink RX11 66 "LikenessPoundModel" "fault" "I" ∈ GW := gw_mem 1566 (by decide +kernel) (by decide +kernel)
theorem pf_X11_66 {p : Program} {l : Launch} {e : Env} {R : Room} {s : State} {m : MethodId} {args : Array Value} {below : List Frame} {meth : Method} {c : Code} {H : Heap} {locs : List Loc} {cells slots : Nat} {Q : State → Prop} {cc : ByteArray} {pc : Nat} {ls : Array Slot} {rest : List Value} {D : va_G} {A : Nat → Prop} {a : Nat} {tys : List (ClassId × FieldType)} {ws : va_W} {H0 : Heap} (hx : p.tables.exec = Jvm.exec) (hb : c.code = cc) (hts : ∀ w ∈ GW, w.before args s = true) (hown : s.vm.findClass RX11 = some m.cls) (hK : va_K D vwCl tys s) (hP : va_P D vwCl ws H) (hD : va_D A ws) (hS0 : va_S A H0 H locs) (q0 : Nat) {fs : List Value} (he : ws[q0]? = some (a, .inr (12, fs))) {v : Value} (hn : narrow (tyX11 10) v = v) (hfit : fits (tyX11 10) v = true) (hl : 10 < fs.length) (hdg : decode cc pc = .ok (.putfield 66, 3)) (kk : ∀ (H1 : Heap) (locs1 : List Loc), va_P D vwCl (ws.set q0 (a, .inr (12, fs.set 10 v))) H1 → va_D A (ws.set q0 (a, .inr (12, fs.set 10 v))) → va_S A H0 H1 locs1 → W p l e R s m args below meth c H1 locs1 cells slots Q (F0 m (pc + 3) ls rest)) : W p l e R s m args below meth c H locs cells slots Q (F0 m pc ls (v :: .ref a :: rest)) := va_put (C := RX11) (T := TX11) (N := 47) (ci := 12) hx hb hts inX11 tyX11 tkX11 nmX11 hown hK hP hD hS0 q0 he rfl 10 (by decide) (hts _ t1452) (fun _ h => h) rfl (tkX11 10 (by decide)) hn hfit hl hdg kk
theorem dX11_bad_17 : decode cX11_bad 17 = .ok (.aload_n 0, 1) := by decide +kernel
theorem dX11_bad_18 : decode cX11_bad 18 = .ok (.aload_n 0, 1) := by decide +kernel
theorem dX11_bad_19 : decode cX11_bad 19 = .ok (.getfield 24, 3) := by decide +kernel
theorem dX11_bad_22 : decode cX11_bad 22 = .ok (.putfield 69, 3) := by decide +kernel
theorem t1453 : Cond.fieldLink RX11 69 "LikenessPoundModel" "place" "I" ∈ GW := gw_mem 1567 (by decide +kernel) (by decide +kernel)
theorem pf_X11_69 {p : Program} {l : Launch} {e : Env} {R : Room} {s : State} {m : MethodId} {args : Array Value} {below : List Frame} {meth : Method} {c : Code} {H : Heap} {locs : List Loc} {cells slots : Nat} {Q : State → Prop} {cc : ByteArray} {pc : Nat} {ls : Array Slot} {rest : List Value} {D : va_G} {A : Nat → Prop} {a : Nat} {tys : List (ClassId × FieldType)} {ws : va_W} {H0 : Heap} (hx : p.tables.exec = Jvm.exec) (hb : c.code = cc) (hts : ∀ w ∈ GW, w.before args s = true) (hown : s.vm.findClass RX11 = some m.cls) (hK : va_K D vwCl tys s) (hP : va_P D vwCl ws H) (hD : va_D A ws) (hS0 : va_S A H0 H locs) (q0 : Nat) {fs : List Value} (he : ws[q0]? = some (a, .inr (12, fs))) {v : Value} (hn : narrow (tyX11 11) v = v) (hfit : fits (tyX11 11) v = true) (hl : 11 < fs.length) (hdg : decode cc pc = .ok (.putfield 69, 3)) (kk : ∀ (H1 : Heap) (locs1 : List Loc), va_P D vwCl (ws.set q0 (a, .inr (12, fs.set 11 v))) H1 → va_D A (ws.set q0 (a, .inr (12, fs.set 11 v))) → va_S A H0 H1 locs1 → W p l e R s m args below meth c H1 locs1 cells slots Q (F0 m (pc + 3) ls rest)) : W p l e R s m args below meth c H locs cells slots Q (F0 m pc ls (v :: .ref a :: rest)) := va_put (C := RX11) (T := TX11) (N := 47) (ci := 12) hx hb hts inX11 tyX11 tkX11 nmX11 hown hK hP hD hS0 q0 he rfl 11 (by decide) (hts _ t1453) (fun _ h => h) rfl (tkX11 11 (by decide)) hn hfit hl hdg kk
theorem dX11_bad_25 : decode cX11_bad 25 = .ok (.iconst 0, 1) := by decide +kernel
theorem dX11_bad_26 : decode cX11_bad 26 = .ok (.ireturn, 1) := by decide +kernel
theorem dX11_bad_9 : decode cX11_bad 9 = .ok (.iconst 1, 1) := by decide +kernel
theorem dX11_bad_10 : decode cX11_bad 10 = .ok (.goto 4, 3) := by decide +kernel
abbrev cX11_readNumber : ByteArray := prog_13_method_23_code
def yX11_readNumber : MethodName := ⟨RX11, "readNumber", "(II)Z"⟩
theorem t1652 : Cond.code yX11_readNumber cX11_readNumber 3 (some .boolean) ∈ GW := gw_mem 1766 (by decide +kernel) (by decide +kernel)
theorem dX11_readNumber_0 : decode cX11_readNumber 0 = .ok (.aload_n 0, 1) := by decide +kernel
theorem dX11_readNumber_1 : decode cX11_readNumber 1 = .ok (.getfield 30, 3) := by decide +kernel
theorem dX11_readNumber_4 : decode cX11_readNumber 4 = .ok (.iconst 3, 1) := by decide +kernel
theorem dX11_readNumber_5 : decode cX11_readNumber 5 = .ok (.if_icmp .eq 9, 3) := by decide +kernel
theorem dX11_readNumber_14 : decode cX11_readNumber 14 = .ok (.aload_n 0, 1) := by decide +kernel
theorem dX11_readNumber_15 : decode cX11_readNumber 15 = .ok (.getfield 47, 3) := by decide +kernel
theorem dX11_readNumber_18 : decode cX11_readNumber 18 = .ok (.iload_n 1, 1) := by decide +kernel
theorem dX11_readNumber_19 : decode cX11_readNumber 19 = .ok (.iload_n 2, 1) := by decide +kernel
theorem dX11_readNumber_20 : decode cX11_readNumber 20 = .ok (.invokestatic 75, 3) := by decide +kernel
theorem t1653 : Cond.methodLink RX11 75 yX11_isIn ∈ GW := gw_mem 1767 (by decide +kernel) (by decide +kernel)
theorem t1654 : Cond.static yX11_isIn ∈ GW := gw_mem 1768 (by decide +kernel) (by decide +kernel)
theorem cw_X11_75 {R : Room} {s : State} {args : Array Value} {rm : Room} {mc ms : Nat} (hts : ∀ w ∈ GW, w.before args s = true) (hrc : rm.cells = mc) (hrs : rm.slots = ms) (hR : rm.frames + 1 ≤ R.frames ∧ 8 + (3 + 11) + rm.locals ≤ R.locals) : CallB R s args RX11 75 yX11_isIn cX11_isIn 3 (some .boolean) (wl yX11_isIn cX11_isIn 3 (some .boolean)) rm mc ms 3 ∧ (Cond.static yX11_isIn).before args s = true := va_cwS 3 hts (gi_S t1653 t1654 t18 t1655) rfl hrc hrs (by decide +kernel) hR
theorem dX11_readNumber_23 : decode cX11_readNumber 23 = .ok (.ifCond .ne 9, 3) := by decide +kernel
theorem dX11_readNumber_26 : decode cX11_readNumber 26 = .ok (.aload_n 0, 1) := by decide +kernel
theorem dX11_readNumber_27 : decode cX11_readNumber 27 = .ok (.iconst 2, 1) := by decide +kernel
theorem dX11_readNumber_28 : decode cX11_readNumber 28 = .ok (.invokevirtual 72, 3) := by decide +kernel
theorem t1634 : Cond.methodLink RX11 72 yX11_bad ∈ GW := gw_mem 1748 (by decide +kernel) (by decide +kernel)
theorem t1636 : Cond.instanceMethod yX11_bad ∈ GW := gw_mem 1750 (by decide +kernel) (by decide +kernel)
theorem s48 : Cond.selects RX11 yX11_bad yX11_bad ∈ GW := gw_mem 48 (by decide +kernel) (by decide +kernel)
theorem cw_X11_72 {R : Room} {s : State} {args : Array Value} {rm : Room} {mc ms : Nat} (hts : ∀ w ∈ GW, w.before args s = true) (hrc : rm.cells = mc) (hrs : rm.slots = ms) (hR : rm.frames + 1 ≤ R.frames ∧ 8 + (2 + 11) + rm.locals ≤ R.locals) : CallW R s args RX11 RX11 72 yX11_bad cX11_bad 2 (some .boolean) (wl yX11_bad cX11_bad 2 (some .boolean)) rm mc ms 1 := cwV 1 hts (gi_V t1634 t1636 s48 t18 t1637) rfl hrc hrs (by decide +kernel) hR
theorem dX11_readNumber_31 : decode cX11_readNumber 31 = .ok (.ireturn, 1) := by decide +kernel
theorem dX11_readNumber_32 : decode cX11_readNumber 32 = .ok (.aload_n 0, 1) := by decide +kernel
theorem dX11_readNumber_33 : decode cX11_readNumber 33 = .ok (.aload_n 0, 1) := by decide +kernel
theorem dX11_readNumber_34 : decode cX11_readNumber 34 = .ok (.getfield 47, 3) := by decide +kernel
theorem dX11_readNumber_37 : decode cX11_readNumber 37 = .ok (.putfield 79, 3) := by decide +kernel
theorem t1455 : Cond.fieldLink RX11 79 "LikenessPoundModel" "told" "I" ∈ GW := gw_mem 1569 (by decide +kernel) (by decide +kernel)
theorem pf_X11_79 {p : Program} {l : Launch} {e : Env} {R : Room} {s : State} {m : MethodId} {args : Array Value} {below : List Frame} {meth : Method} {c : Code} {H : Heap} {locs : List Loc} {cells slots : Nat} {Q : State → Prop} {cc : ByteArray} {pc : Nat} {ls : Array Slot} {rest : List Value} {D : va_G} {A : Nat → Prop} {a : Nat} {tys : List (ClassId × FieldType)} {ws : va_W} {H0 : Heap} (hx : p.tables.exec = Jvm.exec) (hb : c.code = cc) (hts : ∀ w ∈ GW, w.before args s = true) (hown : s.vm.findClass RX11 = some m.cls) (hK : va_K D vwCl tys s) (hP : va_P D vwCl ws H) (hD : va_D A ws) (hS0 : va_S A H0 H locs) (q0 : Nat) {fs : List Value} (he : ws[q0]? = some (a, .inr (12, fs))) {v : Value} (hn : narrow (tyX11 13) v = v) (hfit : fits (tyX11 13) v = true) (hl : 13 < fs.length) (hdg : decode cc pc = .ok (.putfield 79, 3)) (kk : ∀ (H1 : Heap) (locs1 : List Loc), va_P D vwCl (ws.set q0 (a, .inr (12, fs.set 13 v))) H1 → va_D A (ws.set q0 (a, .inr (12, fs.set 13 v))) → va_S A H0 H1 locs1 → W p l e R s m args below meth c H1 locs1 cells slots Q (F0 m (pc + 3) ls rest)) : W p l e R s m args below meth c H locs cells slots Q (F0 m pc ls (v :: .ref a :: rest)) := va_put (C := RX11) (T := TX11) (N := 47) (ci := 12) hx hb hts inX11 tyX11 tkX11 nmX11 hown hK hP hD hS0 q0 he rfl 13 (by decide) (hts _ t1455) (fun _ h => h) rfl (tkX11 13 (by decide)) hn hfit hl hdg kk
theorem dX11_readNumber_40 : decode cX11_readNumber 40 = .ok (.aload_n 0, 1) := by decide +kernel
theorem dX11_readNumber_41 : decode cX11_readNumber 41 = .ok (.invokevirtual 82, 3) := by decide +kernel
theorem t1596 : Cond.methodLink RX11 82 yX11_go ∈ GW := gw_mem 1710 (by decide +kernel) (by decide +kernel)
theorem t1598 : Cond.instanceMethod yX11_go ∈ GW := gw_mem 1712 (by decide +kernel) (by decide +kernel)
theorem s42 : Cond.selects RX11 yX11_go yX11_go ∈ GW := gw_mem 42 (by decide +kernel) (by decide +kernel)
theorem cw_X11_82 {R : Room} {s : State} {args : Array Value} {rm : Room} {mc ms : Nat} (hts : ∀ w ∈ GW, w.before args s = true) (hrc : rm.cells = mc) (hrs : rm.slots = ms) (hR : rm.frames + 1 ≤ R.frames ∧ 8 + (5 + 11) + rm.locals ≤ R.locals) : CallW R s args RX11 RX11 82 yX11_go cX11_go 5 none (wl yX11_go cX11_go 5 none) rm mc ms 0 := cwV 0 hts (gi_V t1596 t1598 s42 t18 t1599) rfl hrc hrs (by decide +kernel) hR
theorem dX11_readNumber_44 : decode cX11_readNumber 44 = .ok (.iconst 1, 1) := by decide +kernel
theorem dX11_readNumber_45 : decode cX11_readNumber 45 = .ok (.ireturn, 1) := by decide +kernel
theorem dX11_readNumber_8 : decode cX11_readNumber 8 = .ok (.aload_n 0, 1) := by decide +kernel
theorem dX11_readNumber_9 : decode cX11_readNumber 9 = .ok (.iconst 1, 1) := by decide +kernel
theorem dX11_readNumber_10 : decode cX11_readNumber 10 = .ok (.invokevirtual 72, 3) := by decide +kernel
theorem dX11_readNumber_13 : decode cX11_readNumber 13 = .ok (.ireturn, 1) := by decide +kernel
abbrev cX11_readEnd : ByteArray := prog_13_method_24_code
def yX11_readEnd : MethodName := ⟨RX11, "readEnd", "()Z"⟩
theorem t1694 : Cond.code yX11_readEnd cX11_readEnd 1 (some .boolean) ∈ GW := gw_mem 1808 (by decide +kernel) (by decide +kernel)
theorem dX11_readEnd_0 : decode cX11_readEnd 0 = .ok (.aload_n 0, 1) := by decide +kernel
theorem dX11_readEnd_1 : decode cX11_readEnd 1 = .ok (.bipush 59, 2) := by decide +kernel
theorem dX11_readEnd_3 : decode cX11_readEnd 3 = .ok (.invokevirtual 86, 3) := by decide +kernel
theorem t1695 : Cond.methodLink RX11 86 yX11_isSign ∈ GW := gw_mem 1809 (by decide +kernel) (by decide +kernel)
theorem t1697 : Cond.instanceMethod yX11_isSign ∈ GW := gw_mem 1811 (by decide +kernel) (by decide +kernel)
theorem s61 : Cond.selects RX11 yX11_isSign yX11_isSign ∈ GW := gw_mem 61 (by decide +kernel) (by decide +kernel)
theorem cw_X11_86 {R : Room} {s : State} {args : Array Value} {rm : Room} {mc ms : Nat} (hts : ∀ w ∈ GW, w.before args s = true) (hrc : rm.cells = mc) (hrs : rm.slots = ms) (hR : rm.frames + 1 ≤ R.frames ∧ 8 + (2 + 11) + rm.locals ≤ R.locals) : CallW R s args RX11 RX11 86 yX11_isSign cX11_isSign 2 (some .boolean) (wl yX11_isSign cX11_isSign 2 (some .boolean)) rm mc ms 1 := cwV 1 hts (gi_V t1695 t1697 s61 t18 t1698) rfl hrc hrs (by decide +kernel) hR
theorem dX11_readEnd_6 : decode cX11_readEnd 6 = .ok (.ifCond .ne 9, 3) := by decide +kernel
theorem dX11_readEnd_9 : decode cX11_readEnd 9 = .ok (.aload_n 0, 1) := by decide +kernel
theorem dX11_readEnd_10 : decode cX11_readEnd 10 = .ok (.iconst 1, 1) := by decide +kernel
theorem dX11_readEnd_11 : decode cX11_readEnd 11 = .ok (.invokevirtual 72, 3) := by decide +kernel
theorem dX11_readEnd_14 : decode cX11_readEnd 14 = .ok (.ireturn, 1) := by decide +kernel
theorem dX11_readEnd_15 : decode cX11_readEnd 15 = .ok (.aload_n 0, 1) := by decide +kernel
theorem dX11_readEnd_16 : decode cX11_readEnd 16 = .ok (.invokevirtual 82, 3) := by decide +kernel
theorem dX11_readEnd_19 : decode cX11_readEnd 19 = .ok (.iconst 1, 1) := by decide +kernel
theorem dX11_readEnd_20 : decode cX11_readEnd 20 = .ok (.ireturn, 1) := by decide +kernel
abbrev cX11_begin : ByteArray := prog_13_method_25_code
def yX11_begin : MethodName := ⟨RX11, "begin", "(I)V"⟩
theorem t1591 : Cond.code yX11_begin cX11_begin 2 none ∈ GW := gw_mem 1705 (by decide +kernel) (by decide +kernel)
theorem dX11_begin_0 : decode cX11_begin 0 = .ok (.aload_n 0, 1) := by decide +kernel
theorem dX11_begin_1 : decode cX11_begin 1 = .ok (.iconst 0, 1) := by decide +kernel
theorem dX11_begin_2 : decode cX11_begin 2 = .ok (.putfield 1, 3) := by decide +kernel
theorem dX11_begin_5 : decode cX11_begin 5 = .ok (.aload_n 0, 1) := by decide +kernel
theorem dX11_begin_6 : decode cX11_begin 6 = .ok (.aload_n 0, 1) := by decide +kernel
theorem dX11_begin_7 : decode cX11_begin 7 = .ok (.invokevirtual 89, 3) := by decide +kernel
theorem t1592 : Cond.methodLink RX11 89 yX11_take ∈ GW := gw_mem 1706 (by decide +kernel) (by decide +kernel)
theorem t1594 : Cond.instanceMethod yX11_take ∈ GW := gw_mem 1708 (by decide +kernel) (by decide +kernel)
theorem s41 : Cond.selects RX11 yX11_take yX11_take ∈ GW := gw_mem 41 (by decide +kernel) (by decide +kernel)
theorem cw_X11_89 {R : Room} {s : State} {args : Array Value} {rm : Room} {mc ms : Nat} (hts : ∀ w ∈ GW, w.before args s = true) (hrc : rm.cells = mc) (hrs : rm.slots = ms) (hR : rm.frames + 1 ≤ R.frames ∧ 8 + (2 + 11) + rm.locals ≤ R.locals) : CallW R s args RX11 RX11 89 yX11_take cX11_take 2 (some .int) (wl yX11_take cX11_take 2 (some .int)) rm mc ms 0 := cwV 0 hts (gi_V t1592 t1594 s41 t18 t1595) rfl hrc hrs (by decide +kernel) hR
theorem dX11_begin_10 : decode cX11_begin 10 = .ok (.putfield 18, 3) := by decide +kernel
theorem pf_X11_18 {p : Program} {l : Launch} {e : Env} {R : Room} {s : State} {m : MethodId} {args : Array Value} {below : List Frame} {meth : Method} {c : Code} {H : Heap} {locs : List Loc} {cells slots : Nat} {Q : State → Prop} {cc : ByteArray} {pc : Nat} {ls : Array Slot} {rest : List Value} {D : va_G} {A : Nat → Prop} {a : Nat} {tys : List (ClassId × FieldType)} {ws : va_W} {H0 : Heap} (hx : p.tables.exec = Jvm.exec) (hb : c.code = cc) (hts : ∀ w ∈ GW, w.before args s = true) (hown : s.vm.findClass RX11 = some m.cls) (hK : va_K D vwCl tys s) (hP : va_P D vwCl ws H) (hD : va_D A ws) (hS0 : va_S A H0 H locs) (q0 : Nat) {fs : List Value} (he : ws[q0]? = some (a, .inr (12, fs))) {v : Value} (hn : narrow (tyX11 3) v = v) (hfit : fits (tyX11 3) v = true) (hl : 3 < fs.length) (hdg : decode cc pc = .ok (.putfield 18, 3)) (kk : ∀ (H1 : Heap) (locs1 : List Loc), va_P D vwCl (ws.set q0 (a, .inr (12, fs.set 3 v))) H1 → va_D A (ws.set q0 (a, .inr (12, fs.set 3 v))) → va_S A H0 H1 locs1 → W p l e R s m args below meth c H1 locs1 cells slots Q (F0 m (pc + 3) ls rest)) : W p l e R s m args below meth c H locs cells slots Q (F0 m pc ls (v :: .ref a :: rest)) := va_put (C := RX11) (T := TX11) (N := 47) (ci := 12) hx hb hts inX11 tyX11 tkX11 nmX11 hown hK hP hD hS0 q0 he rfl 3 (by decide) (hts _ t1445) (fun _ h => h) rfl (tkX11 3 (by decide)) hn hfit hl hdg kk
theorem dX11_begin_13 : decode cX11_begin 13 = .ok (.aload_n 0, 1) := by decide +kernel
theorem dX11_begin_14 : decode cX11_begin 14 = .ok (.iload_n 1, 1) := by decide +kernel
theorem dX11_begin_15 : decode cX11_begin 15 = .ok (.putfield 27, 3) := by decide +kernel
theorem pf_X11_27 {p : Program} {l : Launch} {e : Env} {R : Room} {s : State} {m : MethodId} {args : Array Value} {below : List Frame} {meth : Method} {c : Code} {H : Heap} {locs : List Loc} {cells slots : Nat} {Q : State → Prop} {cc : ByteArray} {pc : Nat} {ls : Array Slot} {rest : List Value} {D : va_G} {A : Nat → Prop} {a : Nat} {tys : List (ClassId × FieldType)} {ws : va_W} {H0 : Heap} (hx : p.tables.exec = Jvm.exec) (hb : c.code = cc) (hts : ∀ w ∈ GW, w.before args s = true) (hown : s.vm.findClass RX11 = some m.cls) (hK : va_K D vwCl tys s) (hP : va_P D vwCl ws H) (hD : va_D A ws) (hS0 : va_S A H0 H locs) (q0 : Nat) {fs : List Value} (he : ws[q0]? = some (a, .inr (12, fs))) {v : Value} (hn : narrow (tyX11 4) v = v) (hfit : fits (tyX11 4) v = true) (hl : 4 < fs.length) (hdg : decode cc pc = .ok (.putfield 27, 3)) (kk : ∀ (H1 : Heap) (locs1 : List Loc), va_P D vwCl (ws.set q0 (a, .inr (12, fs.set 4 v))) H1 → va_D A (ws.set q0 (a, .inr (12, fs.set 4 v))) → va_S A H0 H1 locs1 → W p l e R s m args below meth c H1 locs1 cells slots Q (F0 m (pc + 3) ls rest)) : W p l e R s m args below meth c H locs cells slots Q (F0 m pc ls (v :: .ref a :: rest)) := va_put (C := RX11) (T := TX11) (N := 47) (ci := 12) hx hb hts inX11 tyX11 tkX11 nmX11 hown hK hP hD hS0 q0 he rfl 4 (by decide) (hts _ t1446) (fun _ h => h) rfl (tkX11 4 (by decide)) hn hfit hl hdg kk
theorem dX11_begin_18 : decode cX11_begin 18 = .ok (.aload_n 0, 1) := by decide +kernel
theorem dX11_begin_19 : decode cX11_begin 19 = .ok (.iconst 0, 1) := by decide +kernel
theorem dX11_begin_20 : decode cX11_begin 20 = .ok (.putfield 66, 3) := by decide +kernel
theorem dX11_begin_23 : decode cX11_begin 23 = .ok (.aload_n 0, 1) := by decide +kernel
theorem dX11_begin_24 : decode cX11_begin 24 = .ok (.iconst 0, 1) := by decide +kernel
theorem dX11_begin_25 : decode cX11_begin 25 = .ok (.putfield 21, 3) := by decide +kernel
theorem dX11_begin_28 : decode cX11_begin 28 = .ok (.aload_n 0, 1) := by decide +kernel
theorem dX11_begin_29 : decode cX11_begin 29 = .ok (.invokevirtual 82, 3) := by decide +kernel
theorem dX11_begin_32 : decode cX11_begin 32 = .ok (.return_, 1) := by decide +kernel
abbrev cX11_startSo : ByteArray := prog_13_method_27_code
def yX11_startSo : MethodName := ⟨RX11, "startSo", "()V"⟩
theorem t1441 : Cond.code yX11_startSo cX11_startSo 2 none ∈ GW := gw_mem 1555 (by decide +kernel) (by decide +kernel)
abbrev O_m_startSo (cy : Nat → ClassId) (vnh : Nat → Int32) (vo : Nat) (voth : Int32) (vmt : Nat) (votp : Int32) (vosz : Int32) (volm : Int32) (voto : Int32) (vofr : Int32) (vokd : Int32) (vonu : Int32) (vosg : Int32) (vofa : Int32) (vopl : Int32) (vowd : Int64) (votd : Int32) (vmn : Nat) (vmr : Nat) (vmk : Nat) (vms : Nat) (vma : Nat) (vmm : Nat) (vmrn : Nat) (vmkn : Nat) (vmik : Nat) (vmon : Nat) (vosm : Int32) (vohp : Int32) (vmw : Nat) (vmf : Nat) (vmb : Nat) (vomb : Int32) (vmd : Nat) (vmc : Nat) (vocm : Int32) (voct : Int32) (vocy : Int32) (vmx : Nat) (votx : Int32) (vose : Int32) (vml : Nat) (vmwr : Nat) (voln : Int32) (vohw : Int32) (vmno : Nat) (vond : Int32) (voon : Int32) (vowi : Int32) (votop : Int32) (vmnf : Nat → Int32) (u : (Nat → Int32)) : va_W := [(vo, .inr (12, [.int voth, .ref vmt, .int votp, .int vosz, .int volm, .int voto, .int vofr, .int vokd, .int vonu, .int vosg, .int vofa, .int vopl, .long vowd, .int votd, .ref vmn, .ref vmr, .ref vmk, .ref vms, .ref vma, .ref vmm, .ref vmrn, .ref vmkn, .ref vmik, .ref vmon, .int vosm, .int vohp, .ref vmw, .ref vmf, .ref vmb, .int vomb, .ref vmd, .ref vmc, .int vocm, .int voct, .int vocy, .ref vmx, .int votx, .int vose, .ref vml, .ref vmwr, .int voln, .int vohw, .ref vmno, .int vond, .int voon, .int vowi, .int votop])), (vmn, .inl (cy 0, 575, .inl u))]
theorem dX11_startSo_0 : decode cX11_startSo 0 = .ok (.sipush 157, 3) := by decide +kernel
theorem dX11_startSo_3 : decode cX11_startSo 3 = .ok (.istore_n 1, 1) := by decide +kernel
theorem dX11_startSo_4 : decode cX11_startSo 4 = .ok (.iload_n 1, 1) := by decide +kernel
theorem dX11_startSo_5 : decode cX11_startSo 5 = .ok (.sipush 575, 3) := by decide +kernel
theorem dX11_startSo_8 : decode cX11_startSo 8 = .ok (.if_icmp .ge 16, 3) := by decide +kernel
theorem dX11_startSo_24 : decode cX11_startSo 24 = .ok (.iconst 0, 1) := by decide +kernel
theorem dX11_startSo_25 : decode cX11_startSo 25 = .ok (.istore_n 1, 1) := by decide +kernel
theorem dX11_startSo_26 : decode cX11_startSo 26 = .ok (.iload_n 1, 1) := by decide +kernel
theorem dX11_startSo_27 : decode cX11_startSo 27 = .ok (.bipush 70, 2) := by decide +kernel
theorem dX11_startSo_29 : decode cX11_startSo 29 = .ok (.if_icmp .ge 28, 3) := by decide +kernel
theorem dX11_startSo_57 : decode cX11_startSo 57 = .ok (.iconst 0, 1) := by decide +kernel
theorem dX11_startSo_58 : decode cX11_startSo 58 = .ok (.istore_n 1, 1) := by decide +kernel
theorem dX11_startSo_59 : decode cX11_startSo 59 = .ok (.iload_n 1, 1) := by decide +kernel
theorem dX11_startSo_60 : decode cX11_startSo 60 = .ok (.bipush 49, 2) := by decide +kernel
theorem dX11_startSo_62 : decode cX11_startSo 62 = .ok (.if_icmp .ge 28, 3) := by decide +kernel
theorem dX11_startSo_90 : decode cX11_startSo 90 = .ok (.iconst 0, 1) := by decide +kernel
theorem dX11_startSo_91 : decode cX11_startSo 91 = .ok (.istore_n 1, 1) := by decide +kernel
theorem dX11_startSo_92 : decode cX11_startSo 92 = .ok (.iload_n 1, 1) := by decide +kernel
theorem dX11_startSo_93 : decode cX11_startSo 93 = .ok (.bipush 7, 2) := by decide +kernel
theorem dX11_startSo_95 : decode cX11_startSo 95 = .ok (.if_icmp .ge 49, 3) := by decide +kernel
theorem dX11_startSo_144 : decode cX11_startSo 144 = .ok (.return_, 1) := by decide +kernel
theorem dX11_startSo_98 : decode cX11_startSo 98 = .ok (.aload_n 0, 1) := by decide +kernel
theorem dX11_startSo_99 : decode cX11_startSo 99 = .ok (.getfield 98, 3) := by decide +kernel
theorem t1456 : Cond.fieldLink RX11 98 "LikenessPoundModel" "now" "[I" ∈ GW := gw_mem 1570 (by decide +kernel) (by decide +kernel)
theorem gf_X11_98 {p : Program} {l : Launch} {e : Env} {R : Room} {s : State} {m : MethodId} {args : Array Value} {below : List Frame} {meth : Method} {c : Code} {H : Heap} {locs : List Loc} {cells slots : Nat} {Q : State → Prop} {cc : ByteArray} {pc : Nat} {ls : Array Slot} {rest : List Value} {D : va_G} {a : Nat} {tys : List (ClassId × FieldType)} {ws : va_W} (hx : p.tables.exec = Jvm.exec) (hb : c.code = cc) (hts : ∀ w ∈ GW, w.before args s = true) (hown : s.vm.findClass RX11 = some m.cls) (hK : va_K D vwCl tys s) (hP : va_P D vwCl ws H) (q0 : Nat) {fs : List Value} (he : ws[q0]? = some (a, .inr (12, fs))) {v : Value} (hv : fs[14]? = some v) (hdg : decode cc pc = .ok (.getfield 98, 3)) (kk : W p l e R s m args below meth c H locs cells slots Q (F0 m (pc + 3) ls (v :: rest))) : W p l e R s m args below meth c H locs cells slots Q (F0 m pc ls (.ref a :: rest)) := va_get (C := RX11) (T := TX11) (N := 47) (ci := 12) hx hb hts inX11 hown hK hP q0 he rfl 14 (by decide) (hts _ t1456) (fun _ h => h) hv hdg kk
theorem dX11_startSo_102 : decode cX11_startSo 102 = .ok (.sipush 158, 3) := by decide +kernel
theorem dX11_startSo_105 : decode cX11_startSo 105 = .ok (.iload_n 1, 1) := by decide +kernel
theorem dX11_startSo_106 : decode cX11_startSo 106 = .ok (.iadd, 1) := by decide +kernel
theorem dX11_startSo_107 : decode cX11_startSo 107 = .ok (.aload_n 0, 1) := by decide +kernel
theorem dX11_startSo_108 : decode cX11_startSo 108 = .ok (.getfield 98, 3) := by decide +kernel
theorem dX11_startSo_111 : decode cX11_startSo 111 = .ok (.iconst 4, 1) := by decide +kernel
theorem dX11_startSo_112 : decode cX11_startSo 112 = .ok (.iload_n 1, 1) := by decide +kernel
theorem dX11_startSo_113 : decode cX11_startSo 113 = .ok (.iadd, 1) := by decide +kernel
theorem dX11_startSo_114 : decode cX11_startSo 114 = .ok (.iaload, 1) := by decide +kernel
theorem dX11_startSo_115 : decode cX11_startSo 115 = .ok (.iastore, 1) := by decide +kernel
theorem dX11_startSo_116 : decode cX11_startSo 116 = .ok (.aload_n 0, 1) := by decide +kernel
theorem dX11_startSo_117 : decode cX11_startSo 117 = .ok (.getfield 98, 3) := by decide +kernel
theorem dX11_startSo_120 : decode cX11_startSo 120 = .ok (.sipush 235, 3) := by decide +kernel
theorem dX11_startSo_123 : decode cX11_startSo 123 = .ok (.iload_n 1, 1) := by decide +kernel
theorem dX11_startSo_124 : decode cX11_startSo 124 = .ok (.iadd, 1) := by decide +kernel
theorem dX11_startSo_125 : decode cX11_startSo 125 = .ok (.iconst (-1), 1) := by decide +kernel
theorem dX11_startSo_126 : decode cX11_startSo 126 = .ok (.iastore, 1) := by decide +kernel
theorem dX11_startSo_127 : decode cX11_startSo 127 = .ok (.aload_n 0, 1) := by decide +kernel
theorem dX11_startSo_128 : decode cX11_startSo 128 = .ok (.getfield 98, 3) := by decide +kernel
theorem dX11_startSo_131 : decode cX11_startSo 131 = .ok (.sipush 242, 3) := by decide +kernel
theorem dX11_startSo_134 : decode cX11_startSo 134 = .ok (.iload_n 1, 1) := by decide +kernel
theorem dX11_startSo_135 : decode cX11_startSo 135 = .ok (.iadd, 1) := by decide +kernel
theorem dX11_startSo_136 : decode cX11_startSo 136 = .ok (.iconst (-1), 1) := by decide +kernel
theorem dX11_startSo_137 : decode cX11_startSo 137 = .ok (.iastore, 1) := by decide +kernel
theorem dX11_startSo_138 : decode cX11_startSo 138 = .ok (.iinc 1 1, 3) := by decide +kernel
theorem dX11_startSo_141 : decode cX11_startSo 141 = .ok (.goto (-49), 3) := by decide +kernel
theorem dX11_startSo_65 : decode cX11_startSo 65 = .ok (.aload_n 0, 1) := by decide +kernel
theorem dX11_startSo_66 : decode cX11_startSo 66 = .ok (.getfield 98, 3) := by decide +kernel
theorem dX11_startSo_69 : decode cX11_startSo 69 = .ok (.sipush 249, 3) := by decide +kernel
theorem dX11_startSo_72 : decode cX11_startSo 72 = .ok (.iload_n 1, 1) := by decide +kernel
theorem dX11_startSo_73 : decode cX11_startSo 73 = .ok (.iadd, 1) := by decide +kernel
theorem dX11_startSo_74 : decode cX11_startSo 74 = .ok (.aload_n 0, 1) := by decide +kernel
theorem dX11_startSo_75 : decode cX11_startSo 75 = .ok (.getfield 98, 3) := by decide +kernel
theorem dX11_startSo_78 : decode cX11_startSo 78 = .ok (.bipush 108, 2) := by decide +kernel
theorem dX11_startSo_80 : decode cX11_startSo 80 = .ok (.iload_n 1, 1) := by decide +kernel
theorem dX11_startSo_81 : decode cX11_startSo 81 = .ok (.iadd, 1) := by decide +kernel
theorem dX11_startSo_82 : decode cX11_startSo 82 = .ok (.iaload, 1) := by decide +kernel
theorem dX11_startSo_83 : decode cX11_startSo 83 = .ok (.iastore, 1) := by decide +kernel
theorem dX11_startSo_84 : decode cX11_startSo 84 = .ok (.iinc 1 1, 3) := by decide +kernel
theorem dX11_startSo_87 : decode cX11_startSo 87 = .ok (.goto (-28), 3) := by decide +kernel
theorem dX11_startSo_32 : decode cX11_startSo 32 = .ok (.aload_n 0, 1) := by decide +kernel
theorem dX11_startSo_33 : decode cX11_startSo 33 = .ok (.getfield 98, 3) := by decide +kernel
theorem dX11_startSo_36 : decode cX11_startSo 36 = .ok (.sipush 165, 3) := by decide +kernel
theorem dX11_startSo_39 : decode cX11_startSo 39 = .ok (.iload_n 1, 1) := by decide +kernel
theorem dX11_startSo_40 : decode cX11_startSo 40 = .ok (.iadd, 1) := by decide +kernel
theorem dX11_startSo_41 : decode cX11_startSo 41 = .ok (.aload_n 0, 1) := by decide +kernel
theorem dX11_startSo_42 : decode cX11_startSo 42 = .ok (.getfield 98, 3) := by decide +kernel
theorem dX11_startSo_45 : decode cX11_startSo 45 = .ok (.bipush 31, 2) := by decide +kernel
theorem dX11_startSo_47 : decode cX11_startSo 47 = .ok (.iload_n 1, 1) := by decide +kernel
theorem dX11_startSo_48 : decode cX11_startSo 48 = .ok (.iadd, 1) := by decide +kernel
theorem dX11_startSo_49 : decode cX11_startSo 49 = .ok (.iaload, 1) := by decide +kernel
theorem dX11_startSo_50 : decode cX11_startSo 50 = .ok (.iastore, 1) := by decide +kernel
theorem dX11_startSo_51 : decode cX11_startSo 51 = .ok (.iinc 1 1, 3) := by decide +kernel
theorem dX11_startSo_54 : decode cX11_startSo 54 = .ok (.goto (-28), 3) := by decide +kernel
theorem dX11_startSo_11 : decode cX11_startSo 11 = .ok (.aload_n 0, 1) := by decide +kernel
theorem dX11_startSo_12 : decode cX11_startSo 12 = .ok (.getfield 98, 3) := by decide +kernel
theorem dX11_startSo_15 : decode cX11_startSo 15 = .ok (.iload_n 1, 1) := by decide +kernel
theorem dX11_startSo_16 : decode cX11_startSo 16 = .ok (.iconst 0, 1) := by decide +kernel
theorem dX11_startSo_17 : decode cX11_startSo 17 = .ok (.iastore, 1) := by decide +kernel
theorem dX11_startSo_18 : decode cX11_startSo 18 = .ok (.iinc 1 1, 3) := by decide +kernel
theorem dX11_startSo_21 : decode cX11_startSo 21 = .ok (.goto (-17), 3) := by decide +kernel
set_option maxHeartbeats 4000000 in
set_option maxRecDepth 100000 in
theorem m_startSo (l : Launch) (dC : Nat → ClassId) (dI : Nat → Nat → Nat) (cy : Nat → ClassId) (sz : Nat) (vnh : Nat → Int32) (vo : Nat) (voth : Int32) (vmt : Nat) (votp : Int32) (vosz : Int32) (volm : Int32) (voto : Int32) (vofr : Int32) (vokd : Int32) (vonu : Int32) (vosg : Int32) (vofa : Int32) (vopl : Int32) (vowd : Int64) (votd : Int32) (vmn : Nat) (vmr : Nat) (vmk : Nat) (vms : Nat) (vma : Nat) (vmm : Nat) (vmrn : Nat) (vmkn : Nat) (vmik : Nat) (vmon : Nat) (vosm : Int32) (vohp : Int32) (vmw : Nat) (vmf : Nat) (vmb : Nat) (vomb : Int32) (vmd : Nat) (vmc : Nat) (vocm : Int32) (voct : Int32) (vocy : Int32) (vmx : Nat) (votx : Int32) (vose : Int32) (vml : Nat) (vmwr : Nat) (voln : Int32) (vohw : Int32) (vmno : Nat) (vond : Int32) (voon : Int32) (vowi : Int32) (votop : Int32) (vmnf : Nat → Int32) (p_vmnf : RN vnh vmnf) : Met l yX11_startSo (wl yX11_startSo cX11_startSo 2 none) ({ frames := 0, cells := 0, slots := 0, locals := 0 }) (Pw (dC, dI) vwCl cy [(vo, .inr (12, [.int voth, .ref vmt, .int votp, .int vosz, .int volm, .int voto, .int vofr, .int vokd, .int vonu, .int vosg, .int vofa, .int vopl, .long vowd, .int votd, .ref vmn, .ref vmr, .ref vmk, .ref vms, .ref vma, .ref vmm, .ref vmrn, .ref vmkn, .ref vmik, .ref vmon, .int vosm, .int vohp, .ref vmw, .ref vmf, .ref vmb, .int vomb, .ref vmd, .ref vmc, .int vocm, .int voct, .int vocy, .ref vmx, .int votx, .int vose, .ref vml, .ref vmwr, .int voln, .int vohw, .ref vmno, .int vond, .int voon, .int vowi, .int votop])), (vmn, .inl (cy 0, 575, .inl vmnf))] sz [.ref vo] nE) (Qv (dC, dI) vwCl (fun (u : (Nat → Int32)) => (NW vnh u)) (O_m_startSo cy vnh vo voth vmt votp vosz volm voto vofr vokd vonu vosg vofa vopl vowd votd vmn vmr vmk vms vma vmm vmrn vmkn vmik vmon vosm vohp vmw vmf vmb vomb vmd vmc vocm voct vocy vmx votx vose vml vmwr voln vohw vmno vond voon vowi votop vmnf) (va_A [(vo, .inr (12, [.int voth, .ref vmt, .int votp, .int vosz, .int volm, .int voto, .int vofr, .int vokd, .int vonu, .int vosg, .int vofa, .int vopl, .long vowd, .int votd, .ref vmn, .ref vmr, .ref vmk, .ref vms, .ref vma, .ref vmm, .ref vmrn, .ref vmkn, .ref vmik, .ref vmon, .int vosm, .int vohp, .ref vmw, .ref vmf, .ref vmb, .int vomb, .ref vmd, .ref vmc, .int vocm, .int voct, .int vocy, .ref vmx, .int votx, .int vose, .ref vml, .ref vmwr, .int voln, .int vohw, .ref vmno, .int vond, .int voon, .int vowi, .int votop])), (vmn, .inl (cy 0, 575, .inl vmnf))] sz)) 0 0 (va_A [(vo, .inr (12, [.int voth, .ref vmt, .int votp, .int vosz, .int volm, .int voto, .int vofr, .int vokd, .int vonu, .int vosg, .int vofa, .int vopl, .long vowd, .int votd, .ref vmn, .ref vmr, .ref vmk, .ref vms, .ref vma, .ref vmm, .ref vmrn, .ref vmkn, .ref vmik, .ref vmon, .int vosm, .int vohp, .ref vmw, .ref vmf, .ref vmb, .int vomb, .ref vmd, .ref vmc, .int vocm, .int voct, .int vocy, .ref vmx, .int votx, .int vose, .ref vml, .ref vmwr, .int voln, .int vohw, .ref vmno, .int vond, .int voon, .int vowi, .int votop])), (vmn, .inl (cy 0, 575, .inl vmnf))] sz) := by
  refine mw (Qc := Qv (dC, dI) vwCl (fun (u : (Nat → Int32)) => (NW vnh u)) (O_m_startSo cy vnh vo voth vmt votp vosz volm voto vofr vokd vonu vosg vofa vopl vowd votd vmn vmr vmk vms vma vmm vmrn vmkn vmik vmon vosm vohp vmw vmf vmb vomb vmd vmc vocm voct vocy vmx votx vose vml vmwr voln vohw vmno vond voon vowi votop vmnf)) RX11 rfl (by decide +kernel) (Nat.le_of_ble_eq_true rfl) ?_
  intro p e s m below meth c A hx hb hr hlocks av9 hav hts hown hnm hml hK hP hD hA hS hE hAe Q9 hQ9 ls hl
  have hl : lv_has ls 2 [(0, .ref vo)] := hl
  refine lv_sipush (v := 157) hx hb dX11_startSo_0 (by decide) ?_
  refine lv_istore_n (lv' := [(1, .int 157), (0, .ref vo)]) hx hb dX11_startSo_3 rfl hl (by decide) rfl (fun ls hl => ?_)
  have loop1 : ∀ (n1 : Nat) (x_2 : Int32) (g_3 : Nat → Int32), (157 ≤ x_2.toInt ∧ x_2.toInt ≤ 575) → RN vnh g_3 → (ZR g_3 x_2.toInt) → 575 - x_2.toInt < (n1 : Int) → ∀ (H : Heap) (locs : List Loc), va_P (dC, dI) vwCl [(vo, .inr (12, [.int voth, .ref vmt, .int votp, .int vosz, .int volm, .int voto, .int vofr, .int vokd, .int vonu, .int vosg, .int vofa, .int vopl, .long vowd, .int votd, .ref vmn, .ref vmr, .ref vmk, .ref vms, .ref vma, .ref vmm, .ref vmrn, .ref vmkn, .ref vmik, .ref vmon, .int vosm, .int vohp, .ref vmw, .ref vmf, .ref vmb, .int vomb, .ref vmd, .ref vmc, .int vocm, .int voct, .int vocy, .ref vmx, .int votx, .int vose, .ref vml, .ref vmwr, .int voln, .int vohw, .ref vmno, .int vond, .int voon, .int vowi, .int votop])), (vmn, .inl (cy 0, 575, .inl g_3))] H → va_D A [(vo, .inr (12, [.int voth, .ref vmt, .int votp, .int vosz, .int volm, .int voto, .int vofr, .int vokd, .int vonu, .int vosg, .int vofa, .int vopl, .long vowd, .int votd, .ref vmn, .ref vmr, .ref vmk, .ref vms, .ref vma, .ref vmm, .ref vmrn, .ref vmkn, .ref vmik, .ref vmon, .int vosm, .int vohp, .ref vmw, .ref vmf, .ref vmb, .int vomb, .ref vmd, .ref vmc, .int vocm, .int voct, .int vocy, .ref vmx, .int votx, .int vose, .ref vml, .ref vmwr, .int voln, .int vohw, .ref vmno, .int vond, .int voon, .int vowi, .int votop])), (vmn, .inl (cy 0, 575, .inl g_3))] → va_S A s.heap H locs → ∀ ls : Array Slot, lv_has ls 2 [(1, .int x_2), (0, .ref vo)] → W p l e ({ frames := 0, cells := 0, slots := 0, locals := 0 }) s m av9 below meth c H locs 0 0 Q9 (F0 m 4 ls []) := by
    intro n1
    induction n1 with
    | zero =>
      intro x_2 g_3 bx_2 p_g_3 v1_0 hn1 H locs hP hD hS ls hl
      exfalso; omega
    | succ n1 ih1 =>
      intro x_2 g_3 bx_2 p_g_3 v1_0 hn1 H locs hP hD hS ls hl
      refine lv_iload_n hx hb dX11_startSo_4 rfl (lv_at hl 0 rfl) ?_
      refine lv_sipush (v := 575) hx hb dX11_startSo_5 (by decide) ?_
      have k_575 : (575 : Int32).toInt = 575 := by decide
      refine lv_icmp_ge (tgt := 24) hx hb dX11_startSo_8 (by decide) (fun c_4 => ?_) (fun c_4 => ?_)
      · skip
        have c_4 : (575 : Int32).toInt ≤ x_2.toInt := i_le.mp c_4
        have w_g_3 : NW vnh g_3 := ZR.nw v1_0 p_g_3 (by omega)
        refine lv_iconst (v := 0) hx hb dX11_startSo_24 (by decide) ?_
        refine lv_istore_n (lv' := [(1, .int 0), (0, .ref vo)]) hx hb dX11_startSo_25 rfl hl (by decide) rfl (fun ls hl => ?_)
        have loop5 : ∀ (n5 : Nat) (x_6 : Int32) (g_7 : Nat → Int32), (0 ≤ x_6.toInt ∧ x_6.toInt ≤ 70) → NW vnh g_7 → 70 - x_6.toInt < (n5 : Int) → ∀ (H : Heap) (locs : List Loc), va_P (dC, dI) vwCl [(vo, .inr (12, [.int voth, .ref vmt, .int votp, .int vosz, .int volm, .int voto, .int vofr, .int vokd, .int vonu, .int vosg, .int vofa, .int vopl, .long vowd, .int votd, .ref vmn, .ref vmr, .ref vmk, .ref vms, .ref vma, .ref vmm, .ref vmrn, .ref vmkn, .ref vmik, .ref vmon, .int vosm, .int vohp, .ref vmw, .ref vmf, .ref vmb, .int vomb, .ref vmd, .ref vmc, .int vocm, .int voct, .int vocy, .ref vmx, .int votx, .int vose, .ref vml, .ref vmwr, .int voln, .int vohw, .ref vmno, .int vond, .int voon, .int vowi, .int votop])), (vmn, .inl (cy 0, 575, .inl g_7))] H → va_D A [(vo, .inr (12, [.int voth, .ref vmt, .int votp, .int vosz, .int volm, .int voto, .int vofr, .int vokd, .int vonu, .int vosg, .int vofa, .int vopl, .long vowd, .int votd, .ref vmn, .ref vmr, .ref vmk, .ref vms, .ref vma, .ref vmm, .ref vmrn, .ref vmkn, .ref vmik, .ref vmon, .int vosm, .int vohp, .ref vmw, .ref vmf, .ref vmb, .int vomb, .ref vmd, .ref vmc, .int vocm, .int voct, .int vocy, .ref vmx, .int votx, .int vose, .ref vml, .ref vmwr, .int voln, .int vohw, .ref vmno, .int vond, .int voon, .int vowi, .int votop])), (vmn, .inl (cy 0, 575, .inl g_7))] → va_S A s.heap H locs → ∀ ls : Array Slot, lv_has ls 2 [(1, .int x_6), (0, .ref vo)] → W p l e ({ frames := 0, cells := 0, slots := 0, locals := 0 }) s m av9 below meth c H locs 0 0 Q9 (F0 m 26 ls []) := by
          intro n5
          induction n5 with
          | zero =>
            intro x_6 g_7 bx_6 p_g_7 hn5 H locs hP hD hS ls hl
            exfalso; omega
          | succ n5 ih5 =>
            intro x_6 g_7 bx_6 p_g_7 hn5 H locs hP hD hS ls hl
            refine lv_iload_n hx hb dX11_startSo_26 rfl (lv_at hl 0 rfl) ?_
            refine lv_bipush (v := 70) hx hb dX11_startSo_27 (by decide) ?_
            have k_70 : (70 : Int32).toInt = 70 := by decide
            refine lv_icmp_ge (tgt := 57) hx hb dX11_startSo_29 (by decide) (fun c_8 => ?_) (fun c_8 => ?_)
            · skip
              have c_8 : (70 : Int32).toInt ≤ x_6.toInt := i_le.mp c_8
              refine lv_iconst (v := 0) hx hb dX11_startSo_57 (by decide) ?_
              refine lv_istore_n (lv' := [(1, .int 0), (0, .ref vo)]) hx hb dX11_startSo_58 rfl hl (by decide) rfl (fun ls hl => ?_)
              have loop9 : ∀ (n9 : Nat) (x_10 : Int32) (g_11 : Nat → Int32), (0 ≤ x_10.toInt ∧ x_10.toInt ≤ 49) → NW vnh g_11 → 49 - x_10.toInt < (n9 : Int) → ∀ (H : Heap) (locs : List Loc), va_P (dC, dI) vwCl [(vo, .inr (12, [.int voth, .ref vmt, .int votp, .int vosz, .int volm, .int voto, .int vofr, .int vokd, .int vonu, .int vosg, .int vofa, .int vopl, .long vowd, .int votd, .ref vmn, .ref vmr, .ref vmk, .ref vms, .ref vma, .ref vmm, .ref vmrn, .ref vmkn, .ref vmik, .ref vmon, .int vosm, .int vohp, .ref vmw, .ref vmf, .ref vmb, .int vomb, .ref vmd, .ref vmc, .int vocm, .int voct, .int vocy, .ref vmx, .int votx, .int vose, .ref vml, .ref vmwr, .int voln, .int vohw, .ref vmno, .int vond, .int voon, .int vowi, .int votop])), (vmn, .inl (cy 0, 575, .inl g_11))] H → va_D A [(vo, .inr (12, [.int voth, .ref vmt, .int votp, .int vosz, .int volm, .int voto, .int vofr, .int vokd, .int vonu, .int vosg, .int vofa, .int vopl, .long vowd, .int votd, .ref vmn, .ref vmr, .ref vmk, .ref vms, .ref vma, .ref vmm, .ref vmrn, .ref vmkn, .ref vmik, .ref vmon, .int vosm, .int vohp, .ref vmw, .ref vmf, .ref vmb, .int vomb, .ref vmd, .ref vmc, .int vocm, .int voct, .int vocy, .ref vmx, .int votx, .int vose, .ref vml, .ref vmwr, .int voln, .int vohw, .ref vmno, .int vond, .int voon, .int vowi, .int votop])), (vmn, .inl (cy 0, 575, .inl g_11))] → va_S A s.heap H locs → ∀ ls : Array Slot, lv_has ls 2 [(1, .int x_10), (0, .ref vo)] → W p l e ({ frames := 0, cells := 0, slots := 0, locals := 0 }) s m av9 below meth c H locs 0 0 Q9 (F0 m 59 ls []) := by
                intro n9
                induction n9 with
                | zero =>
                  intro x_10 g_11 bx_10 p_g_11 hn9 H locs hP hD hS ls hl
                  exfalso; omega
                | succ n9 ih9 =>
                  intro x_10 g_11 bx_10 p_g_11 hn9 H locs hP hD hS ls hl
                  refine lv_iload_n hx hb dX11_startSo_59 rfl (lv_at hl 0 rfl) ?_
                  refine lv_bipush (v := 49) hx hb dX11_startSo_60 (by decide) ?_
                  have k_49 : (49 : Int32).toInt = 49 := by decide
                  refine lv_icmp_ge (tgt := 90) hx hb dX11_startSo_62 (by decide) (fun c_12 => ?_) (fun c_12 => ?_)
                  · skip
                    have c_12 : (49 : Int32).toInt ≤ x_10.toInt := i_le.mp c_12
                    refine lv_iconst (v := 0) hx hb dX11_startSo_90 (by decide) ?_
                    refine lv_istore_n (lv' := [(1, .int 0), (0, .ref vo)]) hx hb dX11_startSo_91 rfl hl (by decide) rfl (fun ls hl => ?_)
                    have loop13 : ∀ (n13 : Nat) (x_14 : Int32) (g_15 : Nat → Int32), (0 ≤ x_14.toInt ∧ x_14.toInt ≤ 7) → NW vnh g_15 → 7 - x_14.toInt < (n13 : Int) → ∀ (H : Heap) (locs : List Loc), va_P (dC, dI) vwCl [(vo, .inr (12, [.int voth, .ref vmt, .int votp, .int vosz, .int volm, .int voto, .int vofr, .int vokd, .int vonu, .int vosg, .int vofa, .int vopl, .long vowd, .int votd, .ref vmn, .ref vmr, .ref vmk, .ref vms, .ref vma, .ref vmm, .ref vmrn, .ref vmkn, .ref vmik, .ref vmon, .int vosm, .int vohp, .ref vmw, .ref vmf, .ref vmb, .int vomb, .ref vmd, .ref vmc, .int vocm, .int voct, .int vocy, .ref vmx, .int votx, .int vose, .ref vml, .ref vmwr, .int voln, .int vohw, .ref vmno, .int vond, .int voon, .int vowi, .int votop])), (vmn, .inl (cy 0, 575, .inl g_15))] H → va_D A [(vo, .inr (12, [.int voth, .ref vmt, .int votp, .int vosz, .int volm, .int voto, .int vofr, .int vokd, .int vonu, .int vosg, .int vofa, .int vopl, .long vowd, .int votd, .ref vmn, .ref vmr, .ref vmk, .ref vms, .ref vma, .ref vmm, .ref vmrn, .ref vmkn, .ref vmik, .ref vmon, .int vosm, .int vohp, .ref vmw, .ref vmf, .ref vmb, .int vomb, .ref vmd, .ref vmc, .int vocm, .int voct, .int vocy, .ref vmx, .int votx, .int vose, .ref vml, .ref vmwr, .int voln, .int vohw, .ref vmno, .int vond, .int voon, .int vowi, .int votop])), (vmn, .inl (cy 0, 575, .inl g_15))] → va_S A s.heap H locs → ∀ ls : Array Slot, lv_has ls 2 [(1, .int x_14), (0, .ref vo)] → W p l e ({ frames := 0, cells := 0, slots := 0, locals := 0 }) s m av9 below meth c H locs 0 0 Q9 (F0 m 92 ls []) := by
                      intro n13
                      induction n13 with
                      | zero =>
                        intro x_14 g_15 bx_14 p_g_15 hn13 H locs hP hD hS ls hl
                        exfalso; omega
                      | succ n13 ih13 =>
                        intro x_14 g_15 bx_14 p_g_15 hn13 H locs hP hD hS ls hl
                        refine lv_iload_n hx hb dX11_startSo_92 rfl (lv_at hl 0 rfl) ?_
                        refine lv_bipush (v := 7) hx hb dX11_startSo_93 (by decide) ?_
                        have k_7 : (7 : Int32).toInt = 7 := by decide
                        refine lv_icmp_ge (tgt := 144) hx hb dX11_startSo_95 (by decide) (fun c_16 => ?_) (fun c_16 => ?_)
                        · skip
                          have c_16 : (7 : Int32).toInt ≤ x_14.toInt := i_le.mp c_16
                          rw [hQ9]
                          exact re_v g_15 hx hb hr hlocks (show NW vnh g_15 from p_g_15) (hP.sub [0, 1] rfl) (hD.sub [0, 1] rfl rfl) hS dX11_startSo_144
                        · skip
                          have c_16 : ¬ ((7 : Int32).toInt ≤ x_14.toInt) := fun h9 => c_16 (i_le.mpr h9)
                          refine lv_aload_n hx hb dX11_startSo_98 rfl (lv_at hl 1 rfl) ?_
                          refine gf_X11_98 hx hb hts hown hK hP 0 rfl rfl dX11_startSo_99 ?_
                          refine lv_sipush (v := 158) hx hb dX11_startSo_102 (by decide) ?_
                          refine lv_iload_n hx hb dX11_startSo_105 rfl (lv_at hl 0 rfl) ?_
                          refine lv_iadd hx hb dX11_startSo_106 ?_
                          refine lv_topi (fun z_17 ez_17 => ?_)
                          have k_158 : (158 : Int32).toInt = 158 := by decide
                          have bz_17 : z_17.toInt = (158 : Int32).toInt + x_14.toInt := i_add ez_17 (by omega) (by omega)
                          refine lv_aload_n hx hb dX11_startSo_107 rfl (lv_at hl 1 rfl) ?_
                          refine gf_X11_98 hx hb hts hown hK hP 0 rfl rfl dX11_startSo_108 ?_
                          refine lv_iconst (v := 4) hx hb dX11_startSo_111 (by decide) ?_
                          refine lv_iload_n hx hb dX11_startSo_112 rfl (lv_at hl 0 rfl) ?_
                          refine lv_iadd hx hb dX11_startSo_113 ?_
                          refine lv_topi (fun z_18 ez_18 => ?_)
                          have k_4 : (4 : Int32).toInt = 4 := by decide
                          have bz_18 : z_18.toInt = (4 : Int32).toInt + x_14.toInt := i_add ez_18 (by omega) (by omega)
                          have hin_19 : vp_in z_18 575 := vp_in_iff.mpr ⟨by omega, by omega⟩
                          refine va_iald hx hb hK hP 1 0 rfl rfl hin_19 dX11_startSo_114 ?_
                          refine lv_topi (fun z_20 ez_20 => ?_)
                          have hin_21 : vp_in z_17 575 := vp_in_iff.mpr ⟨by omega, by omega⟩
                          refine va_iast hx hb hK hP hD hS 1 0 rfl rfl hin_21 dX11_startSo_115 (fun H locs hP hD hS => ?_)
                          obtain ⟨f_22, ef_22⟩ : ∃ z : Nat → Int32, z = upd g_15 (Int32.toNatClampNeg z_17) z_20 := ⟨_, rfl⟩
                          have hP : va_P (dC, dI) vwCl [(vo, .inr (12, [.int voth, .ref vmt, .int votp, .int vosz, .int volm, .int voto, .int vofr, .int vokd, .int vonu, .int vosg, .int vofa, .int vopl, .long vowd, .int votd, .ref vmn, .ref vmr, .ref vmk, .ref vms, .ref vma, .ref vmm, .ref vmrn, .ref vmkn, .ref vmik, .ref vmon, .int vosm, .int vohp, .ref vmw, .ref vmf, .ref vmb, .int vomb, .ref vmd, .ref vmc, .int vocm, .int voct, .int vocy, .ref vmx, .int votx, .int vose, .ref vml, .ref vmwr, .int voln, .int vohw, .ref vmno, .int vond, .int voon, .int vowi, .int votop])), (vmn, .inl (cy 0, 575, .inl f_22))] H := by rw [ef_22]; exact hP
                          have hD : va_D A [(vo, .inr (12, [.int voth, .ref vmt, .int votp, .int vosz, .int volm, .int voto, .int vofr, .int vokd, .int vonu, .int vosg, .int vofa, .int vopl, .long vowd, .int votd, .ref vmn, .ref vmr, .ref vmk, .ref vms, .ref vma, .ref vmm, .ref vmrn, .ref vmkn, .ref vmik, .ref vmon, .int vosm, .int vohp, .ref vmw, .ref vmf, .ref vmb, .int vomb, .ref vmd, .ref vmc, .int vocm, .int voct, .int vocy, .ref vmx, .int votx, .int vose, .ref vml, .ref vmwr, .int voln, .int vohw, .ref vmno, .int vond, .int voon, .int vowi, .int votop])), (vmn, .inl (cy 0, 575, .inl f_22))] := by rw [ef_22]; exact hD
                          have p_f_22 : NW vnh f_22 := by rw [ef_22]; exact p_g_15.upd ⟨by omega, by omega⟩
                          refine lv_aload_n hx hb dX11_startSo_116 rfl (lv_at hl 1 rfl) ?_
                          refine gf_X11_98 hx hb hts hown hK hP 0 rfl rfl dX11_startSo_117 ?_
                          refine lv_sipush (v := 235) hx hb dX11_startSo_120 (by decide) ?_
                          refine lv_iload_n hx hb dX11_startSo_123 rfl (lv_at hl 0 rfl) ?_
                          refine lv_iadd hx hb dX11_startSo_124 ?_
                          refine lv_topi (fun z_23 ez_23 => ?_)
                          have k_235 : (235 : Int32).toInt = 235 := by decide
                          have bz_23 : z_23.toInt = (235 : Int32).toInt + x_14.toInt := i_add ez_23 (by omega) (by omega)
                          refine lv_iconst (v := (-1)) hx hb dX11_startSo_125 (by decide) ?_
                          have hin_24 : vp_in z_23 575 := vp_in_iff.mpr ⟨by omega, by omega⟩
                          refine va_iast hx hb hK hP hD hS 1 0 rfl rfl hin_24 dX11_startSo_126 (fun H locs hP hD hS => ?_)
                          obtain ⟨f_25, ef_25⟩ : ∃ z : Nat → Int32, z = upd f_22 (Int32.toNatClampNeg z_23) (-1) := ⟨_, rfl⟩
                          have hP : va_P (dC, dI) vwCl [(vo, .inr (12, [.int voth, .ref vmt, .int votp, .int vosz, .int volm, .int voto, .int vofr, .int vokd, .int vonu, .int vosg, .int vofa, .int vopl, .long vowd, .int votd, .ref vmn, .ref vmr, .ref vmk, .ref vms, .ref vma, .ref vmm, .ref vmrn, .ref vmkn, .ref vmik, .ref vmon, .int vosm, .int vohp, .ref vmw, .ref vmf, .ref vmb, .int vomb, .ref vmd, .ref vmc, .int vocm, .int voct, .int vocy, .ref vmx, .int votx, .int vose, .ref vml, .ref vmwr, .int voln, .int vohw, .ref vmno, .int vond, .int voon, .int vowi, .int votop])), (vmn, .inl (cy 0, 575, .inl f_25))] H := by rw [ef_25]; exact hP
                          have hD : va_D A [(vo, .inr (12, [.int voth, .ref vmt, .int votp, .int vosz, .int volm, .int voto, .int vofr, .int vokd, .int vonu, .int vosg, .int vofa, .int vopl, .long vowd, .int votd, .ref vmn, .ref vmr, .ref vmk, .ref vms, .ref vma, .ref vmm, .ref vmrn, .ref vmkn, .ref vmik, .ref vmon, .int vosm, .int vohp, .ref vmw, .ref vmf, .ref vmb, .int vomb, .ref vmd, .ref vmc, .int vocm, .int voct, .int vocy, .ref vmx, .int votx, .int vose, .ref vml, .ref vmwr, .int voln, .int vohw, .ref vmno, .int vond, .int voon, .int vowi, .int votop])), (vmn, .inl (cy 0, 575, .inl f_25))] := by rw [ef_25]; exact hD
                          have k_m1 : ((-1) : Int32).toInt = (-1) := by decide
                          have p_f_25 : NW vnh f_25 := by rw [ef_25]; exact p_f_22.upd ⟨by omega, by omega⟩
                          refine lv_aload_n hx hb dX11_startSo_127 rfl (lv_at hl 1 rfl) ?_
                          refine gf_X11_98 hx hb hts hown hK hP 0 rfl rfl dX11_startSo_128 ?_
                          refine lv_sipush (v := 242) hx hb dX11_startSo_131 (by decide) ?_
                          refine lv_iload_n hx hb dX11_startSo_134 rfl (lv_at hl 0 rfl) ?_
                          refine lv_iadd hx hb dX11_startSo_135 ?_
                          refine lv_topi (fun z_26 ez_26 => ?_)
                          have k_242 : (242 : Int32).toInt = 242 := by decide
                          have bz_26 : z_26.toInt = (242 : Int32).toInt + x_14.toInt := i_add ez_26 (by omega) (by omega)
                          refine lv_iconst (v := (-1)) hx hb dX11_startSo_136 (by decide) ?_
                          have hin_27 : vp_in z_26 575 := vp_in_iff.mpr ⟨by omega, by omega⟩
                          refine va_iast hx hb hK hP hD hS 1 0 rfl rfl hin_27 dX11_startSo_137 (fun H locs hP hD hS => ?_)
                          obtain ⟨f_28, ef_28⟩ : ∃ z : Nat → Int32, z = upd f_25 (Int32.toNatClampNeg z_26) (-1) := ⟨_, rfl⟩
                          have hP : va_P (dC, dI) vwCl [(vo, .inr (12, [.int voth, .ref vmt, .int votp, .int vosz, .int volm, .int voto, .int vofr, .int vokd, .int vonu, .int vosg, .int vofa, .int vopl, .long vowd, .int votd, .ref vmn, .ref vmr, .ref vmk, .ref vms, .ref vma, .ref vmm, .ref vmrn, .ref vmkn, .ref vmik, .ref vmon, .int vosm, .int vohp, .ref vmw, .ref vmf, .ref vmb, .int vomb, .ref vmd, .ref vmc, .int vocm, .int voct, .int vocy, .ref vmx, .int votx, .int vose, .ref vml, .ref vmwr, .int voln, .int vohw, .ref vmno, .int vond, .int voon, .int vowi, .int votop])), (vmn, .inl (cy 0, 575, .inl f_28))] H := by rw [ef_28]; exact hP
                          have hD : va_D A [(vo, .inr (12, [.int voth, .ref vmt, .int votp, .int vosz, .int volm, .int voto, .int vofr, .int vokd, .int vonu, .int vosg, .int vofa, .int vopl, .long vowd, .int votd, .ref vmn, .ref vmr, .ref vmk, .ref vms, .ref vma, .ref vmm, .ref vmrn, .ref vmkn, .ref vmik, .ref vmon, .int vosm, .int vohp, .ref vmw, .ref vmf, .ref vmb, .int vomb, .ref vmd, .ref vmc, .int vocm, .int voct, .int vocy, .ref vmx, .int votx, .int vose, .ref vml, .ref vmwr, .int voln, .int vohw, .ref vmno, .int vond, .int voon, .int vowi, .int votop])), (vmn, .inl (cy 0, 575, .inl f_28))] := by rw [ef_28]; exact hD
                          have p_f_28 : NW vnh f_28 := by rw [ef_28]; exact p_f_25.upd ⟨by omega, by omega⟩
                          obtain ⟨z_29, ez_29⟩ : ∃ z : Int32, z = x_14 + 1 := ⟨_, rfl⟩
                          have k_1 : (1 : Int32).toInt = 1 := by decide
                          have bz_29 : z_29.toInt = x_14.toInt + (1 : Int32).toInt := i_add ez_29 (by omega) (by omega)
                          refine lv_iinc (v := z_29) (lv' := [(1, .int z_29), (0, .ref vo)]) hx hb dX11_startSo_138 hl (k := 0) rfl ez_29.symm (by decide) rfl (fun ls hl => ?_)
                          refine lv_goto (tgt := 92) hx hb dX11_startSo_141 (by decide) ?_
                          exact ih13 z_29 f_28 ⟨by omega, by omega⟩ p_f_28 (by omega) _ _ (hP.sub [0, 1] rfl) (hD.sub [0, 1] rfl rfl) hS ls (lv_sub hl [0, 1] rfl)
                    have k_0 : (0 : Int32).toInt = 0 := by decide
                    exact loop13 ((7 - (0 : Int32).toInt).toNat + 1) 0 g_11 ⟨by omega, by omega⟩ p_g_11 (by omega) _ _ hP hD hS ls (lv_sub hl [0, 1] rfl)
                  · skip
                    have c_12 : ¬ ((49 : Int32).toInt ≤ x_10.toInt) := fun h9 => c_12 (i_le.mpr h9)
                    refine lv_aload_n hx hb dX11_startSo_65 rfl (lv_at hl 1 rfl) ?_
                    refine gf_X11_98 hx hb hts hown hK hP 0 rfl rfl dX11_startSo_66 ?_
                    refine lv_sipush (v := 249) hx hb dX11_startSo_69 (by decide) ?_
                    refine lv_iload_n hx hb dX11_startSo_72 rfl (lv_at hl 0 rfl) ?_
                    refine lv_iadd hx hb dX11_startSo_73 ?_
                    refine lv_topi (fun z_30 ez_30 => ?_)
                    have k_249 : (249 : Int32).toInt = 249 := by decide
                    have bz_30 : z_30.toInt = (249 : Int32).toInt + x_10.toInt := i_add ez_30 (by omega) (by omega)
                    refine lv_aload_n hx hb dX11_startSo_74 rfl (lv_at hl 1 rfl) ?_
                    refine gf_X11_98 hx hb hts hown hK hP 0 rfl rfl dX11_startSo_75 ?_
                    refine lv_bipush (v := 108) hx hb dX11_startSo_78 (by decide) ?_
                    refine lv_iload_n hx hb dX11_startSo_80 rfl (lv_at hl 0 rfl) ?_
                    refine lv_iadd hx hb dX11_startSo_81 ?_
                    refine lv_topi (fun z_31 ez_31 => ?_)
                    have k_108 : (108 : Int32).toInt = 108 := by decide
                    have bz_31 : z_31.toInt = (108 : Int32).toInt + x_10.toInt := i_add ez_31 (by omega) (by omega)
                    have hin_32 : vp_in z_31 575 := vp_in_iff.mpr ⟨by omega, by omega⟩
                    refine va_iald hx hb hK hP 1 0 rfl rfl hin_32 dX11_startSo_82 ?_
                    refine lv_topi (fun z_33 ez_33 => ?_)
                    have hin_34 : vp_in z_30 575 := vp_in_iff.mpr ⟨by omega, by omega⟩
                    refine va_iast hx hb hK hP hD hS 1 0 rfl rfl hin_34 dX11_startSo_83 (fun H locs hP hD hS => ?_)
                    obtain ⟨f_35, ef_35⟩ : ∃ z : Nat → Int32, z = upd g_11 (Int32.toNatClampNeg z_30) z_33 := ⟨_, rfl⟩
                    have hP : va_P (dC, dI) vwCl [(vo, .inr (12, [.int voth, .ref vmt, .int votp, .int vosz, .int volm, .int voto, .int vofr, .int vokd, .int vonu, .int vosg, .int vofa, .int vopl, .long vowd, .int votd, .ref vmn, .ref vmr, .ref vmk, .ref vms, .ref vma, .ref vmm, .ref vmrn, .ref vmkn, .ref vmik, .ref vmon, .int vosm, .int vohp, .ref vmw, .ref vmf, .ref vmb, .int vomb, .ref vmd, .ref vmc, .int vocm, .int voct, .int vocy, .ref vmx, .int votx, .int vose, .ref vml, .ref vmwr, .int voln, .int vohw, .ref vmno, .int vond, .int voon, .int vowi, .int votop])), (vmn, .inl (cy 0, 575, .inl f_35))] H := by rw [ef_35]; exact hP
                    have hD : va_D A [(vo, .inr (12, [.int voth, .ref vmt, .int votp, .int vosz, .int volm, .int voto, .int vofr, .int vokd, .int vonu, .int vosg, .int vofa, .int vopl, .long vowd, .int votd, .ref vmn, .ref vmr, .ref vmk, .ref vms, .ref vma, .ref vmm, .ref vmrn, .ref vmkn, .ref vmik, .ref vmon, .int vosm, .int vohp, .ref vmw, .ref vmf, .ref vmb, .int vomb, .ref vmd, .ref vmc, .int vocm, .int voct, .int vocy, .ref vmx, .int votx, .int vose, .ref vml, .ref vmwr, .int voln, .int vohw, .ref vmno, .int vond, .int voon, .int vowi, .int votop])), (vmn, .inl (cy 0, 575, .inl f_35))] := by rw [ef_35]; exact hD
                    have p_f_35 : NW vnh f_35 := by rw [ef_35]; exact p_g_11.upd ⟨by omega, by omega⟩
                    obtain ⟨z_36, ez_36⟩ : ∃ z : Int32, z = x_10 + 1 := ⟨_, rfl⟩
                    have k_1 : (1 : Int32).toInt = 1 := by decide
                    have bz_36 : z_36.toInt = x_10.toInt + (1 : Int32).toInt := i_add ez_36 (by omega) (by omega)
                    refine lv_iinc (v := z_36) (lv' := [(1, .int z_36), (0, .ref vo)]) hx hb dX11_startSo_84 hl (k := 0) rfl ez_36.symm (by decide) rfl (fun ls hl => ?_)
                    refine lv_goto (tgt := 59) hx hb dX11_startSo_87 (by decide) ?_
                    exact ih9 z_36 f_35 ⟨by omega, by omega⟩ p_f_35 (by omega) _ _ (hP.sub [0, 1] rfl) (hD.sub [0, 1] rfl rfl) hS ls (lv_sub hl [0, 1] rfl)
              have k_0 : (0 : Int32).toInt = 0 := by decide
              exact loop9 ((49 - (0 : Int32).toInt).toNat + 1) 0 g_7 ⟨by omega, by omega⟩ p_g_7 (by omega) _ _ hP hD hS ls (lv_sub hl [0, 1] rfl)
            · skip
              have c_8 : ¬ ((70 : Int32).toInt ≤ x_6.toInt) := fun h9 => c_8 (i_le.mpr h9)
              refine lv_aload_n hx hb dX11_startSo_32 rfl (lv_at hl 1 rfl) ?_
              refine gf_X11_98 hx hb hts hown hK hP 0 rfl rfl dX11_startSo_33 ?_
              refine lv_sipush (v := 165) hx hb dX11_startSo_36 (by decide) ?_
              refine lv_iload_n hx hb dX11_startSo_39 rfl (lv_at hl 0 rfl) ?_
              refine lv_iadd hx hb dX11_startSo_40 ?_
              refine lv_topi (fun z_37 ez_37 => ?_)
              have k_165 : (165 : Int32).toInt = 165 := by decide
              have bz_37 : z_37.toInt = (165 : Int32).toInt + x_6.toInt := i_add ez_37 (by omega) (by omega)
              refine lv_aload_n hx hb dX11_startSo_41 rfl (lv_at hl 1 rfl) ?_
              refine gf_X11_98 hx hb hts hown hK hP 0 rfl rfl dX11_startSo_42 ?_
              refine lv_bipush (v := 31) hx hb dX11_startSo_45 (by decide) ?_
              refine lv_iload_n hx hb dX11_startSo_47 rfl (lv_at hl 0 rfl) ?_
              refine lv_iadd hx hb dX11_startSo_48 ?_
              refine lv_topi (fun z_38 ez_38 => ?_)
              have k_31 : (31 : Int32).toInt = 31 := by decide
              have bz_38 : z_38.toInt = (31 : Int32).toInt + x_6.toInt := i_add ez_38 (by omega) (by omega)
              have hin_39 : vp_in z_38 575 := vp_in_iff.mpr ⟨by omega, by omega⟩
              refine va_iald hx hb hK hP 1 0 rfl rfl hin_39 dX11_startSo_49 ?_
              refine lv_topi (fun z_40 ez_40 => ?_)
              have hin_41 : vp_in z_37 575 := vp_in_iff.mpr ⟨by omega, by omega⟩
              refine va_iast hx hb hK hP hD hS 1 0 rfl rfl hin_41 dX11_startSo_50 (fun H locs hP hD hS => ?_)
              obtain ⟨f_42, ef_42⟩ : ∃ z : Nat → Int32, z = upd g_7 (Int32.toNatClampNeg z_37) z_40 := ⟨_, rfl⟩
              have hP : va_P (dC, dI) vwCl [(vo, .inr (12, [.int voth, .ref vmt, .int votp, .int vosz, .int volm, .int voto, .int vofr, .int vokd, .int vonu, .int vosg, .int vofa, .int vopl, .long vowd, .int votd, .ref vmn, .ref vmr, .ref vmk, .ref vms, .ref vma, .ref vmm, .ref vmrn, .ref vmkn, .ref vmik, .ref vmon, .int vosm, .int vohp, .ref vmw, .ref vmf, .ref vmb, .int vomb, .ref vmd, .ref vmc, .int vocm, .int voct, .int vocy, .ref vmx, .int votx, .int vose, .ref vml, .ref vmwr, .int voln, .int vohw, .ref vmno, .int vond, .int voon, .int vowi, .int votop])), (vmn, .inl (cy 0, 575, .inl f_42))] H := by rw [ef_42]; exact hP
              have hD : va_D A [(vo, .inr (12, [.int voth, .ref vmt, .int votp, .int vosz, .int volm, .int voto, .int vofr, .int vokd, .int vonu, .int vosg, .int vofa, .int vopl, .long vowd, .int votd, .ref vmn, .ref vmr, .ref vmk, .ref vms, .ref vma, .ref vmm, .ref vmrn, .ref vmkn, .ref vmik, .ref vmon, .int vosm, .int vohp, .ref vmw, .ref vmf, .ref vmb, .int vomb, .ref vmd, .ref vmc, .int vocm, .int voct, .int vocy, .ref vmx, .int votx, .int vose, .ref vml, .ref vmwr, .int voln, .int vohw, .ref vmno, .int vond, .int voon, .int vowi, .int votop])), (vmn, .inl (cy 0, 575, .inl f_42))] := by rw [ef_42]; exact hD
              have p_f_42 : NW vnh f_42 := by rw [ef_42]; exact p_g_7.upd ⟨by omega, by omega⟩
              obtain ⟨z_43, ez_43⟩ : ∃ z : Int32, z = x_6 + 1 := ⟨_, rfl⟩
              have k_1 : (1 : Int32).toInt = 1 := by decide
              have bz_43 : z_43.toInt = x_6.toInt + (1 : Int32).toInt := i_add ez_43 (by omega) (by omega)
              refine lv_iinc (v := z_43) (lv' := [(1, .int z_43), (0, .ref vo)]) hx hb dX11_startSo_51 hl (k := 0) rfl ez_43.symm (by decide) rfl (fun ls hl => ?_)
              refine lv_goto (tgt := 26) hx hb dX11_startSo_54 (by decide) ?_
              exact ih5 z_43 f_42 ⟨by omega, by omega⟩ p_f_42 (by omega) _ _ (hP.sub [0, 1] rfl) (hD.sub [0, 1] rfl rfl) hS ls (lv_sub hl [0, 1] rfl)
        have k_0 : (0 : Int32).toInt = 0 := by decide
        exact loop5 ((70 - (0 : Int32).toInt).toNat + 1) 0 g_3 ⟨by omega, by omega⟩ w_g_3 (by omega) _ _ hP hD hS ls (lv_sub hl [0, 1] rfl)
      · skip
        have c_4 : ¬ ((575 : Int32).toInt ≤ x_2.toInt) := fun h9 => c_4 (i_le.mpr h9)
        refine lv_aload_n hx hb dX11_startSo_11 rfl (lv_at hl 1 rfl) ?_
        refine gf_X11_98 hx hb hts hown hK hP 0 rfl rfl dX11_startSo_12 ?_
        refine lv_iload_n hx hb dX11_startSo_15 rfl (lv_at hl 0 rfl) ?_
        refine lv_iconst (v := 0) hx hb dX11_startSo_16 (by decide) ?_
        have hin_44 : vp_in x_2 575 := vp_in_iff.mpr ⟨by omega, by omega⟩
        refine va_iast hx hb hK hP hD hS 1 0 rfl rfl hin_44 dX11_startSo_17 (fun H locs hP hD hS => ?_)
        obtain ⟨f_45, ef_45⟩ : ∃ z : Nat → Int32, z = upd g_3 (Int32.toNatClampNeg x_2) 0 := ⟨_, rfl⟩
        have hP : va_P (dC, dI) vwCl [(vo, .inr (12, [.int voth, .ref vmt, .int votp, .int vosz, .int volm, .int voto, .int vofr, .int vokd, .int vonu, .int vosg, .int vofa, .int vopl, .long vowd, .int votd, .ref vmn, .ref vmr, .ref vmk, .ref vms, .ref vma, .ref vmm, .ref vmrn, .ref vmkn, .ref vmik, .ref vmon, .int vosm, .int vohp, .ref vmw, .ref vmf, .ref vmb, .int vomb, .ref vmd, .ref vmc, .int vocm, .int voct, .int vocy, .ref vmx, .int votx, .int vose, .ref vml, .ref vmwr, .int voln, .int vohw, .ref vmno, .int vond, .int voon, .int vowi, .int votop])), (vmn, .inl (cy 0, 575, .inl f_45))] H := by rw [ef_45]; exact hP
        have hD : va_D A [(vo, .inr (12, [.int voth, .ref vmt, .int votp, .int vosz, .int volm, .int voto, .int vofr, .int vokd, .int vonu, .int vosg, .int vofa, .int vopl, .long vowd, .int votd, .ref vmn, .ref vmr, .ref vmk, .ref vms, .ref vma, .ref vmm, .ref vmrn, .ref vmkn, .ref vmik, .ref vmon, .int vosm, .int vohp, .ref vmw, .ref vmf, .ref vmb, .int vomb, .ref vmd, .ref vmc, .int vocm, .int voct, .int vocy, .ref vmx, .int votx, .int vose, .ref vml, .ref vmwr, .int voln, .int vohw, .ref vmno, .int vond, .int voon, .int vowi, .int votop])), (vmn, .inl (cy 0, 575, .inl f_45))] := by rw [ef_45]; exact hD
        have k_0 : (0 : Int32).toInt = 0 := by decide
        have p_f_45 : RN vnh f_45 := by rw [ef_45]; exact p_g_3.upd ⟨by omega, by omega⟩
        obtain ⟨z_46, ez_46⟩ : ∃ z : Int32, z = x_2 + 1 := ⟨_, rfl⟩
        have k_1 : (1 : Int32).toInt = 1 := by decide
        have bz_46 : z_46.toInt = x_2.toInt + (1 : Int32).toInt := i_add ez_46 (by omega) (by omega)
        refine lv_iinc (v := z_46) (lv' := [(1, .int z_46), (0, .ref vo)]) hx hb dX11_startSo_18 hl (k := 0) rfl ez_46.symm (by decide) rfl (fun ls hl => ?_)
        refine lv_goto (tgt := 4) hx hb dX11_startSo_21 (by decide) ?_
        exact ih1 z_46 f_45 ⟨by omega, by omega⟩ p_f_45 (ef_45 ▸ ZR.step (x := x_2) (y := z_46) v1_0 (by omega) k_0 (by omega)) (by omega) _ _ (hP.sub [0, 1] rfl) (hD.sub [0, 1] rfl rfl) hS ls (lv_sub hl [0, 1] rfl)
  have k_157 : (157 : Int32).toInt = 157 := by decide
  exact loop1 ((575 - (157 : Int32).toInt).toNat + 1) 157 vmnf ⟨by omega, by omega⟩ p_vmnf (ZR.nil (by omega)) (by omega) _ _ hP hD hS ls (lv_sub hl [0, 1] rfl)
