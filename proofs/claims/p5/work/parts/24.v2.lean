set_option maxHeartbeats 4000000 in
set_option maxRecDepth 100000 in
theorem s_spelt_man (l : Launch) (dC : Nat → ClassId) (dI : Nat → Nat → Nat) (cy : Nat → ClassId)   : Met l yX11_spelt (wl yX11_spelt cX11_spelt 9 (some .long)) ({ frames := 0, cells := 0, slots := 0, locals := 0 }) (Pr (dC, dI) vwCl cy [] [.int 109, .int 97, .int 110, .int 0, .int 0, .int 0, .int 0]) (Rl (fun r => ((r : Int64).toInt = 9518))) 0 0 (fun _ => False) := by
  refine mr RX11 rfl (by decide +kernel) (Nat.le_of_ble_eq_true rfl) ?_
  intro p e s m below meth c hx hb hr hlocks av9 hav hts hown hml hK hP hS Q9 hQ9 ls hl
  have hl : lv_has ls 9 [(0, .int 109), (1, .int 97), (2, .int 110), (3, .int 0), (4, .int 0), (5, .int 0), (6, .int 0)] := hl
  refine lv_ldc2 hx hb hown (hts _ t1610) dX11_spelt_0 ?_
  refine lv_iload_n hx hb dX11_spelt_3 rfl (lv_at hl 0 rfl) ?_
  refine lv_i2l (v := 109) hx hb dX11_spelt_4 (by decide) ?_
  refine lv_ldc2 hx hb hown (hts _ t1611) dX11_spelt_5 ?_
  refine lv_lsub hx hb dX11_spelt_8 ?_
  refine as_l 13 (by decide) ?_
  refine lv_lmul hx hb dX11_spelt_9 ?_
  refine as_l 351 (by decide) ?_
  refine lv_iload_n hx hb dX11_spelt_10 rfl (lv_at hl 1 rfl) ?_
  refine lv_i2l (v := 97) hx hb dX11_spelt_11 (by decide) ?_
  refine lv_ladd hx hb dX11_spelt_12 ?_
  refine as_l 448 (by decide) ?_
  refine lv_ldc2 hx hb hown (hts _ t1611) dX11_spelt_13 ?_
  refine lv_lsub hx hb dX11_spelt_16 ?_
  refine as_l 352 (by decide) ?_
  refine lv_lstore (lv' := [(7, .long 352), (0, .int 109), (1, .int 97), (2, .int 110), (3, .int 0), (4, .int 0), (5, .int 0), (6, .int 0)]) hx hb dX11_spelt_17 hl (by decide) rfl (fun ls hl => ?_)
  refine lv_iload_n hx hb dX11_spelt_19 rfl (lv_at hl 3 rfl) ?_
  refine lv_if_le (tgt := 38) hx hb dX11_spelt_20 (by decide) (fun c9 => absurd c9 (by decide)) (fun _ => ?_)
  refine lv_ldc2 hx hb hown (hts _ t1610) dX11_spelt_23 ?_
  refine lv_lload hx hb dX11_spelt_26 (lv_at hl 0 rfl) ?_
  refine lv_lmul hx hb dX11_spelt_28 ?_
  refine as_l 9504 (by decide) ?_
  refine lv_iload_n hx hb dX11_spelt_29 rfl (lv_at hl 3 rfl) ?_
  refine lv_i2l (v := 110) hx hb dX11_spelt_30 (by decide) ?_
  refine lv_ladd hx hb dX11_spelt_31 ?_
  refine as_l 9614 (by decide) ?_
  refine lv_ldc2 hx hb hown (hts _ t1611) dX11_spelt_32 ?_
  refine lv_lsub hx hb dX11_spelt_35 ?_
  refine as_l 9518 (by decide) ?_
  refine lv_lstore (lv' := [(7, .long 9518), (0, .int 109), (1, .int 97), (2, .int 110), (3, .int 0), (4, .int 0), (5, .int 0), (6, .int 0)]) hx hb dX11_spelt_36 hl (by decide) rfl (fun ls hl => ?_)
  refine lv_iload_n hx hb dX11_spelt_38 rfl (lv_at hl 4 rfl) ?_
  refine lv_if_le (tgt := 57) hx hb dX11_spelt_39 (by decide) (fun _ => ?_) (fun c9 => absurd (by decide) c9)
  refine lv_iload hx hb dX11_spelt_57 (lv_at hl 5 rfl) ?_
  refine lv_if_le (tgt := 78) hx hb dX11_spelt_59 (by decide) (fun _ => ?_) (fun c9 => absurd (by decide) c9)
  refine lv_iload hx hb dX11_spelt_78 (lv_at hl 6 rfl) ?_
  refine lv_if_le (tgt := 99) hx hb dX11_spelt_80 (by decide) (fun _ => ?_) (fun c9 => absurd (by decide) c9)
  refine lv_iload hx hb dX11_spelt_99 (lv_at hl 7 rfl) ?_
  refine lv_if_le (tgt := 120) hx hb dX11_spelt_101 (by decide) (fun _ => ?_) (fun c9 => absurd (by decide) c9)
  refine lv_lload hx hb dX11_spelt_120 (lv_at hl 0 rfl) ?_
  rw [hQ9]
  exact rr_l hx hb hr hlocks (show ((9518 : Int64) : Int64).toInt = 9518 from (by decide)) hS dX11_spelt_122
set_option maxHeartbeats 4000000 in
set_option maxRecDepth 100000 in
theorem s_spelt_deed (l : Launch) (dC : Nat → ClassId) (dI : Nat → Nat → Nat) (cy : Nat → ClassId)   : Met l yX11_spelt (wl yX11_spelt cX11_spelt 9 (some .long)) ({ frames := 0, cells := 0, slots := 0, locals := 0 }) (Pr (dC, dI) vwCl cy [] [.int 100, .int 101, .int 101, .int 100, .int 0, .int 0, .int 0]) (Rl (fun r => ((r : Int64).toInt = 82516))) 0 0 (fun _ => False) := by
  refine mr RX11 rfl (by decide +kernel) (Nat.le_of_ble_eq_true rfl) ?_
  intro p e s m below meth c hx hb hr hlocks av9 hav hts hown hml hK hP hS Q9 hQ9 ls hl
  have hl : lv_has ls 9 [(0, .int 100), (1, .int 101), (2, .int 101), (3, .int 100), (4, .int 0), (5, .int 0), (6, .int 0)] := hl
  refine lv_ldc2 hx hb hown (hts _ t1610) dX11_spelt_0 ?_
  refine lv_iload_n hx hb dX11_spelt_3 rfl (lv_at hl 0 rfl) ?_
  refine lv_i2l (v := 100) hx hb dX11_spelt_4 (by decide) ?_
  refine lv_ldc2 hx hb hown (hts _ t1611) dX11_spelt_5 ?_
  refine lv_lsub hx hb dX11_spelt_8 ?_
  refine as_l 4 (by decide) ?_
  refine lv_lmul hx hb dX11_spelt_9 ?_
  refine as_l 108 (by decide) ?_
  refine lv_iload_n hx hb dX11_spelt_10 rfl (lv_at hl 1 rfl) ?_
  refine lv_i2l (v := 101) hx hb dX11_spelt_11 (by decide) ?_
  refine lv_ladd hx hb dX11_spelt_12 ?_
  refine as_l 209 (by decide) ?_
  refine lv_ldc2 hx hb hown (hts _ t1611) dX11_spelt_13 ?_
  refine lv_lsub hx hb dX11_spelt_16 ?_
  refine as_l 113 (by decide) ?_
  refine lv_lstore (lv' := [(7, .long 113), (0, .int 100), (1, .int 101), (2, .int 101), (3, .int 100), (4, .int 0), (5, .int 0), (6, .int 0)]) hx hb dX11_spelt_17 hl (by decide) rfl (fun ls hl => ?_)
  refine lv_iload_n hx hb dX11_spelt_19 rfl (lv_at hl 3 rfl) ?_
  refine lv_if_le (tgt := 38) hx hb dX11_spelt_20 (by decide) (fun c9 => absurd c9 (by decide)) (fun _ => ?_)
  refine lv_ldc2 hx hb hown (hts _ t1610) dX11_spelt_23 ?_
  refine lv_lload hx hb dX11_spelt_26 (lv_at hl 0 rfl) ?_
  refine lv_lmul hx hb dX11_spelt_28 ?_
  refine as_l 3051 (by decide) ?_
  refine lv_iload_n hx hb dX11_spelt_29 rfl (lv_at hl 3 rfl) ?_
  refine lv_i2l (v := 101) hx hb dX11_spelt_30 (by decide) ?_
  refine lv_ladd hx hb dX11_spelt_31 ?_
  refine as_l 3152 (by decide) ?_
  refine lv_ldc2 hx hb hown (hts _ t1611) dX11_spelt_32 ?_
  refine lv_lsub hx hb dX11_spelt_35 ?_
  refine as_l 3056 (by decide) ?_
  refine lv_lstore (lv' := [(7, .long 3056), (0, .int 100), (1, .int 101), (2, .int 101), (3, .int 100), (4, .int 0), (5, .int 0), (6, .int 0)]) hx hb dX11_spelt_36 hl (by decide) rfl (fun ls hl => ?_)
  refine lv_iload_n hx hb dX11_spelt_38 rfl (lv_at hl 4 rfl) ?_
  refine lv_if_le (tgt := 57) hx hb dX11_spelt_39 (by decide) (fun c9 => absurd c9 (by decide)) (fun _ => ?_)
  refine lv_ldc2 hx hb hown (hts _ t1610) dX11_spelt_42 ?_
  refine lv_lload hx hb dX11_spelt_45 (lv_at hl 0 rfl) ?_
  refine lv_lmul hx hb dX11_spelt_47 ?_
  refine as_l 82512 (by decide) ?_
  refine lv_iload_n hx hb dX11_spelt_48 rfl (lv_at hl 4 rfl) ?_
  refine lv_i2l (v := 100) hx hb dX11_spelt_49 (by decide) ?_
  refine lv_ladd hx hb dX11_spelt_50 ?_
  refine as_l 82612 (by decide) ?_
  refine lv_ldc2 hx hb hown (hts _ t1611) dX11_spelt_51 ?_
  refine lv_lsub hx hb dX11_spelt_54 ?_
  refine as_l 82516 (by decide) ?_
  refine lv_lstore (lv' := [(7, .long 82516), (0, .int 100), (1, .int 101), (2, .int 101), (3, .int 100), (4, .int 0), (5, .int 0), (6, .int 0)]) hx hb dX11_spelt_55 hl (by decide) rfl (fun ls hl => ?_)
  refine lv_iload hx hb dX11_spelt_57 (lv_at hl 5 rfl) ?_
  refine lv_if_le (tgt := 78) hx hb dX11_spelt_59 (by decide) (fun _ => ?_) (fun c9 => absurd (by decide) c9)
  refine lv_iload hx hb dX11_spelt_78 (lv_at hl 6 rfl) ?_
  refine lv_if_le (tgt := 99) hx hb dX11_spelt_80 (by decide) (fun _ => ?_) (fun c9 => absurd (by decide) c9)
  refine lv_iload hx hb dX11_spelt_99 (lv_at hl 7 rfl) ?_
  refine lv_if_le (tgt := 120) hx hb dX11_spelt_101 (by decide) (fun _ => ?_) (fun c9 => absurd (by decide) c9)
  refine lv_lload hx hb dX11_spelt_120 (lv_at hl 0 rfl) ?_
  rw [hQ9]
  exact rr_l hx hb hr hlocks (show ((82516 : Int64) : Int64).toInt = 82516 from (by decide)) hS dX11_spelt_122
set_option maxHeartbeats 4000000 in
set_option maxRecDepth 100000 in
theorem s_spelt_good (l : Launch) (dC : Nat → ClassId) (dI : Nat → Nat → Nat) (cy : Nat → ClassId)   : Met l yX11_spelt (wl yX11_spelt cX11_spelt 9 (some .long)) ({ frames := 0, cells := 0, slots := 0, locals := 0 }) (Pr (dC, dI) vwCl cy [] [.int 103, .int 111, .int 111, .int 100, .int 0, .int 0, .int 0]) (Rl (fun r => ((r : Int64).toInt = 149125))) 0 0 (fun _ => False) := by
  refine mr RX11 rfl (by decide +kernel) (Nat.le_of_ble_eq_true rfl) ?_
  intro p e s m below meth c hx hb hr hlocks av9 hav hts hown hml hK hP hS Q9 hQ9 ls hl
  have hl : lv_has ls 9 [(0, .int 103), (1, .int 111), (2, .int 111), (3, .int 100), (4, .int 0), (5, .int 0), (6, .int 0)] := hl
  refine lv_ldc2 hx hb hown (hts _ t1610) dX11_spelt_0 ?_
  refine lv_iload_n hx hb dX11_spelt_3 rfl (lv_at hl 0 rfl) ?_
  refine lv_i2l (v := 103) hx hb dX11_spelt_4 (by decide) ?_
  refine lv_ldc2 hx hb hown (hts _ t1611) dX11_spelt_5 ?_
  refine lv_lsub hx hb dX11_spelt_8 ?_
  refine as_l 7 (by decide) ?_
  refine lv_lmul hx hb dX11_spelt_9 ?_
  refine as_l 189 (by decide) ?_
  refine lv_iload_n hx hb dX11_spelt_10 rfl (lv_at hl 1 rfl) ?_
  refine lv_i2l (v := 111) hx hb dX11_spelt_11 (by decide) ?_
  refine lv_ladd hx hb dX11_spelt_12 ?_
  refine as_l 300 (by decide) ?_
  refine lv_ldc2 hx hb hown (hts _ t1611) dX11_spelt_13 ?_
  refine lv_lsub hx hb dX11_spelt_16 ?_
  refine as_l 204 (by decide) ?_
  refine lv_lstore (lv' := [(7, .long 204), (0, .int 103), (1, .int 111), (2, .int 111), (3, .int 100), (4, .int 0), (5, .int 0), (6, .int 0)]) hx hb dX11_spelt_17 hl (by decide) rfl (fun ls hl => ?_)
  refine lv_iload_n hx hb dX11_spelt_19 rfl (lv_at hl 3 rfl) ?_
  refine lv_if_le (tgt := 38) hx hb dX11_spelt_20 (by decide) (fun c9 => absurd c9 (by decide)) (fun _ => ?_)
  refine lv_ldc2 hx hb hown (hts _ t1610) dX11_spelt_23 ?_
  refine lv_lload hx hb dX11_spelt_26 (lv_at hl 0 rfl) ?_
  refine lv_lmul hx hb dX11_spelt_28 ?_
  refine as_l 5508 (by decide) ?_
  refine lv_iload_n hx hb dX11_spelt_29 rfl (lv_at hl 3 rfl) ?_
  refine lv_i2l (v := 111) hx hb dX11_spelt_30 (by decide) ?_
  refine lv_ladd hx hb dX11_spelt_31 ?_
  refine as_l 5619 (by decide) ?_
  refine lv_ldc2 hx hb hown (hts _ t1611) dX11_spelt_32 ?_
  refine lv_lsub hx hb dX11_spelt_35 ?_
  refine as_l 5523 (by decide) ?_
  refine lv_lstore (lv' := [(7, .long 5523), (0, .int 103), (1, .int 111), (2, .int 111), (3, .int 100), (4, .int 0), (5, .int 0), (6, .int 0)]) hx hb dX11_spelt_36 hl (by decide) rfl (fun ls hl => ?_)
  refine lv_iload_n hx hb dX11_spelt_38 rfl (lv_at hl 4 rfl) ?_
  refine lv_if_le (tgt := 57) hx hb dX11_spelt_39 (by decide) (fun c9 => absurd c9 (by decide)) (fun _ => ?_)
  refine lv_ldc2 hx hb hown (hts _ t1610) dX11_spelt_42 ?_
  refine lv_lload hx hb dX11_spelt_45 (lv_at hl 0 rfl) ?_
  refine lv_lmul hx hb dX11_spelt_47 ?_
  refine as_l 149121 (by decide) ?_
  refine lv_iload_n hx hb dX11_spelt_48 rfl (lv_at hl 4 rfl) ?_
  refine lv_i2l (v := 100) hx hb dX11_spelt_49 (by decide) ?_
  refine lv_ladd hx hb dX11_spelt_50 ?_
  refine as_l 149221 (by decide) ?_
  refine lv_ldc2 hx hb hown (hts _ t1611) dX11_spelt_51 ?_
  refine lv_lsub hx hb dX11_spelt_54 ?_
  refine as_l 149125 (by decide) ?_
  refine lv_lstore (lv' := [(7, .long 149125), (0, .int 103), (1, .int 111), (2, .int 111), (3, .int 100), (4, .int 0), (5, .int 0), (6, .int 0)]) hx hb dX11_spelt_55 hl (by decide) rfl (fun ls hl => ?_)
  refine lv_iload hx hb dX11_spelt_57 (lv_at hl 5 rfl) ?_
  refine lv_if_le (tgt := 78) hx hb dX11_spelt_59 (by decide) (fun _ => ?_) (fun c9 => absurd (by decide) c9)
  refine lv_iload hx hb dX11_spelt_78 (lv_at hl 6 rfl) ?_
  refine lv_if_le (tgt := 99) hx hb dX11_spelt_80 (by decide) (fun _ => ?_) (fun c9 => absurd (by decide) c9)
  refine lv_iload hx hb dX11_spelt_99 (lv_at hl 7 rfl) ?_
  refine lv_if_le (tgt := 120) hx hb dX11_spelt_101 (by decide) (fun _ => ?_) (fun c9 => absurd (by decide) c9)
  refine lv_lload hx hb dX11_spelt_120 (lv_at hl 0 rfl) ?_
  rw [hQ9]
  exact rr_l hx hb hr hlocks (show ((149125 : Int64) : Int64).toInt = 149125 from (by decide)) hS dX11_spelt_122
set_option maxHeartbeats 4000000 in
set_option maxRecDepth 100000 in
theorem s_spelt_crime (l : Launch) (dC : Nat → ClassId) (dI : Nat → Nat → Nat) (cy : Nat → ClassId)   : Met l yX11_spelt (wl yX11_spelt cX11_spelt 9 (some .long)) ({ frames := 0, cells := 0, slots := 0, locals := 0 }) (Pr (dC, dI) vwCl cy [] [.int 99, .int 114, .int 105, .int 109, .int 101, .int 0, .int 0]) (Rl (fun r => ((r : Int64).toInt = 1955534))) 0 0 (fun _ => False) := by
  refine mr RX11 rfl (by decide +kernel) (Nat.le_of_ble_eq_true rfl) ?_
  intro p e s m below meth c hx hb hr hlocks av9 hav hts hown hml hK hP hS Q9 hQ9 ls hl
  have hl : lv_has ls 9 [(0, .int 99), (1, .int 114), (2, .int 105), (3, .int 109), (4, .int 101), (5, .int 0), (6, .int 0)] := hl
  refine lv_ldc2 hx hb hown (hts _ t1610) dX11_spelt_0 ?_
  refine lv_iload_n hx hb dX11_spelt_3 rfl (lv_at hl 0 rfl) ?_
  refine lv_i2l (v := 99) hx hb dX11_spelt_4 (by decide) ?_
  refine lv_ldc2 hx hb hown (hts _ t1611) dX11_spelt_5 ?_
  refine lv_lsub hx hb dX11_spelt_8 ?_
  refine as_l 3 (by decide) ?_
  refine lv_lmul hx hb dX11_spelt_9 ?_
  refine as_l 81 (by decide) ?_
  refine lv_iload_n hx hb dX11_spelt_10 rfl (lv_at hl 1 rfl) ?_
  refine lv_i2l (v := 114) hx hb dX11_spelt_11 (by decide) ?_
  refine lv_ladd hx hb dX11_spelt_12 ?_
  refine as_l 195 (by decide) ?_
  refine lv_ldc2 hx hb hown (hts _ t1611) dX11_spelt_13 ?_
  refine lv_lsub hx hb dX11_spelt_16 ?_
  refine as_l 99 (by decide) ?_
  refine lv_lstore (lv' := [(7, .long 99), (0, .int 99), (1, .int 114), (2, .int 105), (3, .int 109), (4, .int 101), (5, .int 0), (6, .int 0)]) hx hb dX11_spelt_17 hl (by decide) rfl (fun ls hl => ?_)
  refine lv_iload_n hx hb dX11_spelt_19 rfl (lv_at hl 3 rfl) ?_
  refine lv_if_le (tgt := 38) hx hb dX11_spelt_20 (by decide) (fun c9 => absurd c9 (by decide)) (fun _ => ?_)
  refine lv_ldc2 hx hb hown (hts _ t1610) dX11_spelt_23 ?_
  refine lv_lload hx hb dX11_spelt_26 (lv_at hl 0 rfl) ?_
  refine lv_lmul hx hb dX11_spelt_28 ?_
  refine as_l 2673 (by decide) ?_
  refine lv_iload_n hx hb dX11_spelt_29 rfl (lv_at hl 3 rfl) ?_
  refine lv_i2l (v := 105) hx hb dX11_spelt_30 (by decide) ?_
  refine lv_ladd hx hb dX11_spelt_31 ?_
  refine as_l 2778 (by decide) ?_
  refine lv_ldc2 hx hb hown (hts _ t1611) dX11_spelt_32 ?_
  refine lv_lsub hx hb dX11_spelt_35 ?_
  refine as_l 2682 (by decide) ?_
  refine lv_lstore (lv' := [(7, .long 2682), (0, .int 99), (1, .int 114), (2, .int 105), (3, .int 109), (4, .int 101), (5, .int 0), (6, .int 0)]) hx hb dX11_spelt_36 hl (by decide) rfl (fun ls hl => ?_)
  refine lv_iload_n hx hb dX11_spelt_38 rfl (lv_at hl 4 rfl) ?_
  refine lv_if_le (tgt := 57) hx hb dX11_spelt_39 (by decide) (fun c9 => absurd c9 (by decide)) (fun _ => ?_)
  refine lv_ldc2 hx hb hown (hts _ t1610) dX11_spelt_42 ?_
  refine lv_lload hx hb dX11_spelt_45 (lv_at hl 0 rfl) ?_
  refine lv_lmul hx hb dX11_spelt_47 ?_
  refine as_l 72414 (by decide) ?_
  refine lv_iload_n hx hb dX11_spelt_48 rfl (lv_at hl 4 rfl) ?_
  refine lv_i2l (v := 109) hx hb dX11_spelt_49 (by decide) ?_
  refine lv_ladd hx hb dX11_spelt_50 ?_
  refine as_l 72523 (by decide) ?_
  refine lv_ldc2 hx hb hown (hts _ t1611) dX11_spelt_51 ?_
  refine lv_lsub hx hb dX11_spelt_54 ?_
  refine as_l 72427 (by decide) ?_
  refine lv_lstore (lv' := [(7, .long 72427), (0, .int 99), (1, .int 114), (2, .int 105), (3, .int 109), (4, .int 101), (5, .int 0), (6, .int 0)]) hx hb dX11_spelt_55 hl (by decide) rfl (fun ls hl => ?_)
  refine lv_iload hx hb dX11_spelt_57 (lv_at hl 5 rfl) ?_
  refine lv_if_le (tgt := 78) hx hb dX11_spelt_59 (by decide) (fun c9 => absurd c9 (by decide)) (fun _ => ?_)
  refine lv_ldc2 hx hb hown (hts _ t1610) dX11_spelt_62 ?_
  refine lv_lload hx hb dX11_spelt_65 (lv_at hl 0 rfl) ?_
  refine lv_lmul hx hb dX11_spelt_67 ?_
  refine as_l 1955529 (by decide) ?_
  refine lv_iload hx hb dX11_spelt_68 (lv_at hl 5 rfl) ?_
  refine lv_i2l (v := 101) hx hb dX11_spelt_70 (by decide) ?_
  refine lv_ladd hx hb dX11_spelt_71 ?_
  refine as_l 1955630 (by decide) ?_
  refine lv_ldc2 hx hb hown (hts _ t1611) dX11_spelt_72 ?_
  refine lv_lsub hx hb dX11_spelt_75 ?_
  refine as_l 1955534 (by decide) ?_
  refine lv_lstore (lv' := [(7, .long 1955534), (0, .int 99), (1, .int 114), (2, .int 105), (3, .int 109), (4, .int 101), (5, .int 0), (6, .int 0)]) hx hb dX11_spelt_76 hl (by decide) rfl (fun ls hl => ?_)
  refine lv_iload hx hb dX11_spelt_78 (lv_at hl 6 rfl) ?_
  refine lv_if_le (tgt := 99) hx hb dX11_spelt_80 (by decide) (fun _ => ?_) (fun c9 => absurd (by decide) c9)
  refine lv_iload hx hb dX11_spelt_99 (lv_at hl 7 rfl) ?_
  refine lv_if_le (tgt := 120) hx hb dX11_spelt_101 (by decide) (fun _ => ?_) (fun c9 => absurd (by decide) c9)
  refine lv_lload hx hb dX11_spelt_120 (lv_at hl 0 rfl) ?_
  rw [hQ9]
  exact rr_l hx hb hr hlocks (show ((1955534 : Int64) : Int64).toInt = 1955534 from (by decide)) hS dX11_spelt_122
set_option maxHeartbeats 4000000 in
set_option maxRecDepth 100000 in
theorem s_spelt_did (l : Launch) (dC : Nat → ClassId) (dI : Nat → Nat → Nat) (cy : Nat → ClassId)   : Met l yX11_spelt (wl yX11_spelt cX11_spelt 9 (some .long)) ({ frames := 0, cells := 0, slots := 0, locals := 0 }) (Pr (dC, dI) vwCl cy [] [.int 100, .int 105, .int 100, .int 0, .int 0, .int 0, .int 0]) (Rl (fun r => ((r : Int64).toInt = 3163))) 0 0 (fun _ => False) := by
  refine mr RX11 rfl (by decide +kernel) (Nat.le_of_ble_eq_true rfl) ?_
  intro p e s m below meth c hx hb hr hlocks av9 hav hts hown hml hK hP hS Q9 hQ9 ls hl
  have hl : lv_has ls 9 [(0, .int 100), (1, .int 105), (2, .int 100), (3, .int 0), (4, .int 0), (5, .int 0), (6, .int 0)] := hl
  refine lv_ldc2 hx hb hown (hts _ t1610) dX11_spelt_0 ?_
  refine lv_iload_n hx hb dX11_spelt_3 rfl (lv_at hl 0 rfl) ?_
  refine lv_i2l (v := 100) hx hb dX11_spelt_4 (by decide) ?_
  refine lv_ldc2 hx hb hown (hts _ t1611) dX11_spelt_5 ?_
  refine lv_lsub hx hb dX11_spelt_8 ?_
  refine as_l 4 (by decide) ?_
  refine lv_lmul hx hb dX11_spelt_9 ?_
  refine as_l 108 (by decide) ?_
  refine lv_iload_n hx hb dX11_spelt_10 rfl (lv_at hl 1 rfl) ?_
  refine lv_i2l (v := 105) hx hb dX11_spelt_11 (by decide) ?_
  refine lv_ladd hx hb dX11_spelt_12 ?_
  refine as_l 213 (by decide) ?_
  refine lv_ldc2 hx hb hown (hts _ t1611) dX11_spelt_13 ?_
  refine lv_lsub hx hb dX11_spelt_16 ?_
  refine as_l 117 (by decide) ?_
  refine lv_lstore (lv' := [(7, .long 117), (0, .int 100), (1, .int 105), (2, .int 100), (3, .int 0), (4, .int 0), (5, .int 0), (6, .int 0)]) hx hb dX11_spelt_17 hl (by decide) rfl (fun ls hl => ?_)
  refine lv_iload_n hx hb dX11_spelt_19 rfl (lv_at hl 3 rfl) ?_
  refine lv_if_le (tgt := 38) hx hb dX11_spelt_20 (by decide) (fun c9 => absurd c9 (by decide)) (fun _ => ?_)
  refine lv_ldc2 hx hb hown (hts _ t1610) dX11_spelt_23 ?_
  refine lv_lload hx hb dX11_spelt_26 (lv_at hl 0 rfl) ?_
  refine lv_lmul hx hb dX11_spelt_28 ?_
  refine as_l 3159 (by decide) ?_
  refine lv_iload_n hx hb dX11_spelt_29 rfl (lv_at hl 3 rfl) ?_
  refine lv_i2l (v := 100) hx hb dX11_spelt_30 (by decide) ?_
  refine lv_ladd hx hb dX11_spelt_31 ?_
  refine as_l 3259 (by decide) ?_
  refine lv_ldc2 hx hb hown (hts _ t1611) dX11_spelt_32 ?_
  refine lv_lsub hx hb dX11_spelt_35 ?_
  refine as_l 3163 (by decide) ?_
  refine lv_lstore (lv' := [(7, .long 3163), (0, .int 100), (1, .int 105), (2, .int 100), (3, .int 0), (4, .int 0), (5, .int 0), (6, .int 0)]) hx hb dX11_spelt_36 hl (by decide) rfl (fun ls hl => ?_)
  refine lv_iload_n hx hb dX11_spelt_38 rfl (lv_at hl 4 rfl) ?_
  refine lv_if_le (tgt := 57) hx hb dX11_spelt_39 (by decide) (fun _ => ?_) (fun c9 => absurd (by decide) c9)
  refine lv_iload hx hb dX11_spelt_57 (lv_at hl 5 rfl) ?_
  refine lv_if_le (tgt := 78) hx hb dX11_spelt_59 (by decide) (fun _ => ?_) (fun c9 => absurd (by decide) c9)
  refine lv_iload hx hb dX11_spelt_78 (lv_at hl 6 rfl) ?_
  refine lv_if_le (tgt := 99) hx hb dX11_spelt_80 (by decide) (fun _ => ?_) (fun c9 => absurd (by decide) c9)
  refine lv_iload hx hb dX11_spelt_99 (lv_at hl 7 rfl) ?_
  refine lv_if_le (tgt := 120) hx hb dX11_spelt_101 (by decide) (fun _ => ?_) (fun c9 => absurd (by decide) c9)
  refine lv_lload hx hb dX11_spelt_120 (lv_at hl 0 rfl) ?_
  rw [hQ9]
  exact rr_l hx hb hr hlocks (show ((3163 : Int64) : Int64).toInt = 3163 from (by decide)) hS dX11_spelt_122
set_option maxHeartbeats 4000000 in
set_option maxRecDepth 100000 in
theorem s_spelt_kin (l : Launch) (dC : Nat → ClassId) (dI : Nat → Nat → Nat) (cy : Nat → ClassId)   : Met l yX11_spelt (wl yX11_spelt cX11_spelt 9 (some .long)) ({ frames := 0, cells := 0, slots := 0, locals := 0 }) (Pr (dC, dI) vwCl cy [] [.int 107, .int 105, .int 110, .int 0, .int 0, .int 0, .int 0]) (Rl (fun r => ((r : Int64).toInt = 8276))) 0 0 (fun _ => False) := by
  refine mr RX11 rfl (by decide +kernel) (Nat.le_of_ble_eq_true rfl) ?_
  intro p e s m below meth c hx hb hr hlocks av9 hav hts hown hml hK hP hS Q9 hQ9 ls hl
  have hl : lv_has ls 9 [(0, .int 107), (1, .int 105), (2, .int 110), (3, .int 0), (4, .int 0), (5, .int 0), (6, .int 0)] := hl
  refine lv_ldc2 hx hb hown (hts _ t1610) dX11_spelt_0 ?_
  refine lv_iload_n hx hb dX11_spelt_3 rfl (lv_at hl 0 rfl) ?_
  refine lv_i2l (v := 107) hx hb dX11_spelt_4 (by decide) ?_
  refine lv_ldc2 hx hb hown (hts _ t1611) dX11_spelt_5 ?_
  refine lv_lsub hx hb dX11_spelt_8 ?_
  refine as_l 11 (by decide) ?_
  refine lv_lmul hx hb dX11_spelt_9 ?_
  refine as_l 297 (by decide) ?_
  refine lv_iload_n hx hb dX11_spelt_10 rfl (lv_at hl 1 rfl) ?_
  refine lv_i2l (v := 105) hx hb dX11_spelt_11 (by decide) ?_
  refine lv_ladd hx hb dX11_spelt_12 ?_
  refine as_l 402 (by decide) ?_
  refine lv_ldc2 hx hb hown (hts _ t1611) dX11_spelt_13 ?_
  refine lv_lsub hx hb dX11_spelt_16 ?_
  refine as_l 306 (by decide) ?_
  refine lv_lstore (lv' := [(7, .long 306), (0, .int 107), (1, .int 105), (2, .int 110), (3, .int 0), (4, .int 0), (5, .int 0), (6, .int 0)]) hx hb dX11_spelt_17 hl (by decide) rfl (fun ls hl => ?_)
  refine lv_iload_n hx hb dX11_spelt_19 rfl (lv_at hl 3 rfl) ?_
  refine lv_if_le (tgt := 38) hx hb dX11_spelt_20 (by decide) (fun c9 => absurd c9 (by decide)) (fun _ => ?_)
  refine lv_ldc2 hx hb hown (hts _ t1610) dX11_spelt_23 ?_
  refine lv_lload hx hb dX11_spelt_26 (lv_at hl 0 rfl) ?_
  refine lv_lmul hx hb dX11_spelt_28 ?_
  refine as_l 8262 (by decide) ?_
  refine lv_iload_n hx hb dX11_spelt_29 rfl (lv_at hl 3 rfl) ?_
  refine lv_i2l (v := 110) hx hb dX11_spelt_30 (by decide) ?_
  refine lv_ladd hx hb dX11_spelt_31 ?_
  refine as_l 8372 (by decide) ?_
  refine lv_ldc2 hx hb hown (hts _ t1611) dX11_spelt_32 ?_
  refine lv_lsub hx hb dX11_spelt_35 ?_
  refine as_l 8276 (by decide) ?_
  refine lv_lstore (lv' := [(7, .long 8276), (0, .int 107), (1, .int 105), (2, .int 110), (3, .int 0), (4, .int 0), (5, .int 0), (6, .int 0)]) hx hb dX11_spelt_36 hl (by decide) rfl (fun ls hl => ?_)
  refine lv_iload_n hx hb dX11_spelt_38 rfl (lv_at hl 4 rfl) ?_
  refine lv_if_le (tgt := 57) hx hb dX11_spelt_39 (by decide) (fun _ => ?_) (fun c9 => absurd (by decide) c9)
  refine lv_iload hx hb dX11_spelt_57 (lv_at hl 5 rfl) ?_
  refine lv_if_le (tgt := 78) hx hb dX11_spelt_59 (by decide) (fun _ => ?_) (fun c9 => absurd (by decide) c9)
  refine lv_iload hx hb dX11_spelt_78 (lv_at hl 6 rfl) ?_
  refine lv_if_le (tgt := 99) hx hb dX11_spelt_80 (by decide) (fun _ => ?_) (fun c9 => absurd (by decide) c9)
  refine lv_iload hx hb dX11_spelt_99 (lv_at hl 7 rfl) ?_
  refine lv_if_le (tgt := 120) hx hb dX11_spelt_101 (by decide) (fun _ => ?_) (fun c9 => absurd (by decide) c9)
  refine lv_lload hx hb dX11_spelt_120 (lv_at hl 0 rfl) ?_
  rw [hQ9]
  exact rr_l hx hb hr hlocks (show ((8276 : Int64) : Int64).toInt = 8276 from (by decide)) hS dX11_spelt_122
set_option maxHeartbeats 4000000 in
set_option maxRecDepth 100000 in
theorem s_spelt_owes (l : Launch) (dC : Nat → ClassId) (dI : Nat → Nat → Nat) (cy : Nat → ClassId)   : Met l yX11_spelt (wl yX11_spelt cX11_spelt 9 (some .long)) ({ frames := 0, cells := 0, slots := 0, locals := 0 }) (Pr (dC, dI) vwCl cy [] [.int 111, .int 119, .int 101, .int 115, .int 0, .int 0, .int 0]) (Rl (fun r => ((r : Int64).toInt = 312166))) 0 0 (fun _ => False) := by
  refine mr RX11 rfl (by decide +kernel) (Nat.le_of_ble_eq_true rfl) ?_
  intro p e s m below meth c hx hb hr hlocks av9 hav hts hown hml hK hP hS Q9 hQ9 ls hl
  have hl : lv_has ls 9 [(0, .int 111), (1, .int 119), (2, .int 101), (3, .int 115), (4, .int 0), (5, .int 0), (6, .int 0)] := hl
  refine lv_ldc2 hx hb hown (hts _ t1610) dX11_spelt_0 ?_
  refine lv_iload_n hx hb dX11_spelt_3 rfl (lv_at hl 0 rfl) ?_
  refine lv_i2l (v := 111) hx hb dX11_spelt_4 (by decide) ?_
  refine lv_ldc2 hx hb hown (hts _ t1611) dX11_spelt_5 ?_
  refine lv_lsub hx hb dX11_spelt_8 ?_
  refine as_l 15 (by decide) ?_
  refine lv_lmul hx hb dX11_spelt_9 ?_
  refine as_l 405 (by decide) ?_
  refine lv_iload_n hx hb dX11_spelt_10 rfl (lv_at hl 1 rfl) ?_
  refine lv_i2l (v := 119) hx hb dX11_spelt_11 (by decide) ?_
  refine lv_ladd hx hb dX11_spelt_12 ?_
  refine as_l 524 (by decide) ?_
  refine lv_ldc2 hx hb hown (hts _ t1611) dX11_spelt_13 ?_
  refine lv_lsub hx hb dX11_spelt_16 ?_
  refine as_l 428 (by decide) ?_
  refine lv_lstore (lv' := [(7, .long 428), (0, .int 111), (1, .int 119), (2, .int 101), (3, .int 115), (4, .int 0), (5, .int 0), (6, .int 0)]) hx hb dX11_spelt_17 hl (by decide) rfl (fun ls hl => ?_)
  refine lv_iload_n hx hb dX11_spelt_19 rfl (lv_at hl 3 rfl) ?_
  refine lv_if_le (tgt := 38) hx hb dX11_spelt_20 (by decide) (fun c9 => absurd c9 (by decide)) (fun _ => ?_)
  refine lv_ldc2 hx hb hown (hts _ t1610) dX11_spelt_23 ?_
  refine lv_lload hx hb dX11_spelt_26 (lv_at hl 0 rfl) ?_
  refine lv_lmul hx hb dX11_spelt_28 ?_
  refine as_l 11556 (by decide) ?_
  refine lv_iload_n hx hb dX11_spelt_29 rfl (lv_at hl 3 rfl) ?_
  refine lv_i2l (v := 101) hx hb dX11_spelt_30 (by decide) ?_
  refine lv_ladd hx hb dX11_spelt_31 ?_
  refine as_l 11657 (by decide) ?_
  refine lv_ldc2 hx hb hown (hts _ t1611) dX11_spelt_32 ?_
  refine lv_lsub hx hb dX11_spelt_35 ?_
  refine as_l 11561 (by decide) ?_
  refine lv_lstore (lv' := [(7, .long 11561), (0, .int 111), (1, .int 119), (2, .int 101), (3, .int 115), (4, .int 0), (5, .int 0), (6, .int 0)]) hx hb dX11_spelt_36 hl (by decide) rfl (fun ls hl => ?_)
  refine lv_iload_n hx hb dX11_spelt_38 rfl (lv_at hl 4 rfl) ?_
  refine lv_if_le (tgt := 57) hx hb dX11_spelt_39 (by decide) (fun c9 => absurd c9 (by decide)) (fun _ => ?_)
  refine lv_ldc2 hx hb hown (hts _ t1610) dX11_spelt_42 ?_
  refine lv_lload hx hb dX11_spelt_45 (lv_at hl 0 rfl) ?_
  refine lv_lmul hx hb dX11_spelt_47 ?_
  refine as_l 312147 (by decide) ?_
  refine lv_iload_n hx hb dX11_spelt_48 rfl (lv_at hl 4 rfl) ?_
  refine lv_i2l (v := 115) hx hb dX11_spelt_49 (by decide) ?_
  refine lv_ladd hx hb dX11_spelt_50 ?_
  refine as_l 312262 (by decide) ?_
  refine lv_ldc2 hx hb hown (hts _ t1611) dX11_spelt_51 ?_
  refine lv_lsub hx hb dX11_spelt_54 ?_
  refine as_l 312166 (by decide) ?_
  refine lv_lstore (lv' := [(7, .long 312166), (0, .int 111), (1, .int 119), (2, .int 101), (3, .int 115), (4, .int 0), (5, .int 0), (6, .int 0)]) hx hb dX11_spelt_55 hl (by decide) rfl (fun ls hl => ?_)
  refine lv_iload hx hb dX11_spelt_57 (lv_at hl 5 rfl) ?_
  refine lv_if_le (tgt := 78) hx hb dX11_spelt_59 (by decide) (fun _ => ?_) (fun c9 => absurd (by decide) c9)
  refine lv_iload hx hb dX11_spelt_78 (lv_at hl 6 rfl) ?_
  refine lv_if_le (tgt := 99) hx hb dX11_spelt_80 (by decide) (fun _ => ?_) (fun c9 => absurd (by decide) c9)
  refine lv_iload hx hb dX11_spelt_99 (lv_at hl 7 rfl) ?_
  refine lv_if_le (tgt := 120) hx hb dX11_spelt_101 (by decide) (fun _ => ?_) (fun c9 => absurd (by decide) c9)
  refine lv_lload hx hb dX11_spelt_120 (lv_at hl 0 rfl) ?_
  rw [hQ9]
  exact rr_l hx hb hr hlocks (show ((312166 : Int64) : Int64).toInt = 312166 from (by decide)) hS dX11_spelt_122
set_option maxHeartbeats 4000000 in
set_option maxRecDepth 100000 in
theorem s_spelt_plate (l : Launch) (dC : Nat → ClassId) (dI : Nat → Nat → Nat) (cy : Nat → ClassId)   : Met l yX11_spelt (wl yX11_spelt cX11_spelt 9 (some .long)) ({ frames := 0, cells := 0, slots := 0, locals := 0 }) (Pr (dC, dI) vwCl cy [] [.int 112, .int 108, .int 97, .int 116, .int 101, .int 0, .int 0]) (Rl (fun r => ((r : Int64).toInt = 8740526))) 0 0 (fun _ => False) := by
  refine mr RX11 rfl (by decide +kernel) (Nat.le_of_ble_eq_true rfl) ?_
  intro p e s m below meth c hx hb hr hlocks av9 hav hts hown hml hK hP hS Q9 hQ9 ls hl
  have hl : lv_has ls 9 [(0, .int 112), (1, .int 108), (2, .int 97), (3, .int 116), (4, .int 101), (5, .int 0), (6, .int 0)] := hl
  refine lv_ldc2 hx hb hown (hts _ t1610) dX11_spelt_0 ?_
  refine lv_iload_n hx hb dX11_spelt_3 rfl (lv_at hl 0 rfl) ?_
  refine lv_i2l (v := 112) hx hb dX11_spelt_4 (by decide) ?_
  refine lv_ldc2 hx hb hown (hts _ t1611) dX11_spelt_5 ?_
  refine lv_lsub hx hb dX11_spelt_8 ?_
  refine as_l 16 (by decide) ?_
  refine lv_lmul hx hb dX11_spelt_9 ?_
  refine as_l 432 (by decide) ?_
  refine lv_iload_n hx hb dX11_spelt_10 rfl (lv_at hl 1 rfl) ?_
  refine lv_i2l (v := 108) hx hb dX11_spelt_11 (by decide) ?_
  refine lv_ladd hx hb dX11_spelt_12 ?_
  refine as_l 540 (by decide) ?_
  refine lv_ldc2 hx hb hown (hts _ t1611) dX11_spelt_13 ?_
  refine lv_lsub hx hb dX11_spelt_16 ?_
  refine as_l 444 (by decide) ?_
  refine lv_lstore (lv' := [(7, .long 444), (0, .int 112), (1, .int 108), (2, .int 97), (3, .int 116), (4, .int 101), (5, .int 0), (6, .int 0)]) hx hb dX11_spelt_17 hl (by decide) rfl (fun ls hl => ?_)
  refine lv_iload_n hx hb dX11_spelt_19 rfl (lv_at hl 3 rfl) ?_
  refine lv_if_le (tgt := 38) hx hb dX11_spelt_20 (by decide) (fun c9 => absurd c9 (by decide)) (fun _ => ?_)
  refine lv_ldc2 hx hb hown (hts _ t1610) dX11_spelt_23 ?_
  refine lv_lload hx hb dX11_spelt_26 (lv_at hl 0 rfl) ?_
  refine lv_lmul hx hb dX11_spelt_28 ?_
  refine as_l 11988 (by decide) ?_
  refine lv_iload_n hx hb dX11_spelt_29 rfl (lv_at hl 3 rfl) ?_
  refine lv_i2l (v := 97) hx hb dX11_spelt_30 (by decide) ?_
  refine lv_ladd hx hb dX11_spelt_31 ?_
  refine as_l 12085 (by decide) ?_
  refine lv_ldc2 hx hb hown (hts _ t1611) dX11_spelt_32 ?_
  refine lv_lsub hx hb dX11_spelt_35 ?_
  refine as_l 11989 (by decide) ?_
  refine lv_lstore (lv' := [(7, .long 11989), (0, .int 112), (1, .int 108), (2, .int 97), (3, .int 116), (4, .int 101), (5, .int 0), (6, .int 0)]) hx hb dX11_spelt_36 hl (by decide) rfl (fun ls hl => ?_)
  refine lv_iload_n hx hb dX11_spelt_38 rfl (lv_at hl 4 rfl) ?_
  refine lv_if_le (tgt := 57) hx hb dX11_spelt_39 (by decide) (fun c9 => absurd c9 (by decide)) (fun _ => ?_)
  refine lv_ldc2 hx hb hown (hts _ t1610) dX11_spelt_42 ?_
  refine lv_lload hx hb dX11_spelt_45 (lv_at hl 0 rfl) ?_
  refine lv_lmul hx hb dX11_spelt_47 ?_
  refine as_l 323703 (by decide) ?_
  refine lv_iload_n hx hb dX11_spelt_48 rfl (lv_at hl 4 rfl) ?_
  refine lv_i2l (v := 116) hx hb dX11_spelt_49 (by decide) ?_
  refine lv_ladd hx hb dX11_spelt_50 ?_
  refine as_l 323819 (by decide) ?_
  refine lv_ldc2 hx hb hown (hts _ t1611) dX11_spelt_51 ?_
  refine lv_lsub hx hb dX11_spelt_54 ?_
  refine as_l 323723 (by decide) ?_
  refine lv_lstore (lv' := [(7, .long 323723), (0, .int 112), (1, .int 108), (2, .int 97), (3, .int 116), (4, .int 101), (5, .int 0), (6, .int 0)]) hx hb dX11_spelt_55 hl (by decide) rfl (fun ls hl => ?_)
  refine lv_iload hx hb dX11_spelt_57 (lv_at hl 5 rfl) ?_
  refine lv_if_le (tgt := 78) hx hb dX11_spelt_59 (by decide) (fun c9 => absurd c9 (by decide)) (fun _ => ?_)
  refine lv_ldc2 hx hb hown (hts _ t1610) dX11_spelt_62 ?_
  refine lv_lload hx hb dX11_spelt_65 (lv_at hl 0 rfl) ?_
  refine lv_lmul hx hb dX11_spelt_67 ?_
  refine as_l 8740521 (by decide) ?_
  refine lv_iload hx hb dX11_spelt_68 (lv_at hl 5 rfl) ?_
  refine lv_i2l (v := 101) hx hb dX11_spelt_70 (by decide) ?_
  refine lv_ladd hx hb dX11_spelt_71 ?_
  refine as_l 8740622 (by decide) ?_
  refine lv_ldc2 hx hb hown (hts _ t1611) dX11_spelt_72 ?_
  refine lv_lsub hx hb dX11_spelt_75 ?_
  refine as_l 8740526 (by decide) ?_
  refine lv_lstore (lv' := [(7, .long 8740526), (0, .int 112), (1, .int 108), (2, .int 97), (3, .int 116), (4, .int 101), (5, .int 0), (6, .int 0)]) hx hb dX11_spelt_76 hl (by decide) rfl (fun ls hl => ?_)
  refine lv_iload hx hb dX11_spelt_78 (lv_at hl 6 rfl) ?_
  refine lv_if_le (tgt := 99) hx hb dX11_spelt_80 (by decide) (fun _ => ?_) (fun c9 => absurd (by decide) c9)
  refine lv_iload hx hb dX11_spelt_99 (lv_at hl 7 rfl) ?_
  refine lv_if_le (tgt := 120) hx hb dX11_spelt_101 (by decide) (fun _ => ?_) (fun c9 => absurd (by decide) c9)
  refine lv_lload hx hb dX11_spelt_120 (lv_at hl 0 rfl) ?_
  rw [hQ9]
  exact rr_l hx hb hr hlocks (show ((8740526 : Int64) : Int64).toInt = 8740526 from (by decide)) hS dX11_spelt_122
set_option maxHeartbeats 4000000 in
set_option maxRecDepth 100000 in
theorem s_spelt_does (l : Launch) (dC : Nat → ClassId) (dI : Nat → Nat → Nat) (cy : Nat → ClassId)   : Met l yX11_spelt (wl yX11_spelt cX11_spelt 9 (some .long)) ({ frames := 0, cells := 0, slots := 0, locals := 0 }) (Pr (dC, dI) vwCl cy [] [.int 100, .int 111, .int 101, .int 115, .int 0, .int 0, .int 0]) (Rl (fun r => ((r : Int64).toInt = 89821))) 0 0 (fun _ => False) := by
  refine mr RX11 rfl (by decide +kernel) (Nat.le_of_ble_eq_true rfl) ?_
  intro p e s m below meth c hx hb hr hlocks av9 hav hts hown hml hK hP hS Q9 hQ9 ls hl
  have hl : lv_has ls 9 [(0, .int 100), (1, .int 111), (2, .int 101), (3, .int 115), (4, .int 0), (5, .int 0), (6, .int 0)] := hl
  refine lv_ldc2 hx hb hown (hts _ t1610) dX11_spelt_0 ?_
  refine lv_iload_n hx hb dX11_spelt_3 rfl (lv_at hl 0 rfl) ?_
  refine lv_i2l (v := 100) hx hb dX11_spelt_4 (by decide) ?_
  refine lv_ldc2 hx hb hown (hts _ t1611) dX11_spelt_5 ?_
  refine lv_lsub hx hb dX11_spelt_8 ?_
  refine as_l 4 (by decide) ?_
  refine lv_lmul hx hb dX11_spelt_9 ?_
  refine as_l 108 (by decide) ?_
  refine lv_iload_n hx hb dX11_spelt_10 rfl (lv_at hl 1 rfl) ?_
  refine lv_i2l (v := 111) hx hb dX11_spelt_11 (by decide) ?_
  refine lv_ladd hx hb dX11_spelt_12 ?_
  refine as_l 219 (by decide) ?_
  refine lv_ldc2 hx hb hown (hts _ t1611) dX11_spelt_13 ?_
  refine lv_lsub hx hb dX11_spelt_16 ?_
  refine as_l 123 (by decide) ?_
  refine lv_lstore (lv' := [(7, .long 123), (0, .int 100), (1, .int 111), (2, .int 101), (3, .int 115), (4, .int 0), (5, .int 0), (6, .int 0)]) hx hb dX11_spelt_17 hl (by decide) rfl (fun ls hl => ?_)
  refine lv_iload_n hx hb dX11_spelt_19 rfl (lv_at hl 3 rfl) ?_
  refine lv_if_le (tgt := 38) hx hb dX11_spelt_20 (by decide) (fun c9 => absurd c9 (by decide)) (fun _ => ?_)
  refine lv_ldc2 hx hb hown (hts _ t1610) dX11_spelt_23 ?_
  refine lv_lload hx hb dX11_spelt_26 (lv_at hl 0 rfl) ?_
  refine lv_lmul hx hb dX11_spelt_28 ?_
  refine as_l 3321 (by decide) ?_
  refine lv_iload_n hx hb dX11_spelt_29 rfl (lv_at hl 3 rfl) ?_
  refine lv_i2l (v := 101) hx hb dX11_spelt_30 (by decide) ?_
  refine lv_ladd hx hb dX11_spelt_31 ?_
  refine as_l 3422 (by decide) ?_
  refine lv_ldc2 hx hb hown (hts _ t1611) dX11_spelt_32 ?_
  refine lv_lsub hx hb dX11_spelt_35 ?_
  refine as_l 3326 (by decide) ?_
  refine lv_lstore (lv' := [(7, .long 3326), (0, .int 100), (1, .int 111), (2, .int 101), (3, .int 115), (4, .int 0), (5, .int 0), (6, .int 0)]) hx hb dX11_spelt_36 hl (by decide) rfl (fun ls hl => ?_)
  refine lv_iload_n hx hb dX11_spelt_38 rfl (lv_at hl 4 rfl) ?_
  refine lv_if_le (tgt := 57) hx hb dX11_spelt_39 (by decide) (fun c9 => absurd c9 (by decide)) (fun _ => ?_)
  refine lv_ldc2 hx hb hown (hts _ t1610) dX11_spelt_42 ?_
  refine lv_lload hx hb dX11_spelt_45 (lv_at hl 0 rfl) ?_
  refine lv_lmul hx hb dX11_spelt_47 ?_
  refine as_l 89802 (by decide) ?_
  refine lv_iload_n hx hb dX11_spelt_48 rfl (lv_at hl 4 rfl) ?_
  refine lv_i2l (v := 115) hx hb dX11_spelt_49 (by decide) ?_
  refine lv_ladd hx hb dX11_spelt_50 ?_
  refine as_l 89917 (by decide) ?_
  refine lv_ldc2 hx hb hown (hts _ t1611) dX11_spelt_51 ?_
  refine lv_lsub hx hb dX11_spelt_54 ?_
  refine as_l 89821 (by decide) ?_
  refine lv_lstore (lv' := [(7, .long 89821), (0, .int 100), (1, .int 111), (2, .int 101), (3, .int 115), (4, .int 0), (5, .int 0), (6, .int 0)]) hx hb dX11_spelt_55 hl (by decide) rfl (fun ls hl => ?_)
  refine lv_iload hx hb dX11_spelt_57 (lv_at hl 5 rfl) ?_
  refine lv_if_le (tgt := 78) hx hb dX11_spelt_59 (by decide) (fun _ => ?_) (fun c9 => absurd (by decide) c9)
  refine lv_iload hx hb dX11_spelt_78 (lv_at hl 6 rfl) ?_
  refine lv_if_le (tgt := 99) hx hb dX11_spelt_80 (by decide) (fun _ => ?_) (fun c9 => absurd (by decide) c9)
  refine lv_iload hx hb dX11_spelt_99 (lv_at hl 7 rfl) ?_
  refine lv_if_le (tgt := 120) hx hb dX11_spelt_101 (by decide) (fun _ => ?_) (fun c9 => absurd (by decide) c9)
  refine lv_lload hx hb dX11_spelt_120 (lv_at hl 0 rfl) ?_
  rw [hQ9]
  exact rr_l hx hb hr hlocks (show ((89821 : Int64) : Int64).toInt = 89821 from (by decide)) hS dX11_spelt_122
set_option maxHeartbeats 4000000 in
set_option maxRecDepth 100000 in
theorem s_spelt_lends (l : Launch) (dC : Nat → ClassId) (dI : Nat → Nat → Nat) (cy : Nat → ClassId)   : Met l yX11_spelt (wl yX11_spelt cX11_spelt 9 (some .long)) ({ frames := 0, cells := 0, slots := 0, locals := 0 }) (Pr (dC, dI) vwCl cy [] [.int 108, .int 101, .int 110, .int 100, .int 115, .int 0, .int 0]) (Rl (fun r => ((r : Int64).toInt = 6486040))) 0 0 (fun _ => False) := by
  refine mr RX11 rfl (by decide +kernel) (Nat.le_of_ble_eq_true rfl) ?_
  intro p e s m below meth c hx hb hr hlocks av9 hav hts hown hml hK hP hS Q9 hQ9 ls hl
  have hl : lv_has ls 9 [(0, .int 108), (1, .int 101), (2, .int 110), (3, .int 100), (4, .int 115), (5, .int 0), (6, .int 0)] := hl
  refine lv_ldc2 hx hb hown (hts _ t1610) dX11_spelt_0 ?_
  refine lv_iload_n hx hb dX11_spelt_3 rfl (lv_at hl 0 rfl) ?_
  refine lv_i2l (v := 108) hx hb dX11_spelt_4 (by decide) ?_
  refine lv_ldc2 hx hb hown (hts _ t1611) dX11_spelt_5 ?_
  refine lv_lsub hx hb dX11_spelt_8 ?_
  refine as_l 12 (by decide) ?_
  refine lv_lmul hx hb dX11_spelt_9 ?_
  refine as_l 324 (by decide) ?_
  refine lv_iload_n hx hb dX11_spelt_10 rfl (lv_at hl 1 rfl) ?_
  refine lv_i2l (v := 101) hx hb dX11_spelt_11 (by decide) ?_
  refine lv_ladd hx hb dX11_spelt_12 ?_
  refine as_l 425 (by decide) ?_
  refine lv_ldc2 hx hb hown (hts _ t1611) dX11_spelt_13 ?_
  refine lv_lsub hx hb dX11_spelt_16 ?_
  refine as_l 329 (by decide) ?_
  refine lv_lstore (lv' := [(7, .long 329), (0, .int 108), (1, .int 101), (2, .int 110), (3, .int 100), (4, .int 115), (5, .int 0), (6, .int 0)]) hx hb dX11_spelt_17 hl (by decide) rfl (fun ls hl => ?_)
  refine lv_iload_n hx hb dX11_spelt_19 rfl (lv_at hl 3 rfl) ?_
  refine lv_if_le (tgt := 38) hx hb dX11_spelt_20 (by decide) (fun c9 => absurd c9 (by decide)) (fun _ => ?_)
  refine lv_ldc2 hx hb hown (hts _ t1610) dX11_spelt_23 ?_
  refine lv_lload hx hb dX11_spelt_26 (lv_at hl 0 rfl) ?_
  refine lv_lmul hx hb dX11_spelt_28 ?_
  refine as_l 8883 (by decide) ?_
  refine lv_iload_n hx hb dX11_spelt_29 rfl (lv_at hl 3 rfl) ?_
  refine lv_i2l (v := 110) hx hb dX11_spelt_30 (by decide) ?_
  refine lv_ladd hx hb dX11_spelt_31 ?_
  refine as_l 8993 (by decide) ?_
  refine lv_ldc2 hx hb hown (hts _ t1611) dX11_spelt_32 ?_
  refine lv_lsub hx hb dX11_spelt_35 ?_
  refine as_l 8897 (by decide) ?_
  refine lv_lstore (lv' := [(7, .long 8897), (0, .int 108), (1, .int 101), (2, .int 110), (3, .int 100), (4, .int 115), (5, .int 0), (6, .int 0)]) hx hb dX11_spelt_36 hl (by decide) rfl (fun ls hl => ?_)
  refine lv_iload_n hx hb dX11_spelt_38 rfl (lv_at hl 4 rfl) ?_
  refine lv_if_le (tgt := 57) hx hb dX11_spelt_39 (by decide) (fun c9 => absurd c9 (by decide)) (fun _ => ?_)
  refine lv_ldc2 hx hb hown (hts _ t1610) dX11_spelt_42 ?_
  refine lv_lload hx hb dX11_spelt_45 (lv_at hl 0 rfl) ?_
  refine lv_lmul hx hb dX11_spelt_47 ?_
  refine as_l 240219 (by decide) ?_
  refine lv_iload_n hx hb dX11_spelt_48 rfl (lv_at hl 4 rfl) ?_
  refine lv_i2l (v := 100) hx hb dX11_spelt_49 (by decide) ?_
  refine lv_ladd hx hb dX11_spelt_50 ?_
  refine as_l 240319 (by decide) ?_
  refine lv_ldc2 hx hb hown (hts _ t1611) dX11_spelt_51 ?_
  refine lv_lsub hx hb dX11_spelt_54 ?_
  refine as_l 240223 (by decide) ?_
  refine lv_lstore (lv' := [(7, .long 240223), (0, .int 108), (1, .int 101), (2, .int 110), (3, .int 100), (4, .int 115), (5, .int 0), (6, .int 0)]) hx hb dX11_spelt_55 hl (by decide) rfl (fun ls hl => ?_)
  refine lv_iload hx hb dX11_spelt_57 (lv_at hl 5 rfl) ?_
  refine lv_if_le (tgt := 78) hx hb dX11_spelt_59 (by decide) (fun c9 => absurd c9 (by decide)) (fun _ => ?_)
  refine lv_ldc2 hx hb hown (hts _ t1610) dX11_spelt_62 ?_
  refine lv_lload hx hb dX11_spelt_65 (lv_at hl 0 rfl) ?_
  refine lv_lmul hx hb dX11_spelt_67 ?_
  refine as_l 6486021 (by decide) ?_
  refine lv_iload hx hb dX11_spelt_68 (lv_at hl 5 rfl) ?_
  refine lv_i2l (v := 115) hx hb dX11_spelt_70 (by decide) ?_
  refine lv_ladd hx hb dX11_spelt_71 ?_
  refine as_l 6486136 (by decide) ?_
  refine lv_ldc2 hx hb hown (hts _ t1611) dX11_spelt_72 ?_
  refine lv_lsub hx hb dX11_spelt_75 ?_
  refine as_l 6486040 (by decide) ?_
  refine lv_lstore (lv' := [(7, .long 6486040), (0, .int 108), (1, .int 101), (2, .int 110), (3, .int 100), (4, .int 115), (5, .int 0), (6, .int 0)]) hx hb dX11_spelt_76 hl (by decide) rfl (fun ls hl => ?_)
  refine lv_iload hx hb dX11_spelt_78 (lv_at hl 6 rfl) ?_
  refine lv_if_le (tgt := 99) hx hb dX11_spelt_80 (by decide) (fun _ => ?_) (fun c9 => absurd (by decide) c9)
  refine lv_iload hx hb dX11_spelt_99 (lv_at hl 7 rfl) ?_
  refine lv_if_le (tgt := 120) hx hb dX11_spelt_101 (by decide) (fun _ => ?_) (fun c9 => absurd (by decide) c9)
  refine lv_lload hx hb dX11_spelt_120 (lv_at hl 0 rfl) ?_
  rw [hQ9]
  exact rr_l hx hb hr hlocks (show ((6486040 : Int64) : Int64).toInt = 6486040 from (by decide)) hS dX11_spelt_122
set_option maxHeartbeats 4000000 in
set_option maxRecDepth 100000 in
theorem s_spelt_returns (l : Launch) (dC : Nat → ClassId) (dI : Nat → Nat → Nat) (cy : Nat → ClassId)   : Met l yX11_spelt (wl yX11_spelt cX11_spelt 9 (some .long)) ({ frames := 0, cells := 0, slots := 0, locals := 0 }) (Pr (dC, dI) vwCl cy [] [.int 114, .int 101, .int 116, .int 117, .int 114, .int 110, .int 115]) (Rl (fun r => ((r : Int64).toInt = 7056369019))) 0 0 (fun _ => False) := by
  refine mr RX11 rfl (by decide +kernel) (Nat.le_of_ble_eq_true rfl) ?_
  intro p e s m below meth c hx hb hr hlocks av9 hav hts hown hml hK hP hS Q9 hQ9 ls hl
  have hl : lv_has ls 9 [(0, .int 114), (1, .int 101), (2, .int 116), (3, .int 117), (4, .int 114), (5, .int 110), (6, .int 115)] := hl
  refine lv_ldc2 hx hb hown (hts _ t1610) dX11_spelt_0 ?_
  refine lv_iload_n hx hb dX11_spelt_3 rfl (lv_at hl 0 rfl) ?_
  refine lv_i2l (v := 114) hx hb dX11_spelt_4 (by decide) ?_
  refine lv_ldc2 hx hb hown (hts _ t1611) dX11_spelt_5 ?_
  refine lv_lsub hx hb dX11_spelt_8 ?_
  refine as_l 18 (by decide) ?_
  refine lv_lmul hx hb dX11_spelt_9 ?_
  refine as_l 486 (by decide) ?_
  refine lv_iload_n hx hb dX11_spelt_10 rfl (lv_at hl 1 rfl) ?_
  refine lv_i2l (v := 101) hx hb dX11_spelt_11 (by decide) ?_
  refine lv_ladd hx hb dX11_spelt_12 ?_
  refine as_l 587 (by decide) ?_
  refine lv_ldc2 hx hb hown (hts _ t1611) dX11_spelt_13 ?_
  refine lv_lsub hx hb dX11_spelt_16 ?_
  refine as_l 491 (by decide) ?_
  refine lv_lstore (lv' := [(7, .long 491), (0, .int 114), (1, .int 101), (2, .int 116), (3, .int 117), (4, .int 114), (5, .int 110), (6, .int 115)]) hx hb dX11_spelt_17 hl (by decide) rfl (fun ls hl => ?_)
  refine lv_iload_n hx hb dX11_spelt_19 rfl (lv_at hl 3 rfl) ?_
  refine lv_if_le (tgt := 38) hx hb dX11_spelt_20 (by decide) (fun c9 => absurd c9 (by decide)) (fun _ => ?_)
  refine lv_ldc2 hx hb hown (hts _ t1610) dX11_spelt_23 ?_
  refine lv_lload hx hb dX11_spelt_26 (lv_at hl 0 rfl) ?_
  refine lv_lmul hx hb dX11_spelt_28 ?_
  refine as_l 13257 (by decide) ?_
  refine lv_iload_n hx hb dX11_spelt_29 rfl (lv_at hl 3 rfl) ?_
  refine lv_i2l (v := 116) hx hb dX11_spelt_30 (by decide) ?_
  refine lv_ladd hx hb dX11_spelt_31 ?_
  refine as_l 13373 (by decide) ?_
  refine lv_ldc2 hx hb hown (hts _ t1611) dX11_spelt_32 ?_
  refine lv_lsub hx hb dX11_spelt_35 ?_
  refine as_l 13277 (by decide) ?_
  refine lv_lstore (lv' := [(7, .long 13277), (0, .int 114), (1, .int 101), (2, .int 116), (3, .int 117), (4, .int 114), (5, .int 110), (6, .int 115)]) hx hb dX11_spelt_36 hl (by decide) rfl (fun ls hl => ?_)
  refine lv_iload_n hx hb dX11_spelt_38 rfl (lv_at hl 4 rfl) ?_
  refine lv_if_le (tgt := 57) hx hb dX11_spelt_39 (by decide) (fun c9 => absurd c9 (by decide)) (fun _ => ?_)
  refine lv_ldc2 hx hb hown (hts _ t1610) dX11_spelt_42 ?_
  refine lv_lload hx hb dX11_spelt_45 (lv_at hl 0 rfl) ?_
  refine lv_lmul hx hb dX11_spelt_47 ?_
  refine as_l 358479 (by decide) ?_
  refine lv_iload_n hx hb dX11_spelt_48 rfl (lv_at hl 4 rfl) ?_
  refine lv_i2l (v := 117) hx hb dX11_spelt_49 (by decide) ?_
  refine lv_ladd hx hb dX11_spelt_50 ?_
  refine as_l 358596 (by decide) ?_
  refine lv_ldc2 hx hb hown (hts _ t1611) dX11_spelt_51 ?_
  refine lv_lsub hx hb dX11_spelt_54 ?_
  refine as_l 358500 (by decide) ?_
  refine lv_lstore (lv' := [(7, .long 358500), (0, .int 114), (1, .int 101), (2, .int 116), (3, .int 117), (4, .int 114), (5, .int 110), (6, .int 115)]) hx hb dX11_spelt_55 hl (by decide) rfl (fun ls hl => ?_)
  refine lv_iload hx hb dX11_spelt_57 (lv_at hl 5 rfl) ?_
  refine lv_if_le (tgt := 78) hx hb dX11_spelt_59 (by decide) (fun c9 => absurd c9 (by decide)) (fun _ => ?_)
  refine lv_ldc2 hx hb hown (hts _ t1610) dX11_spelt_62 ?_
  refine lv_lload hx hb dX11_spelt_65 (lv_at hl 0 rfl) ?_
  refine lv_lmul hx hb dX11_spelt_67 ?_
  refine as_l 9679500 (by decide) ?_
  refine lv_iload hx hb dX11_spelt_68 (lv_at hl 5 rfl) ?_
  refine lv_i2l (v := 114) hx hb dX11_spelt_70 (by decide) ?_
  refine lv_ladd hx hb dX11_spelt_71 ?_
  refine as_l 9679614 (by decide) ?_
  refine lv_ldc2 hx hb hown (hts _ t1611) dX11_spelt_72 ?_
  refine lv_lsub hx hb dX11_spelt_75 ?_
  refine as_l 9679518 (by decide) ?_
  refine lv_lstore (lv' := [(7, .long 9679518), (0, .int 114), (1, .int 101), (2, .int 116), (3, .int 117), (4, .int 114), (5, .int 110), (6, .int 115)]) hx hb dX11_spelt_76 hl (by decide) rfl (fun ls hl => ?_)
  refine lv_iload hx hb dX11_spelt_78 (lv_at hl 6 rfl) ?_
  refine lv_if_le (tgt := 99) hx hb dX11_spelt_80 (by decide) (fun c9 => absurd c9 (by decide)) (fun _ => ?_)
  refine lv_ldc2 hx hb hown (hts _ t1610) dX11_spelt_83 ?_
  refine lv_lload hx hb dX11_spelt_86 (lv_at hl 0 rfl) ?_
  refine lv_lmul hx hb dX11_spelt_88 ?_
  refine as_l 261346986 (by decide) ?_
  refine lv_iload hx hb dX11_spelt_89 (lv_at hl 6 rfl) ?_
  refine lv_i2l (v := 110) hx hb dX11_spelt_91 (by decide) ?_
  refine lv_ladd hx hb dX11_spelt_92 ?_
  refine as_l 261347096 (by decide) ?_
  refine lv_ldc2 hx hb hown (hts _ t1611) dX11_spelt_93 ?_
  refine lv_lsub hx hb dX11_spelt_96 ?_
  refine as_l 261347000 (by decide) ?_
  refine lv_lstore (lv' := [(7, .long 261347000), (0, .int 114), (1, .int 101), (2, .int 116), (3, .int 117), (4, .int 114), (5, .int 110), (6, .int 115)]) hx hb dX11_spelt_97 hl (by decide) rfl (fun ls hl => ?_)
  refine lv_iload hx hb dX11_spelt_99 (lv_at hl 7 rfl) ?_
  refine lv_if_le (tgt := 120) hx hb dX11_spelt_101 (by decide) (fun c9 => absurd c9 (by decide)) (fun _ => ?_)
  refine lv_ldc2 hx hb hown (hts _ t1610) dX11_spelt_104 ?_
  refine lv_lload hx hb dX11_spelt_107 (lv_at hl 0 rfl) ?_
  refine lv_lmul hx hb dX11_spelt_109 ?_
  refine as_l 7056369000 (by decide) ?_
  refine lv_iload hx hb dX11_spelt_110 (lv_at hl 7 rfl) ?_
  refine lv_i2l (v := 115) hx hb dX11_spelt_112 (by decide) ?_
  refine lv_ladd hx hb dX11_spelt_113 ?_
  refine as_l 7056369115 (by decide) ?_
  refine lv_ldc2 hx hb hown (hts _ t1611) dX11_spelt_114 ?_
  refine lv_lsub hx hb dX11_spelt_117 ?_
  refine as_l 7056369019 (by decide) ?_
  refine lv_lstore (lv' := [(7, .long 7056369019), (0, .int 114), (1, .int 101), (2, .int 116), (3, .int 117), (4, .int 114), (5, .int 110), (6, .int 115)]) hx hb dX11_spelt_118 hl (by decide) rfl (fun ls hl => ?_)
  refine lv_lload hx hb dX11_spelt_120 (lv_at hl 0 rfl) ?_
  rw [hQ9]
  exact rr_l hx hb hr hlocks (show ((7056369019 : Int64) : Int64).toInt = 7056369019 from (by decide)) hS dX11_spelt_122
set_option maxHeartbeats 4000000 in
set_option maxRecDepth 100000 in
theorem s_spelt_borrows (l : Launch) (dC : Nat → ClassId) (dI : Nat → Nat → Nat) (cy : Nat → ClassId)   : Met l yX11_spelt (wl yX11_spelt cX11_spelt 9 (some .long)) ({ frames := 0, cells := 0, slots := 0, locals := 0 }) (Pr (dC, dI) vwCl cy [] [.int 98, .int 111, .int 114, .int 114, .int 111, .int 119, .int 115]) (Rl (fun r => ((r : Int64).toInt = 1000006390))) 0 0 (fun _ => False) := by
  refine mr RX11 rfl (by decide +kernel) (Nat.le_of_ble_eq_true rfl) ?_
  intro p e s m below meth c hx hb hr hlocks av9 hav hts hown hml hK hP hS Q9 hQ9 ls hl
  have hl : lv_has ls 9 [(0, .int 98), (1, .int 111), (2, .int 114), (3, .int 114), (4, .int 111), (5, .int 119), (6, .int 115)] := hl
  refine lv_ldc2 hx hb hown (hts _ t1610) dX11_spelt_0 ?_
  refine lv_iload_n hx hb dX11_spelt_3 rfl (lv_at hl 0 rfl) ?_
  refine lv_i2l (v := 98) hx hb dX11_spelt_4 (by decide) ?_
  refine lv_ldc2 hx hb hown (hts _ t1611) dX11_spelt_5 ?_
  refine lv_lsub hx hb dX11_spelt_8 ?_
  refine as_l 2 (by decide) ?_
  refine lv_lmul hx hb dX11_spelt_9 ?_
  refine as_l 54 (by decide) ?_
  refine lv_iload_n hx hb dX11_spelt_10 rfl (lv_at hl 1 rfl) ?_
  refine lv_i2l (v := 111) hx hb dX11_spelt_11 (by decide) ?_
  refine lv_ladd hx hb dX11_spelt_12 ?_
  refine as_l 165 (by decide) ?_
  refine lv_ldc2 hx hb hown (hts _ t1611) dX11_spelt_13 ?_
  refine lv_lsub hx hb dX11_spelt_16 ?_
  refine as_l 69 (by decide) ?_
  refine lv_lstore (lv' := [(7, .long 69), (0, .int 98), (1, .int 111), (2, .int 114), (3, .int 114), (4, .int 111), (5, .int 119), (6, .int 115)]) hx hb dX11_spelt_17 hl (by decide) rfl (fun ls hl => ?_)
  refine lv_iload_n hx hb dX11_spelt_19 rfl (lv_at hl 3 rfl) ?_
  refine lv_if_le (tgt := 38) hx hb dX11_spelt_20 (by decide) (fun c9 => absurd c9 (by decide)) (fun _ => ?_)
  refine lv_ldc2 hx hb hown (hts _ t1610) dX11_spelt_23 ?_
  refine lv_lload hx hb dX11_spelt_26 (lv_at hl 0 rfl) ?_
  refine lv_lmul hx hb dX11_spelt_28 ?_
  refine as_l 1863 (by decide) ?_
  refine lv_iload_n hx hb dX11_spelt_29 rfl (lv_at hl 3 rfl) ?_
  refine lv_i2l (v := 114) hx hb dX11_spelt_30 (by decide) ?_
  refine lv_ladd hx hb dX11_spelt_31 ?_
  refine as_l 1977 (by decide) ?_
  refine lv_ldc2 hx hb hown (hts _ t1611) dX11_spelt_32 ?_
  refine lv_lsub hx hb dX11_spelt_35 ?_
  refine as_l 1881 (by decide) ?_
  refine lv_lstore (lv' := [(7, .long 1881), (0, .int 98), (1, .int 111), (2, .int 114), (3, .int 114), (4, .int 111), (5, .int 119), (6, .int 115)]) hx hb dX11_spelt_36 hl (by decide) rfl (fun ls hl => ?_)
  refine lv_iload_n hx hb dX11_spelt_38 rfl (lv_at hl 4 rfl) ?_
  refine lv_if_le (tgt := 57) hx hb dX11_spelt_39 (by decide) (fun c9 => absurd c9 (by decide)) (fun _ => ?_)
  refine lv_ldc2 hx hb hown (hts _ t1610) dX11_spelt_42 ?_
  refine lv_lload hx hb dX11_spelt_45 (lv_at hl 0 rfl) ?_
  refine lv_lmul hx hb dX11_spelt_47 ?_
  refine as_l 50787 (by decide) ?_
  refine lv_iload_n hx hb dX11_spelt_48 rfl (lv_at hl 4 rfl) ?_
  refine lv_i2l (v := 114) hx hb dX11_spelt_49 (by decide) ?_
  refine lv_ladd hx hb dX11_spelt_50 ?_
  refine as_l 50901 (by decide) ?_
  refine lv_ldc2 hx hb hown (hts _ t1611) dX11_spelt_51 ?_
  refine lv_lsub hx hb dX11_spelt_54 ?_
  refine as_l 50805 (by decide) ?_
  refine lv_lstore (lv' := [(7, .long 50805), (0, .int 98), (1, .int 111), (2, .int 114), (3, .int 114), (4, .int 111), (5, .int 119), (6, .int 115)]) hx hb dX11_spelt_55 hl (by decide) rfl (fun ls hl => ?_)
  refine lv_iload hx hb dX11_spelt_57 (lv_at hl 5 rfl) ?_
  refine lv_if_le (tgt := 78) hx hb dX11_spelt_59 (by decide) (fun c9 => absurd c9 (by decide)) (fun _ => ?_)
  refine lv_ldc2 hx hb hown (hts _ t1610) dX11_spelt_62 ?_
  refine lv_lload hx hb dX11_spelt_65 (lv_at hl 0 rfl) ?_
  refine lv_lmul hx hb dX11_spelt_67 ?_
  refine as_l 1371735 (by decide) ?_
  refine lv_iload hx hb dX11_spelt_68 (lv_at hl 5 rfl) ?_
  refine lv_i2l (v := 111) hx hb dX11_spelt_70 (by decide) ?_
  refine lv_ladd hx hb dX11_spelt_71 ?_
  refine as_l 1371846 (by decide) ?_
  refine lv_ldc2 hx hb hown (hts _ t1611) dX11_spelt_72 ?_
  refine lv_lsub hx hb dX11_spelt_75 ?_
  refine as_l 1371750 (by decide) ?_
  refine lv_lstore (lv' := [(7, .long 1371750), (0, .int 98), (1, .int 111), (2, .int 114), (3, .int 114), (4, .int 111), (5, .int 119), (6, .int 115)]) hx hb dX11_spelt_76 hl (by decide) rfl (fun ls hl => ?_)
  refine lv_iload hx hb dX11_spelt_78 (lv_at hl 6 rfl) ?_
  refine lv_if_le (tgt := 99) hx hb dX11_spelt_80 (by decide) (fun c9 => absurd c9 (by decide)) (fun _ => ?_)
  refine lv_ldc2 hx hb hown (hts _ t1610) dX11_spelt_83 ?_
  refine lv_lload hx hb dX11_spelt_86 (lv_at hl 0 rfl) ?_
  refine lv_lmul hx hb dX11_spelt_88 ?_
  refine as_l 37037250 (by decide) ?_
  refine lv_iload hx hb dX11_spelt_89 (lv_at hl 6 rfl) ?_
  refine lv_i2l (v := 119) hx hb dX11_spelt_91 (by decide) ?_
  refine lv_ladd hx hb dX11_spelt_92 ?_
  refine as_l 37037369 (by decide) ?_
  refine lv_ldc2 hx hb hown (hts _ t1611) dX11_spelt_93 ?_
  refine lv_lsub hx hb dX11_spelt_96 ?_
  refine as_l 37037273 (by decide) ?_
  refine lv_lstore (lv' := [(7, .long 37037273), (0, .int 98), (1, .int 111), (2, .int 114), (3, .int 114), (4, .int 111), (5, .int 119), (6, .int 115)]) hx hb dX11_spelt_97 hl (by decide) rfl (fun ls hl => ?_)
  refine lv_iload hx hb dX11_spelt_99 (lv_at hl 7 rfl) ?_
  refine lv_if_le (tgt := 120) hx hb dX11_spelt_101 (by decide) (fun c9 => absurd c9 (by decide)) (fun _ => ?_)
  refine lv_ldc2 hx hb hown (hts _ t1610) dX11_spelt_104 ?_
  refine lv_lload hx hb dX11_spelt_107 (lv_at hl 0 rfl) ?_
  refine lv_lmul hx hb dX11_spelt_109 ?_
  refine as_l 1000006371 (by decide) ?_
  refine lv_iload hx hb dX11_spelt_110 (lv_at hl 7 rfl) ?_
  refine lv_i2l (v := 115) hx hb dX11_spelt_112 (by decide) ?_
  refine lv_ladd hx hb dX11_spelt_113 ?_
  refine as_l 1000006486 (by decide) ?_
  refine lv_ldc2 hx hb hown (hts _ t1611) dX11_spelt_114 ?_
  refine lv_lsub hx hb dX11_spelt_117 ?_
  refine as_l 1000006390 (by decide) ?_
  refine lv_lstore (lv' := [(7, .long 1000006390), (0, .int 98), (1, .int 111), (2, .int 114), (3, .int 114), (4, .int 111), (5, .int 119), (6, .int 115)]) hx hb dX11_spelt_118 hl (by decide) rfl (fun ls hl => ?_)
  refine lv_lload hx hb dX11_spelt_120 (lv_at hl 0 rfl) ?_
  rw [hQ9]
  exact rr_l hx hb hr hlocks (show ((1000006390 : Int64) : Int64).toInt = 1000006390 from (by decide)) hS dX11_spelt_122
set_option maxHeartbeats 4000000 in
set_option maxRecDepth 100000 in
theorem s_spelt_pays (l : Launch) (dC : Nat → ClassId) (dI : Nat → Nat → Nat) (cy : Nat → ClassId)   : Met l yX11_spelt (wl yX11_spelt cX11_spelt 9 (some .long)) ({ frames := 0, cells := 0, slots := 0, locals := 0 }) (Pr (dC, dI) vwCl cy [] [.int 112, .int 97, .int 121, .int 115, .int 0, .int 0, .int 0]) (Rl (fun r => ((r : Int64).toInt = 316351))) 0 0 (fun _ => False) := by
  refine mr RX11 rfl (by decide +kernel) (Nat.le_of_ble_eq_true rfl) ?_
  intro p e s m below meth c hx hb hr hlocks av9 hav hts hown hml hK hP hS Q9 hQ9 ls hl
  have hl : lv_has ls 9 [(0, .int 112), (1, .int 97), (2, .int 121), (3, .int 115), (4, .int 0), (5, .int 0), (6, .int 0)] := hl
  refine lv_ldc2 hx hb hown (hts _ t1610) dX11_spelt_0 ?_
  refine lv_iload_n hx hb dX11_spelt_3 rfl (lv_at hl 0 rfl) ?_
  refine lv_i2l (v := 112) hx hb dX11_spelt_4 (by decide) ?_
  refine lv_ldc2 hx hb hown (hts _ t1611) dX11_spelt_5 ?_
  refine lv_lsub hx hb dX11_spelt_8 ?_
  refine as_l 16 (by decide) ?_
  refine lv_lmul hx hb dX11_spelt_9 ?_
  refine as_l 432 (by decide) ?_
  refine lv_iload_n hx hb dX11_spelt_10 rfl (lv_at hl 1 rfl) ?_
  refine lv_i2l (v := 97) hx hb dX11_spelt_11 (by decide) ?_
  refine lv_ladd hx hb dX11_spelt_12 ?_
  refine as_l 529 (by decide) ?_
  refine lv_ldc2 hx hb hown (hts _ t1611) dX11_spelt_13 ?_
  refine lv_lsub hx hb dX11_spelt_16 ?_
  refine as_l 433 (by decide) ?_
  refine lv_lstore (lv' := [(7, .long 433), (0, .int 112), (1, .int 97), (2, .int 121), (3, .int 115), (4, .int 0), (5, .int 0), (6, .int 0)]) hx hb dX11_spelt_17 hl (by decide) rfl (fun ls hl => ?_)
  refine lv_iload_n hx hb dX11_spelt_19 rfl (lv_at hl 3 rfl) ?_
  refine lv_if_le (tgt := 38) hx hb dX11_spelt_20 (by decide) (fun c9 => absurd c9 (by decide)) (fun _ => ?_)
  refine lv_ldc2 hx hb hown (hts _ t1610) dX11_spelt_23 ?_
  refine lv_lload hx hb dX11_spelt_26 (lv_at hl 0 rfl) ?_
  refine lv_lmul hx hb dX11_spelt_28 ?_
  refine as_l 11691 (by decide) ?_
  refine lv_iload_n hx hb dX11_spelt_29 rfl (lv_at hl 3 rfl) ?_
  refine lv_i2l (v := 121) hx hb dX11_spelt_30 (by decide) ?_
  refine lv_ladd hx hb dX11_spelt_31 ?_
  refine as_l 11812 (by decide) ?_
  refine lv_ldc2 hx hb hown (hts _ t1611) dX11_spelt_32 ?_
  refine lv_lsub hx hb dX11_spelt_35 ?_
  refine as_l 11716 (by decide) ?_
  refine lv_lstore (lv' := [(7, .long 11716), (0, .int 112), (1, .int 97), (2, .int 121), (3, .int 115), (4, .int 0), (5, .int 0), (6, .int 0)]) hx hb dX11_spelt_36 hl (by decide) rfl (fun ls hl => ?_)
  refine lv_iload_n hx hb dX11_spelt_38 rfl (lv_at hl 4 rfl) ?_
  refine lv_if_le (tgt := 57) hx hb dX11_spelt_39 (by decide) (fun c9 => absurd c9 (by decide)) (fun _ => ?_)
  refine lv_ldc2 hx hb hown (hts _ t1610) dX11_spelt_42 ?_
  refine lv_lload hx hb dX11_spelt_45 (lv_at hl 0 rfl) ?_
  refine lv_lmul hx hb dX11_spelt_47 ?_
  refine as_l 316332 (by decide) ?_
  refine lv_iload_n hx hb dX11_spelt_48 rfl (lv_at hl 4 rfl) ?_
  refine lv_i2l (v := 115) hx hb dX11_spelt_49 (by decide) ?_
  refine lv_ladd hx hb dX11_spelt_50 ?_
  refine as_l 316447 (by decide) ?_
  refine lv_ldc2 hx hb hown (hts _ t1611) dX11_spelt_51 ?_
  refine lv_lsub hx hb dX11_spelt_54 ?_
  refine as_l 316351 (by decide) ?_
  refine lv_lstore (lv' := [(7, .long 316351), (0, .int 112), (1, .int 97), (2, .int 121), (3, .int 115), (4, .int 0), (5, .int 0), (6, .int 0)]) hx hb dX11_spelt_55 hl (by decide) rfl (fun ls hl => ?_)
  refine lv_iload hx hb dX11_spelt_57 (lv_at hl 5 rfl) ?_
  refine lv_if_le (tgt := 78) hx hb dX11_spelt_59 (by decide) (fun _ => ?_) (fun c9 => absurd (by decide) c9)
  refine lv_iload hx hb dX11_spelt_78 (lv_at hl 6 rfl) ?_
  refine lv_if_le (tgt := 99) hx hb dX11_spelt_80 (by decide) (fun _ => ?_) (fun c9 => absurd (by decide) c9)
  refine lv_iload hx hb dX11_spelt_99 (lv_at hl 7 rfl) ?_
  refine lv_if_le (tgt := 120) hx hb dX11_spelt_101 (by decide) (fun _ => ?_) (fun c9 => absurd (by decide) c9)
  refine lv_lload hx hb dX11_spelt_120 (lv_at hl 0 rfl) ?_
  rw [hQ9]
  exact rr_l hx hb hr hlocks (show ((316351 : Int64) : Int64).toInt = 316351 from (by decide)) hS dX11_spelt_122
set_option maxHeartbeats 4000000 in
set_option maxRecDepth 100000 in
theorem s_spelt_sits (l : Launch) (dC : Nat → ClassId) (dI : Nat → Nat → Nat) (cy : Nat → ClassId)   : Met l yX11_spelt (wl yX11_spelt cX11_spelt 9 (some .long)) ({ frames := 0, cells := 0, slots := 0, locals := 0 }) (Pr (dC, dI) vwCl cy [] [.int 115, .int 105, .int 116, .int 115, .int 0, .int 0, .int 0]) (Rl (fun r => ((r : Int64).toInt = 381097))) 0 0 (fun _ => False) := by
  refine mr RX11 rfl (by decide +kernel) (Nat.le_of_ble_eq_true rfl) ?_
  intro p e s m below meth c hx hb hr hlocks av9 hav hts hown hml hK hP hS Q9 hQ9 ls hl
  have hl : lv_has ls 9 [(0, .int 115), (1, .int 105), (2, .int 116), (3, .int 115), (4, .int 0), (5, .int 0), (6, .int 0)] := hl
  refine lv_ldc2 hx hb hown (hts _ t1610) dX11_spelt_0 ?_
  refine lv_iload_n hx hb dX11_spelt_3 rfl (lv_at hl 0 rfl) ?_
  refine lv_i2l (v := 115) hx hb dX11_spelt_4 (by decide) ?_
  refine lv_ldc2 hx hb hown (hts _ t1611) dX11_spelt_5 ?_
  refine lv_lsub hx hb dX11_spelt_8 ?_
  refine as_l 19 (by decide) ?_
  refine lv_lmul hx hb dX11_spelt_9 ?_
  refine as_l 513 (by decide) ?_
  refine lv_iload_n hx hb dX11_spelt_10 rfl (lv_at hl 1 rfl) ?_
  refine lv_i2l (v := 105) hx hb dX11_spelt_11 (by decide) ?_
  refine lv_ladd hx hb dX11_spelt_12 ?_
  refine as_l 618 (by decide) ?_
  refine lv_ldc2 hx hb hown (hts _ t1611) dX11_spelt_13 ?_
  refine lv_lsub hx hb dX11_spelt_16 ?_
  refine as_l 522 (by decide) ?_
  refine lv_lstore (lv' := [(7, .long 522), (0, .int 115), (1, .int 105), (2, .int 116), (3, .int 115), (4, .int 0), (5, .int 0), (6, .int 0)]) hx hb dX11_spelt_17 hl (by decide) rfl (fun ls hl => ?_)
  refine lv_iload_n hx hb dX11_spelt_19 rfl (lv_at hl 3 rfl) ?_
  refine lv_if_le (tgt := 38) hx hb dX11_spelt_20 (by decide) (fun c9 => absurd c9 (by decide)) (fun _ => ?_)
  refine lv_ldc2 hx hb hown (hts _ t1610) dX11_spelt_23 ?_
  refine lv_lload hx hb dX11_spelt_26 (lv_at hl 0 rfl) ?_
  refine lv_lmul hx hb dX11_spelt_28 ?_
  refine as_l 14094 (by decide) ?_
  refine lv_iload_n hx hb dX11_spelt_29 rfl (lv_at hl 3 rfl) ?_
  refine lv_i2l (v := 116) hx hb dX11_spelt_30 (by decide) ?_
  refine lv_ladd hx hb dX11_spelt_31 ?_
  refine as_l 14210 (by decide) ?_
  refine lv_ldc2 hx hb hown (hts _ t1611) dX11_spelt_32 ?_
  refine lv_lsub hx hb dX11_spelt_35 ?_
  refine as_l 14114 (by decide) ?_
  refine lv_lstore (lv' := [(7, .long 14114), (0, .int 115), (1, .int 105), (2, .int 116), (3, .int 115), (4, .int 0), (5, .int 0), (6, .int 0)]) hx hb dX11_spelt_36 hl (by decide) rfl (fun ls hl => ?_)
  refine lv_iload_n hx hb dX11_spelt_38 rfl (lv_at hl 4 rfl) ?_
  refine lv_if_le (tgt := 57) hx hb dX11_spelt_39 (by decide) (fun c9 => absurd c9 (by decide)) (fun _ => ?_)
  refine lv_ldc2 hx hb hown (hts _ t1610) dX11_spelt_42 ?_
  refine lv_lload hx hb dX11_spelt_45 (lv_at hl 0 rfl) ?_
  refine lv_lmul hx hb dX11_spelt_47 ?_
  refine as_l 381078 (by decide) ?_
  refine lv_iload_n hx hb dX11_spelt_48 rfl (lv_at hl 4 rfl) ?_
  refine lv_i2l (v := 115) hx hb dX11_spelt_49 (by decide) ?_
  refine lv_ladd hx hb dX11_spelt_50 ?_
  refine as_l 381193 (by decide) ?_
  refine lv_ldc2 hx hb hown (hts _ t1611) dX11_spelt_51 ?_
  refine lv_lsub hx hb dX11_spelt_54 ?_
  refine as_l 381097 (by decide) ?_
  refine lv_lstore (lv' := [(7, .long 381097), (0, .int 115), (1, .int 105), (2, .int 116), (3, .int 115), (4, .int 0), (5, .int 0), (6, .int 0)]) hx hb dX11_spelt_55 hl (by decide) rfl (fun ls hl => ?_)
  refine lv_iload hx hb dX11_spelt_57 (lv_at hl 5 rfl) ?_
  refine lv_if_le (tgt := 78) hx hb dX11_spelt_59 (by decide) (fun _ => ?_) (fun c9 => absurd (by decide) c9)
  refine lv_iload hx hb dX11_spelt_78 (lv_at hl 6 rfl) ?_
  refine lv_if_le (tgt := 99) hx hb dX11_spelt_80 (by decide) (fun _ => ?_) (fun c9 => absurd (by decide) c9)
  refine lv_iload hx hb dX11_spelt_99 (lv_at hl 7 rfl) ?_
  refine lv_if_le (tgt := 120) hx hb dX11_spelt_101 (by decide) (fun _ => ?_) (fun c9 => absurd (by decide) c9)
  refine lv_lload hx hb dX11_spelt_120 (lv_at hl 0 rfl) ?_
  rw [hQ9]
  exact rr_l hx hb hr hlocks (show ((381097 : Int64) : Int64).toInt = 381097 from (by decide)) hS dX11_spelt_122
set_option maxHeartbeats 4000000 in
set_option maxRecDepth 100000 in
theorem s_spelt_year (l : Launch) (dC : Nat → ClassId) (dI : Nat → Nat → Nat) (cy : Nat → ClassId)   : Met l yX11_spelt (wl yX11_spelt cX11_spelt 9 (some .long)) ({ frames := 0, cells := 0, slots := 0, locals := 0 }) (Pr (dC, dI) vwCl cy [] [.int 121, .int 101, .int 97, .int 114, .int 0, .int 0, .int 0]) (Rl (fun r => ((r : Int64).toInt = 495765))) 0 0 (fun _ => False) := by
  refine mr RX11 rfl (by decide +kernel) (Nat.le_of_ble_eq_true rfl) ?_
  intro p e s m below meth c hx hb hr hlocks av9 hav hts hown hml hK hP hS Q9 hQ9 ls hl
  have hl : lv_has ls 9 [(0, .int 121), (1, .int 101), (2, .int 97), (3, .int 114), (4, .int 0), (5, .int 0), (6, .int 0)] := hl
  refine lv_ldc2 hx hb hown (hts _ t1610) dX11_spelt_0 ?_
  refine lv_iload_n hx hb dX11_spelt_3 rfl (lv_at hl 0 rfl) ?_
  refine lv_i2l (v := 121) hx hb dX11_spelt_4 (by decide) ?_
  refine lv_ldc2 hx hb hown (hts _ t1611) dX11_spelt_5 ?_
  refine lv_lsub hx hb dX11_spelt_8 ?_
  refine as_l 25 (by decide) ?_
  refine lv_lmul hx hb dX11_spelt_9 ?_
  refine as_l 675 (by decide) ?_
  refine lv_iload_n hx hb dX11_spelt_10 rfl (lv_at hl 1 rfl) ?_
  refine lv_i2l (v := 101) hx hb dX11_spelt_11 (by decide) ?_
  refine lv_ladd hx hb dX11_spelt_12 ?_
  refine as_l 776 (by decide) ?_
  refine lv_ldc2 hx hb hown (hts _ t1611) dX11_spelt_13 ?_
  refine lv_lsub hx hb dX11_spelt_16 ?_
  refine as_l 680 (by decide) ?_
  refine lv_lstore (lv' := [(7, .long 680), (0, .int 121), (1, .int 101), (2, .int 97), (3, .int 114), (4, .int 0), (5, .int 0), (6, .int 0)]) hx hb dX11_spelt_17 hl (by decide) rfl (fun ls hl => ?_)
  refine lv_iload_n hx hb dX11_spelt_19 rfl (lv_at hl 3 rfl) ?_
  refine lv_if_le (tgt := 38) hx hb dX11_spelt_20 (by decide) (fun c9 => absurd c9 (by decide)) (fun _ => ?_)
  refine lv_ldc2 hx hb hown (hts _ t1610) dX11_spelt_23 ?_
  refine lv_lload hx hb dX11_spelt_26 (lv_at hl 0 rfl) ?_
  refine lv_lmul hx hb dX11_spelt_28 ?_
  refine as_l 18360 (by decide) ?_
  refine lv_iload_n hx hb dX11_spelt_29 rfl (lv_at hl 3 rfl) ?_
  refine lv_i2l (v := 97) hx hb dX11_spelt_30 (by decide) ?_
  refine lv_ladd hx hb dX11_spelt_31 ?_
  refine as_l 18457 (by decide) ?_
  refine lv_ldc2 hx hb hown (hts _ t1611) dX11_spelt_32 ?_
  refine lv_lsub hx hb dX11_spelt_35 ?_
  refine as_l 18361 (by decide) ?_
  refine lv_lstore (lv' := [(7, .long 18361), (0, .int 121), (1, .int 101), (2, .int 97), (3, .int 114), (4, .int 0), (5, .int 0), (6, .int 0)]) hx hb dX11_spelt_36 hl (by decide) rfl (fun ls hl => ?_)
  refine lv_iload_n hx hb dX11_spelt_38 rfl (lv_at hl 4 rfl) ?_
  refine lv_if_le (tgt := 57) hx hb dX11_spelt_39 (by decide) (fun c9 => absurd c9 (by decide)) (fun _ => ?_)
  refine lv_ldc2 hx hb hown (hts _ t1610) dX11_spelt_42 ?_
  refine lv_lload hx hb dX11_spelt_45 (lv_at hl 0 rfl) ?_
  refine lv_lmul hx hb dX11_spelt_47 ?_
  refine as_l 495747 (by decide) ?_
  refine lv_iload_n hx hb dX11_spelt_48 rfl (lv_at hl 4 rfl) ?_
  refine lv_i2l (v := 114) hx hb dX11_spelt_49 (by decide) ?_
  refine lv_ladd hx hb dX11_spelt_50 ?_
  refine as_l 495861 (by decide) ?_
  refine lv_ldc2 hx hb hown (hts _ t1611) dX11_spelt_51 ?_
  refine lv_lsub hx hb dX11_spelt_54 ?_
  refine as_l 495765 (by decide) ?_
  refine lv_lstore (lv' := [(7, .long 495765), (0, .int 121), (1, .int 101), (2, .int 97), (3, .int 114), (4, .int 0), (5, .int 0), (6, .int 0)]) hx hb dX11_spelt_55 hl (by decide) rfl (fun ls hl => ?_)
  refine lv_iload hx hb dX11_spelt_57 (lv_at hl 5 rfl) ?_
  refine lv_if_le (tgt := 78) hx hb dX11_spelt_59 (by decide) (fun _ => ?_) (fun c9 => absurd (by decide) c9)
  refine lv_iload hx hb dX11_spelt_78 (lv_at hl 6 rfl) ?_
  refine lv_if_le (tgt := 99) hx hb dX11_spelt_80 (by decide) (fun _ => ?_) (fun c9 => absurd (by decide) c9)
  refine lv_iload hx hb dX11_spelt_99 (lv_at hl 7 rfl) ?_
  refine lv_if_le (tgt := 120) hx hb dX11_spelt_101 (by decide) (fun _ => ?_) (fun c9 => absurd (by decide) c9)
  refine lv_lload hx hb dX11_spelt_120 (lv_at hl 0 rfl) ?_
  rw [hQ9]
  exact rr_l hx hb hr hlocks (show ((495765 : Int64) : Int64).toInt = 495765 from (by decide)) hS dX11_spelt_122
set_option maxHeartbeats 4000000 in
set_option maxRecDepth 100000 in
theorem s_spelt_or (l : Launch) (dC : Nat → ClassId) (dI : Nat → Nat → Nat) (cy : Nat → ClassId)   : Met l yX11_spelt (wl yX11_spelt cX11_spelt 9 (some .long)) ({ frames := 0, cells := 0, slots := 0, locals := 0 }) (Pr (dC, dI) vwCl cy [] [.int 111, .int 114, .int 0, .int 0, .int 0, .int 0, .int 0]) (Rl (fun r => ((r : Int64).toInt = 423))) 0 0 (fun _ => False) := by
  refine mr RX11 rfl (by decide +kernel) (Nat.le_of_ble_eq_true rfl) ?_
  intro p e s m below meth c hx hb hr hlocks av9 hav hts hown hml hK hP hS Q9 hQ9 ls hl
  have hl : lv_has ls 9 [(0, .int 111), (1, .int 114), (2, .int 0), (3, .int 0), (4, .int 0), (5, .int 0), (6, .int 0)] := hl
  refine lv_ldc2 hx hb hown (hts _ t1610) dX11_spelt_0 ?_
  refine lv_iload_n hx hb dX11_spelt_3 rfl (lv_at hl 0 rfl) ?_
  refine lv_i2l (v := 111) hx hb dX11_spelt_4 (by decide) ?_
  refine lv_ldc2 hx hb hown (hts _ t1611) dX11_spelt_5 ?_
  refine lv_lsub hx hb dX11_spelt_8 ?_
  refine as_l 15 (by decide) ?_
  refine lv_lmul hx hb dX11_spelt_9 ?_
  refine as_l 405 (by decide) ?_
  refine lv_iload_n hx hb dX11_spelt_10 rfl (lv_at hl 1 rfl) ?_
  refine lv_i2l (v := 114) hx hb dX11_spelt_11 (by decide) ?_
  refine lv_ladd hx hb dX11_spelt_12 ?_
  refine as_l 519 (by decide) ?_
  refine lv_ldc2 hx hb hown (hts _ t1611) dX11_spelt_13 ?_
  refine lv_lsub hx hb dX11_spelt_16 ?_
  refine as_l 423 (by decide) ?_
  refine lv_lstore (lv' := [(7, .long 423), (0, .int 111), (1, .int 114), (2, .int 0), (3, .int 0), (4, .int 0), (5, .int 0), (6, .int 0)]) hx hb dX11_spelt_17 hl (by decide) rfl (fun ls hl => ?_)
  refine lv_iload_n hx hb dX11_spelt_19 rfl (lv_at hl 3 rfl) ?_
  refine lv_if_le (tgt := 38) hx hb dX11_spelt_20 (by decide) (fun _ => ?_) (fun c9 => absurd (by decide) c9)
  refine lv_iload_n hx hb dX11_spelt_38 rfl (lv_at hl 4 rfl) ?_
  refine lv_if_le (tgt := 57) hx hb dX11_spelt_39 (by decide) (fun _ => ?_) (fun c9 => absurd (by decide) c9)
  refine lv_iload hx hb dX11_spelt_57 (lv_at hl 5 rfl) ?_
  refine lv_if_le (tgt := 78) hx hb dX11_spelt_59 (by decide) (fun _ => ?_) (fun c9 => absurd (by decide) c9)
  refine lv_iload hx hb dX11_spelt_78 (lv_at hl 6 rfl) ?_
  refine lv_if_le (tgt := 99) hx hb dX11_spelt_80 (by decide) (fun _ => ?_) (fun c9 => absurd (by decide) c9)
  refine lv_iload hx hb dX11_spelt_99 (lv_at hl 7 rfl) ?_
  refine lv_if_le (tgt := 120) hx hb dX11_spelt_101 (by decide) (fun _ => ?_) (fun c9 => absurd (by decide) c9)
  refine lv_lload hx hb dX11_spelt_120 (lv_at hl 0 rfl) ?_
  rw [hQ9]
  exact rr_l hx hb hr hlocks (show ((423 : Int64) : Int64).toInt = 423 from (by decide)) hS dX11_spelt_122
set_option maxHeartbeats 4000000 in
set_option maxRecDepth 100000 in
theorem s_spelt_and (l : Launch) (dC : Nat → ClassId) (dI : Nat → Nat → Nat) (cy : Nat → ClassId)   : Met l yX11_spelt (wl yX11_spelt cX11_spelt 9 (some .long)) ({ frames := 0, cells := 0, slots := 0, locals := 0 }) (Pr (dC, dI) vwCl cy [] [.int 97, .int 110, .int 100, .int 0, .int 0, .int 0, .int 0]) (Rl (fun r => ((r : Int64).toInt = 1111))) 0 0 (fun _ => False) := by
  refine mr RX11 rfl (by decide +kernel) (Nat.le_of_ble_eq_true rfl) ?_
  intro p e s m below meth c hx hb hr hlocks av9 hav hts hown hml hK hP hS Q9 hQ9 ls hl
  have hl : lv_has ls 9 [(0, .int 97), (1, .int 110), (2, .int 100), (3, .int 0), (4, .int 0), (5, .int 0), (6, .int 0)] := hl
  refine lv_ldc2 hx hb hown (hts _ t1610) dX11_spelt_0 ?_
  refine lv_iload_n hx hb dX11_spelt_3 rfl (lv_at hl 0 rfl) ?_
  refine lv_i2l (v := 97) hx hb dX11_spelt_4 (by decide) ?_
  refine lv_ldc2 hx hb hown (hts _ t1611) dX11_spelt_5 ?_
  refine lv_lsub hx hb dX11_spelt_8 ?_
  refine as_l 1 (by decide) ?_
  refine lv_lmul hx hb dX11_spelt_9 ?_
  refine as_l 27 (by decide) ?_
  refine lv_iload_n hx hb dX11_spelt_10 rfl (lv_at hl 1 rfl) ?_
  refine lv_i2l (v := 110) hx hb dX11_spelt_11 (by decide) ?_
  refine lv_ladd hx hb dX11_spelt_12 ?_
  refine as_l 137 (by decide) ?_
  refine lv_ldc2 hx hb hown (hts _ t1611) dX11_spelt_13 ?_
  refine lv_lsub hx hb dX11_spelt_16 ?_
  refine as_l 41 (by decide) ?_
  refine lv_lstore (lv' := [(7, .long 41), (0, .int 97), (1, .int 110), (2, .int 100), (3, .int 0), (4, .int 0), (5, .int 0), (6, .int 0)]) hx hb dX11_spelt_17 hl (by decide) rfl (fun ls hl => ?_)
  refine lv_iload_n hx hb dX11_spelt_19 rfl (lv_at hl 3 rfl) ?_
  refine lv_if_le (tgt := 38) hx hb dX11_spelt_20 (by decide) (fun c9 => absurd c9 (by decide)) (fun _ => ?_)
  refine lv_ldc2 hx hb hown (hts _ t1610) dX11_spelt_23 ?_
  refine lv_lload hx hb dX11_spelt_26 (lv_at hl 0 rfl) ?_
  refine lv_lmul hx hb dX11_spelt_28 ?_
  refine as_l 1107 (by decide) ?_
  refine lv_iload_n hx hb dX11_spelt_29 rfl (lv_at hl 3 rfl) ?_
  refine lv_i2l (v := 100) hx hb dX11_spelt_30 (by decide) ?_
  refine lv_ladd hx hb dX11_spelt_31 ?_
  refine as_l 1207 (by decide) ?_
  refine lv_ldc2 hx hb hown (hts _ t1611) dX11_spelt_32 ?_
  refine lv_lsub hx hb dX11_spelt_35 ?_
  refine as_l 1111 (by decide) ?_
  refine lv_lstore (lv' := [(7, .long 1111), (0, .int 97), (1, .int 110), (2, .int 100), (3, .int 0), (4, .int 0), (5, .int 0), (6, .int 0)]) hx hb dX11_spelt_36 hl (by decide) rfl (fun ls hl => ?_)
  refine lv_iload_n hx hb dX11_spelt_38 rfl (lv_at hl 4 rfl) ?_
  refine lv_if_le (tgt := 57) hx hb dX11_spelt_39 (by decide) (fun _ => ?_) (fun c9 => absurd (by decide) c9)
  refine lv_iload hx hb dX11_spelt_57 (lv_at hl 5 rfl) ?_
  refine lv_if_le (tgt := 78) hx hb dX11_spelt_59 (by decide) (fun _ => ?_) (fun c9 => absurd (by decide) c9)
  refine lv_iload hx hb dX11_spelt_78 (lv_at hl 6 rfl) ?_
  refine lv_if_le (tgt := 99) hx hb dX11_spelt_80 (by decide) (fun _ => ?_) (fun c9 => absurd (by decide) c9)
  refine lv_iload hx hb dX11_spelt_99 (lv_at hl 7 rfl) ?_
  refine lv_if_le (tgt := 120) hx hb dX11_spelt_101 (by decide) (fun _ => ?_) (fun c9 => absurd (by decide) c9)
  refine lv_lload hx hb dX11_spelt_120 (lv_at hl 0 rfl) ?_
  rw [hQ9]
  exact rr_l hx hb hr hlocks (show ((1111 : Int64) : Int64).toInt = 1111 from (by decide)) hS dX11_spelt_122
set_option maxHeartbeats 4000000 in
set_option maxRecDepth 100000 in
theorem s_spelt_not (l : Launch) (dC : Nat → ClassId) (dI : Nat → Nat → Nat) (cy : Nat → ClassId)   : Met l yX11_spelt (wl yX11_spelt cX11_spelt 9 (some .long)) ({ frames := 0, cells := 0, slots := 0, locals := 0 }) (Pr (dC, dI) vwCl cy [] [.int 110, .int 111, .int 116, .int 0, .int 0, .int 0, .int 0]) (Rl (fun r => ((r : Int64).toInt = 10631))) 0 0 (fun _ => False) := by
  refine mr RX11 rfl (by decide +kernel) (Nat.le_of_ble_eq_true rfl) ?_
  intro p e s m below meth c hx hb hr hlocks av9 hav hts hown hml hK hP hS Q9 hQ9 ls hl
  have hl : lv_has ls 9 [(0, .int 110), (1, .int 111), (2, .int 116), (3, .int 0), (4, .int 0), (5, .int 0), (6, .int 0)] := hl
  refine lv_ldc2 hx hb hown (hts _ t1610) dX11_spelt_0 ?_
  refine lv_iload_n hx hb dX11_spelt_3 rfl (lv_at hl 0 rfl) ?_
  refine lv_i2l (v := 110) hx hb dX11_spelt_4 (by decide) ?_
  refine lv_ldc2 hx hb hown (hts _ t1611) dX11_spelt_5 ?_
  refine lv_lsub hx hb dX11_spelt_8 ?_
  refine as_l 14 (by decide) ?_
  refine lv_lmul hx hb dX11_spelt_9 ?_
  refine as_l 378 (by decide) ?_
  refine lv_iload_n hx hb dX11_spelt_10 rfl (lv_at hl 1 rfl) ?_
  refine lv_i2l (v := 111) hx hb dX11_spelt_11 (by decide) ?_
  refine lv_ladd hx hb dX11_spelt_12 ?_
  refine as_l 489 (by decide) ?_
  refine lv_ldc2 hx hb hown (hts _ t1611) dX11_spelt_13 ?_
  refine lv_lsub hx hb dX11_spelt_16 ?_
  refine as_l 393 (by decide) ?_
  refine lv_lstore (lv' := [(7, .long 393), (0, .int 110), (1, .int 111), (2, .int 116), (3, .int 0), (4, .int 0), (5, .int 0), (6, .int 0)]) hx hb dX11_spelt_17 hl (by decide) rfl (fun ls hl => ?_)
  refine lv_iload_n hx hb dX11_spelt_19 rfl (lv_at hl 3 rfl) ?_
  refine lv_if_le (tgt := 38) hx hb dX11_spelt_20 (by decide) (fun c9 => absurd c9 (by decide)) (fun _ => ?_)
  refine lv_ldc2 hx hb hown (hts _ t1610) dX11_spelt_23 ?_
  refine lv_lload hx hb dX11_spelt_26 (lv_at hl 0 rfl) ?_
  refine lv_lmul hx hb dX11_spelt_28 ?_
  refine as_l 10611 (by decide) ?_
  refine lv_iload_n hx hb dX11_spelt_29 rfl (lv_at hl 3 rfl) ?_
  refine lv_i2l (v := 116) hx hb dX11_spelt_30 (by decide) ?_
  refine lv_ladd hx hb dX11_spelt_31 ?_
  refine as_l 10727 (by decide) ?_
  refine lv_ldc2 hx hb hown (hts _ t1611) dX11_spelt_32 ?_
  refine lv_lsub hx hb dX11_spelt_35 ?_
  refine as_l 10631 (by decide) ?_
  refine lv_lstore (lv' := [(7, .long 10631), (0, .int 110), (1, .int 111), (2, .int 116), (3, .int 0), (4, .int 0), (5, .int 0), (6, .int 0)]) hx hb dX11_spelt_36 hl (by decide) rfl (fun ls hl => ?_)
  refine lv_iload_n hx hb dX11_spelt_38 rfl (lv_at hl 4 rfl) ?_
  refine lv_if_le (tgt := 57) hx hb dX11_spelt_39 (by decide) (fun _ => ?_) (fun c9 => absurd (by decide) c9)
  refine lv_iload hx hb dX11_spelt_57 (lv_at hl 5 rfl) ?_
  refine lv_if_le (tgt := 78) hx hb dX11_spelt_59 (by decide) (fun _ => ?_) (fun c9 => absurd (by decide) c9)
  refine lv_iload hx hb dX11_spelt_78 (lv_at hl 6 rfl) ?_
  refine lv_if_le (tgt := 99) hx hb dX11_spelt_80 (by decide) (fun _ => ?_) (fun c9 => absurd (by decide) c9)
  refine lv_iload hx hb dX11_spelt_99 (lv_at hl 7 rfl) ?_
  refine lv_if_le (tgt := 120) hx hb dX11_spelt_101 (by decide) (fun _ => ?_) (fun c9 => absurd (by decide) c9)
  refine lv_lload hx hb dX11_spelt_120 (lv_at hl 0 rfl) ?_
  rw [hQ9]
  exact rr_l hx hb hr hlocks (show ((10631 : Int64) : Int64).toInt = 10631 from (by decide)) hS dX11_spelt_122
set_option maxHeartbeats 4000000 in
set_option maxRecDepth 100000 in
theorem s_spelt_seen (l : Launch) (dC : Nat → ClassId) (dI : Nat → Nat → Nat) (cy : Nat → ClassId)   : Met l yX11_spelt (wl yX11_spelt cX11_spelt 9 (some .long)) ({ frames := 0, cells := 0, slots := 0, locals := 0 }) (Pr (dC, dI) vwCl cy [] [.int 115, .int 101, .int 101, .int 110, .int 0, .int 0, .int 0]) (Rl (fun r => ((r : Int64).toInt = 377771))) 0 0 (fun _ => False) := by
  refine mr RX11 rfl (by decide +kernel) (Nat.le_of_ble_eq_true rfl) ?_
  intro p e s m below meth c hx hb hr hlocks av9 hav hts hown hml hK hP hS Q9 hQ9 ls hl
  have hl : lv_has ls 9 [(0, .int 115), (1, .int 101), (2, .int 101), (3, .int 110), (4, .int 0), (5, .int 0), (6, .int 0)] := hl
  refine lv_ldc2 hx hb hown (hts _ t1610) dX11_spelt_0 ?_
  refine lv_iload_n hx hb dX11_spelt_3 rfl (lv_at hl 0 rfl) ?_
  refine lv_i2l (v := 115) hx hb dX11_spelt_4 (by decide) ?_
  refine lv_ldc2 hx hb hown (hts _ t1611) dX11_spelt_5 ?_
  refine lv_lsub hx hb dX11_spelt_8 ?_
  refine as_l 19 (by decide) ?_
  refine lv_lmul hx hb dX11_spelt_9 ?_
  refine as_l 513 (by decide) ?_
  refine lv_iload_n hx hb dX11_spelt_10 rfl (lv_at hl 1 rfl) ?_
  refine lv_i2l (v := 101) hx hb dX11_spelt_11 (by decide) ?_
  refine lv_ladd hx hb dX11_spelt_12 ?_
  refine as_l 614 (by decide) ?_
  refine lv_ldc2 hx hb hown (hts _ t1611) dX11_spelt_13 ?_
  refine lv_lsub hx hb dX11_spelt_16 ?_
  refine as_l 518 (by decide) ?_
  refine lv_lstore (lv' := [(7, .long 518), (0, .int 115), (1, .int 101), (2, .int 101), (3, .int 110), (4, .int 0), (5, .int 0), (6, .int 0)]) hx hb dX11_spelt_17 hl (by decide) rfl (fun ls hl => ?_)
  refine lv_iload_n hx hb dX11_spelt_19 rfl (lv_at hl 3 rfl) ?_
  refine lv_if_le (tgt := 38) hx hb dX11_spelt_20 (by decide) (fun c9 => absurd c9 (by decide)) (fun _ => ?_)
  refine lv_ldc2 hx hb hown (hts _ t1610) dX11_spelt_23 ?_
  refine lv_lload hx hb dX11_spelt_26 (lv_at hl 0 rfl) ?_
  refine lv_lmul hx hb dX11_spelt_28 ?_
  refine as_l 13986 (by decide) ?_
  refine lv_iload_n hx hb dX11_spelt_29 rfl (lv_at hl 3 rfl) ?_
  refine lv_i2l (v := 101) hx hb dX11_spelt_30 (by decide) ?_
  refine lv_ladd hx hb dX11_spelt_31 ?_
  refine as_l 14087 (by decide) ?_
  refine lv_ldc2 hx hb hown (hts _ t1611) dX11_spelt_32 ?_
  refine lv_lsub hx hb dX11_spelt_35 ?_
  refine as_l 13991 (by decide) ?_
  refine lv_lstore (lv' := [(7, .long 13991), (0, .int 115), (1, .int 101), (2, .int 101), (3, .int 110), (4, .int 0), (5, .int 0), (6, .int 0)]) hx hb dX11_spelt_36 hl (by decide) rfl (fun ls hl => ?_)
  refine lv_iload_n hx hb dX11_spelt_38 rfl (lv_at hl 4 rfl) ?_
  refine lv_if_le (tgt := 57) hx hb dX11_spelt_39 (by decide) (fun c9 => absurd c9 (by decide)) (fun _ => ?_)
  refine lv_ldc2 hx hb hown (hts _ t1610) dX11_spelt_42 ?_
  refine lv_lload hx hb dX11_spelt_45 (lv_at hl 0 rfl) ?_
  refine lv_lmul hx hb dX11_spelt_47 ?_
  refine as_l 377757 (by decide) ?_
  refine lv_iload_n hx hb dX11_spelt_48 rfl (lv_at hl 4 rfl) ?_
  refine lv_i2l (v := 110) hx hb dX11_spelt_49 (by decide) ?_
  refine lv_ladd hx hb dX11_spelt_50 ?_
  refine as_l 377867 (by decide) ?_
  refine lv_ldc2 hx hb hown (hts _ t1611) dX11_spelt_51 ?_
  refine lv_lsub hx hb dX11_spelt_54 ?_
  refine as_l 377771 (by decide) ?_
  refine lv_lstore (lv' := [(7, .long 377771), (0, .int 115), (1, .int 101), (2, .int 101), (3, .int 110), (4, .int 0), (5, .int 0), (6, .int 0)]) hx hb dX11_spelt_55 hl (by decide) rfl (fun ls hl => ?_)
  refine lv_iload hx hb dX11_spelt_57 (lv_at hl 5 rfl) ?_
  refine lv_if_le (tgt := 78) hx hb dX11_spelt_59 (by decide) (fun _ => ?_) (fun c9 => absurd (by decide) c9)
  refine lv_iload hx hb dX11_spelt_78 (lv_at hl 6 rfl) ?_
  refine lv_if_le (tgt := 99) hx hb dX11_spelt_80 (by decide) (fun _ => ?_) (fun c9 => absurd (by decide) c9)
  refine lv_iload hx hb dX11_spelt_99 (lv_at hl 7 rfl) ?_
  refine lv_if_le (tgt := 120) hx hb dX11_spelt_101 (by decide) (fun _ => ?_) (fun c9 => absurd (by decide) c9)
  refine lv_lload hx hb dX11_spelt_120 (lv_at hl 0 rfl) ?_
  rw [hQ9]
  exact rr_l hx hb hr hlocks (show ((377771 : Int64) : Int64).toInt = 377771 from (by decide)) hS dX11_spelt_122
set_option maxHeartbeats 4000000 in
set_option maxRecDepth 100000 in
theorem s_spelt_faint (l : Launch) (dC : Nat → ClassId) (dI : Nat → Nat → Nat) (cy : Nat → ClassId)   : Met l yX11_spelt (wl yX11_spelt cX11_spelt 9 (some .long)) ({ frames := 0, cells := 0, slots := 0, locals := 0 }) (Pr (dC, dI) vwCl cy [] [.int 102, .int 97, .int 105, .int 110, .int 116, .int 0, .int 0]) (Rl (fun r => ((r : Int64).toInt = 3215288))) 0 0 (fun _ => False) := by
  refine mr RX11 rfl (by decide +kernel) (Nat.le_of_ble_eq_true rfl) ?_
  intro p e s m below meth c hx hb hr hlocks av9 hav hts hown hml hK hP hS Q9 hQ9 ls hl
  have hl : lv_has ls 9 [(0, .int 102), (1, .int 97), (2, .int 105), (3, .int 110), (4, .int 116), (5, .int 0), (6, .int 0)] := hl
  refine lv_ldc2 hx hb hown (hts _ t1610) dX11_spelt_0 ?_
  refine lv_iload_n hx hb dX11_spelt_3 rfl (lv_at hl 0 rfl) ?_
  refine lv_i2l (v := 102) hx hb dX11_spelt_4 (by decide) ?_
  refine lv_ldc2 hx hb hown (hts _ t1611) dX11_spelt_5 ?_
  refine lv_lsub hx hb dX11_spelt_8 ?_
  refine as_l 6 (by decide) ?_
  refine lv_lmul hx hb dX11_spelt_9 ?_
  refine as_l 162 (by decide) ?_
  refine lv_iload_n hx hb dX11_spelt_10 rfl (lv_at hl 1 rfl) ?_
  refine lv_i2l (v := 97) hx hb dX11_spelt_11 (by decide) ?_
  refine lv_ladd hx hb dX11_spelt_12 ?_
  refine as_l 259 (by decide) ?_
  refine lv_ldc2 hx hb hown (hts _ t1611) dX11_spelt_13 ?_
  refine lv_lsub hx hb dX11_spelt_16 ?_
  refine as_l 163 (by decide) ?_
  refine lv_lstore (lv' := [(7, .long 163), (0, .int 102), (1, .int 97), (2, .int 105), (3, .int 110), (4, .int 116), (5, .int 0), (6, .int 0)]) hx hb dX11_spelt_17 hl (by decide) rfl (fun ls hl => ?_)
  refine lv_iload_n hx hb dX11_spelt_19 rfl (lv_at hl 3 rfl) ?_
  refine lv_if_le (tgt := 38) hx hb dX11_spelt_20 (by decide) (fun c9 => absurd c9 (by decide)) (fun _ => ?_)
  refine lv_ldc2 hx hb hown (hts _ t1610) dX11_spelt_23 ?_
  refine lv_lload hx hb dX11_spelt_26 (lv_at hl 0 rfl) ?_
  refine lv_lmul hx hb dX11_spelt_28 ?_
  refine as_l 4401 (by decide) ?_
  refine lv_iload_n hx hb dX11_spelt_29 rfl (lv_at hl 3 rfl) ?_
  refine lv_i2l (v := 105) hx hb dX11_spelt_30 (by decide) ?_
  refine lv_ladd hx hb dX11_spelt_31 ?_
  refine as_l 4506 (by decide) ?_
  refine lv_ldc2 hx hb hown (hts _ t1611) dX11_spelt_32 ?_
  refine lv_lsub hx hb dX11_spelt_35 ?_
  refine as_l 4410 (by decide) ?_
  refine lv_lstore (lv' := [(7, .long 4410), (0, .int 102), (1, .int 97), (2, .int 105), (3, .int 110), (4, .int 116), (5, .int 0), (6, .int 0)]) hx hb dX11_spelt_36 hl (by decide) rfl (fun ls hl => ?_)
  refine lv_iload_n hx hb dX11_spelt_38 rfl (lv_at hl 4 rfl) ?_
  refine lv_if_le (tgt := 57) hx hb dX11_spelt_39 (by decide) (fun c9 => absurd c9 (by decide)) (fun _ => ?_)
  refine lv_ldc2 hx hb hown (hts _ t1610) dX11_spelt_42 ?_
  refine lv_lload hx hb dX11_spelt_45 (lv_at hl 0 rfl) ?_
  refine lv_lmul hx hb dX11_spelt_47 ?_
  refine as_l 119070 (by decide) ?_
  refine lv_iload_n hx hb dX11_spelt_48 rfl (lv_at hl 4 rfl) ?_
  refine lv_i2l (v := 110) hx hb dX11_spelt_49 (by decide) ?_
  refine lv_ladd hx hb dX11_spelt_50 ?_
  refine as_l 119180 (by decide) ?_
  refine lv_ldc2 hx hb hown (hts _ t1611) dX11_spelt_51 ?_
  refine lv_lsub hx hb dX11_spelt_54 ?_
  refine as_l 119084 (by decide) ?_
  refine lv_lstore (lv' := [(7, .long 119084), (0, .int 102), (1, .int 97), (2, .int 105), (3, .int 110), (4, .int 116), (5, .int 0), (6, .int 0)]) hx hb dX11_spelt_55 hl (by decide) rfl (fun ls hl => ?_)
  refine lv_iload hx hb dX11_spelt_57 (lv_at hl 5 rfl) ?_
  refine lv_if_le (tgt := 78) hx hb dX11_spelt_59 (by decide) (fun c9 => absurd c9 (by decide)) (fun _ => ?_)
  refine lv_ldc2 hx hb hown (hts _ t1610) dX11_spelt_62 ?_
  refine lv_lload hx hb dX11_spelt_65 (lv_at hl 0 rfl) ?_
  refine lv_lmul hx hb dX11_spelt_67 ?_
  refine as_l 3215268 (by decide) ?_
  refine lv_iload hx hb dX11_spelt_68 (lv_at hl 5 rfl) ?_
  refine lv_i2l (v := 116) hx hb dX11_spelt_70 (by decide) ?_
  refine lv_ladd hx hb dX11_spelt_71 ?_
  refine as_l 3215384 (by decide) ?_
  refine lv_ldc2 hx hb hown (hts _ t1611) dX11_spelt_72 ?_
  refine lv_lsub hx hb dX11_spelt_75 ?_
  refine as_l 3215288 (by decide) ?_
  refine lv_lstore (lv' := [(7, .long 3215288), (0, .int 102), (1, .int 97), (2, .int 105), (3, .int 110), (4, .int 116), (5, .int 0), (6, .int 0)]) hx hb dX11_spelt_76 hl (by decide) rfl (fun ls hl => ?_)
  refine lv_iload hx hb dX11_spelt_78 (lv_at hl 6 rfl) ?_
  refine lv_if_le (tgt := 99) hx hb dX11_spelt_80 (by decide) (fun _ => ?_) (fun c9 => absurd (by decide) c9)
  refine lv_iload hx hb dX11_spelt_99 (lv_at hl 7 rfl) ?_
  refine lv_if_le (tgt := 120) hx hb dX11_spelt_101 (by decide) (fun _ => ?_) (fun c9 => absurd (by decide) c9)
  refine lv_lload hx hb dX11_spelt_120 (lv_at hl 0 rfl) ?_
  rw [hQ9]
  exact rr_l hx hb hr hlocks (show ((3215288 : Int64) : Int64).toInt = 3215288 from (by decide)) hS dX11_spelt_122
set_option maxHeartbeats 4000000 in
set_option maxRecDepth 100000 in
theorem s_spelt_full (l : Launch) (dC : Nat → ClassId) (dI : Nat → Nat → Nat) (cy : Nat → ClassId)   : Met l yX11_spelt (wl yX11_spelt cX11_spelt 9 (some .long)) ({ frames := 0, cells := 0, slots := 0, locals := 0 }) (Pr (dC, dI) vwCl cy [] [.int 102, .int 117, .int 108, .int 108, .int 0, .int 0, .int 0]) (Rl (fun r => ((r : Int64).toInt = 133743))) 0 0 (fun _ => False) := by
  refine mr RX11 rfl (by decide +kernel) (Nat.le_of_ble_eq_true rfl) ?_
  intro p e s m below meth c hx hb hr hlocks av9 hav hts hown hml hK hP hS Q9 hQ9 ls hl
  have hl : lv_has ls 9 [(0, .int 102), (1, .int 117), (2, .int 108), (3, .int 108), (4, .int 0), (5, .int 0), (6, .int 0)] := hl
  refine lv_ldc2 hx hb hown (hts _ t1610) dX11_spelt_0 ?_
  refine lv_iload_n hx hb dX11_spelt_3 rfl (lv_at hl 0 rfl) ?_
  refine lv_i2l (v := 102) hx hb dX11_spelt_4 (by decide) ?_
  refine lv_ldc2 hx hb hown (hts _ t1611) dX11_spelt_5 ?_
  refine lv_lsub hx hb dX11_spelt_8 ?_
  refine as_l 6 (by decide) ?_
  refine lv_lmul hx hb dX11_spelt_9 ?_
  refine as_l 162 (by decide) ?_
  refine lv_iload_n hx hb dX11_spelt_10 rfl (lv_at hl 1 rfl) ?_
  refine lv_i2l (v := 117) hx hb dX11_spelt_11 (by decide) ?_
  refine lv_ladd hx hb dX11_spelt_12 ?_
  refine as_l 279 (by decide) ?_
  refine lv_ldc2 hx hb hown (hts _ t1611) dX11_spelt_13 ?_
  refine lv_lsub hx hb dX11_spelt_16 ?_
  refine as_l 183 (by decide) ?_
  refine lv_lstore (lv' := [(7, .long 183), (0, .int 102), (1, .int 117), (2, .int 108), (3, .int 108), (4, .int 0), (5, .int 0), (6, .int 0)]) hx hb dX11_spelt_17 hl (by decide) rfl (fun ls hl => ?_)
  refine lv_iload_n hx hb dX11_spelt_19 rfl (lv_at hl 3 rfl) ?_
  refine lv_if_le (tgt := 38) hx hb dX11_spelt_20 (by decide) (fun c9 => absurd c9 (by decide)) (fun _ => ?_)
  refine lv_ldc2 hx hb hown (hts _ t1610) dX11_spelt_23 ?_
  refine lv_lload hx hb dX11_spelt_26 (lv_at hl 0 rfl) ?_
  refine lv_lmul hx hb dX11_spelt_28 ?_
  refine as_l 4941 (by decide) ?_
  refine lv_iload_n hx hb dX11_spelt_29 rfl (lv_at hl 3 rfl) ?_
  refine lv_i2l (v := 108) hx hb dX11_spelt_30 (by decide) ?_
  refine lv_ladd hx hb dX11_spelt_31 ?_
  refine as_l 5049 (by decide) ?_
  refine lv_ldc2 hx hb hown (hts _ t1611) dX11_spelt_32 ?_
  refine lv_lsub hx hb dX11_spelt_35 ?_
  refine as_l 4953 (by decide) ?_
  refine lv_lstore (lv' := [(7, .long 4953), (0, .int 102), (1, .int 117), (2, .int 108), (3, .int 108), (4, .int 0), (5, .int 0), (6, .int 0)]) hx hb dX11_spelt_36 hl (by decide) rfl (fun ls hl => ?_)
  refine lv_iload_n hx hb dX11_spelt_38 rfl (lv_at hl 4 rfl) ?_
  refine lv_if_le (tgt := 57) hx hb dX11_spelt_39 (by decide) (fun c9 => absurd c9 (by decide)) (fun _ => ?_)
  refine lv_ldc2 hx hb hown (hts _ t1610) dX11_spelt_42 ?_
  refine lv_lload hx hb dX11_spelt_45 (lv_at hl 0 rfl) ?_
  refine lv_lmul hx hb dX11_spelt_47 ?_
  refine as_l 133731 (by decide) ?_
  refine lv_iload_n hx hb dX11_spelt_48 rfl (lv_at hl 4 rfl) ?_
  refine lv_i2l (v := 108) hx hb dX11_spelt_49 (by decide) ?_
  refine lv_ladd hx hb dX11_spelt_50 ?_
  refine as_l 133839 (by decide) ?_
  refine lv_ldc2 hx hb hown (hts _ t1611) dX11_spelt_51 ?_
  refine lv_lsub hx hb dX11_spelt_54 ?_
  refine as_l 133743 (by decide) ?_
  refine lv_lstore (lv' := [(7, .long 133743), (0, .int 102), (1, .int 117), (2, .int 108), (3, .int 108), (4, .int 0), (5, .int 0), (6, .int 0)]) hx hb dX11_spelt_55 hl (by decide) rfl (fun ls hl => ?_)
  refine lv_iload hx hb dX11_spelt_57 (lv_at hl 5 rfl) ?_
  refine lv_if_le (tgt := 78) hx hb dX11_spelt_59 (by decide) (fun _ => ?_) (fun c9 => absurd (by decide) c9)
  refine lv_iload hx hb dX11_spelt_78 (lv_at hl 6 rfl) ?_
  refine lv_if_le (tgt := 99) hx hb dX11_spelt_80 (by decide) (fun _ => ?_) (fun c9 => absurd (by decide) c9)
  refine lv_iload hx hb dX11_spelt_99 (lv_at hl 7 rfl) ?_
  refine lv_if_le (tgt := 120) hx hb dX11_spelt_101 (by decide) (fun _ => ?_) (fun c9 => absurd (by decide) c9)
  refine lv_lload hx hb dX11_spelt_120 (lv_at hl 0 rfl) ?_
  rw [hQ9]
  exact rr_l hx hb hr hlocks (show ((133743 : Int64) : Int64).toInt = 133743 from (by decide)) hS dX11_spelt_122
set_option maxHeartbeats 4000000 in
set_option maxRecDepth 100000 in
theorem s_spelt_taken (l : Launch) (dC : Nat → ClassId) (dI : Nat → Nat → Nat) (cy : Nat → ClassId)   : Met l yX11_spelt (wl yX11_spelt cX11_spelt 9 (some .long)) ({ frames := 0, cells := 0, slots := 0, locals := 0 }) (Pr (dC, dI) vwCl cy [] [.int 116, .int 97, .int 107, .int 101, .int 110, .int 0, .int 0]) (Rl (fun r => ((r : Int64).toInt = 10656671))) 0 0 (fun _ => False) := by
  refine mr RX11 rfl (by decide +kernel) (Nat.le_of_ble_eq_true rfl) ?_
  intro p e s m below meth c hx hb hr hlocks av9 hav hts hown hml hK hP hS Q9 hQ9 ls hl
  have hl : lv_has ls 9 [(0, .int 116), (1, .int 97), (2, .int 107), (3, .int 101), (4, .int 110), (5, .int 0), (6, .int 0)] := hl
  refine lv_ldc2 hx hb hown (hts _ t1610) dX11_spelt_0 ?_
  refine lv_iload_n hx hb dX11_spelt_3 rfl (lv_at hl 0 rfl) ?_
  refine lv_i2l (v := 116) hx hb dX11_spelt_4 (by decide) ?_
  refine lv_ldc2 hx hb hown (hts _ t1611) dX11_spelt_5 ?_
  refine lv_lsub hx hb dX11_spelt_8 ?_
  refine as_l 20 (by decide) ?_
  refine lv_lmul hx hb dX11_spelt_9 ?_
  refine as_l 540 (by decide) ?_
  refine lv_iload_n hx hb dX11_spelt_10 rfl (lv_at hl 1 rfl) ?_
  refine lv_i2l (v := 97) hx hb dX11_spelt_11 (by decide) ?_
  refine lv_ladd hx hb dX11_spelt_12 ?_
  refine as_l 637 (by decide) ?_
  refine lv_ldc2 hx hb hown (hts _ t1611) dX11_spelt_13 ?_
  refine lv_lsub hx hb dX11_spelt_16 ?_
  refine as_l 541 (by decide) ?_
  refine lv_lstore (lv' := [(7, .long 541), (0, .int 116), (1, .int 97), (2, .int 107), (3, .int 101), (4, .int 110), (5, .int 0), (6, .int 0)]) hx hb dX11_spelt_17 hl (by decide) rfl (fun ls hl => ?_)
  refine lv_iload_n hx hb dX11_spelt_19 rfl (lv_at hl 3 rfl) ?_
  refine lv_if_le (tgt := 38) hx hb dX11_spelt_20 (by decide) (fun c9 => absurd c9 (by decide)) (fun _ => ?_)
  refine lv_ldc2 hx hb hown (hts _ t1610) dX11_spelt_23 ?_
  refine lv_lload hx hb dX11_spelt_26 (lv_at hl 0 rfl) ?_
  refine lv_lmul hx hb dX11_spelt_28 ?_
  refine as_l 14607 (by decide) ?_
  refine lv_iload_n hx hb dX11_spelt_29 rfl (lv_at hl 3 rfl) ?_
  refine lv_i2l (v := 107) hx hb dX11_spelt_30 (by decide) ?_
  refine lv_ladd hx hb dX11_spelt_31 ?_
  refine as_l 14714 (by decide) ?_
  refine lv_ldc2 hx hb hown (hts _ t1611) dX11_spelt_32 ?_
  refine lv_lsub hx hb dX11_spelt_35 ?_
  refine as_l 14618 (by decide) ?_
  refine lv_lstore (lv' := [(7, .long 14618), (0, .int 116), (1, .int 97), (2, .int 107), (3, .int 101), (4, .int 110), (5, .int 0), (6, .int 0)]) hx hb dX11_spelt_36 hl (by decide) rfl (fun ls hl => ?_)
  refine lv_iload_n hx hb dX11_spelt_38 rfl (lv_at hl 4 rfl) ?_
  refine lv_if_le (tgt := 57) hx hb dX11_spelt_39 (by decide) (fun c9 => absurd c9 (by decide)) (fun _ => ?_)
  refine lv_ldc2 hx hb hown (hts _ t1610) dX11_spelt_42 ?_
  refine lv_lload hx hb dX11_spelt_45 (lv_at hl 0 rfl) ?_
  refine lv_lmul hx hb dX11_spelt_47 ?_
  refine as_l 394686 (by decide) ?_
  refine lv_iload_n hx hb dX11_spelt_48 rfl (lv_at hl 4 rfl) ?_
  refine lv_i2l (v := 101) hx hb dX11_spelt_49 (by decide) ?_
  refine lv_ladd hx hb dX11_spelt_50 ?_
  refine as_l 394787 (by decide) ?_
  refine lv_ldc2 hx hb hown (hts _ t1611) dX11_spelt_51 ?_
  refine lv_lsub hx hb dX11_spelt_54 ?_
  refine as_l 394691 (by decide) ?_
  refine lv_lstore (lv' := [(7, .long 394691), (0, .int 116), (1, .int 97), (2, .int 107), (3, .int 101), (4, .int 110), (5, .int 0), (6, .int 0)]) hx hb dX11_spelt_55 hl (by decide) rfl (fun ls hl => ?_)
  refine lv_iload hx hb dX11_spelt_57 (lv_at hl 5 rfl) ?_
  refine lv_if_le (tgt := 78) hx hb dX11_spelt_59 (by decide) (fun c9 => absurd c9 (by decide)) (fun _ => ?_)
  refine lv_ldc2 hx hb hown (hts _ t1610) dX11_spelt_62 ?_
  refine lv_lload hx hb dX11_spelt_65 (lv_at hl 0 rfl) ?_
  refine lv_lmul hx hb dX11_spelt_67 ?_
  refine as_l 10656657 (by decide) ?_
  refine lv_iload hx hb dX11_spelt_68 (lv_at hl 5 rfl) ?_
  refine lv_i2l (v := 110) hx hb dX11_spelt_70 (by decide) ?_
  refine lv_ladd hx hb dX11_spelt_71 ?_
  refine as_l 10656767 (by decide) ?_
  refine lv_ldc2 hx hb hown (hts _ t1611) dX11_spelt_72 ?_
  refine lv_lsub hx hb dX11_spelt_75 ?_
  refine as_l 10656671 (by decide) ?_
  refine lv_lstore (lv' := [(7, .long 10656671), (0, .int 116), (1, .int 97), (2, .int 107), (3, .int 101), (4, .int 110), (5, .int 0), (6, .int 0)]) hx hb dX11_spelt_76 hl (by decide) rfl (fun ls hl => ?_)
  refine lv_iload hx hb dX11_spelt_78 (lv_at hl 6 rfl) ?_
  refine lv_if_le (tgt := 99) hx hb dX11_spelt_80 (by decide) (fun _ => ?_) (fun c9 => absurd (by decide) c9)
  refine lv_iload hx hb dX11_spelt_99 (lv_at hl 7 rfl) ?_
  refine lv_if_le (tgt := 120) hx hb dX11_spelt_101 (by decide) (fun _ => ?_) (fun c9 => absurd (by decide) c9)
  refine lv_lload hx hb dX11_spelt_120 (lv_at hl 0 rfl) ?_
  rw [hQ9]
  exact rr_l hx hb hr hlocks (show ((10656671 : Int64) : Int64).toInt = 10656671 from (by decide)) hS dX11_spelt_122
set_option maxHeartbeats 4000000 in
set_option maxRecDepth 100000 in
theorem s_spelt_lending (l : Launch) (dC : Nat → ClassId) (dI : Nat → Nat → Nat) (cy : Nat → ClassId)   : Met l yX11_spelt (wl yX11_spelt cX11_spelt 9 (some .long)) ({ frames := 0, cells := 0, slots := 0, locals := 0 }) (Pr (dC, dI) vwCl cy [] [.int 108, .int 101, .int 110, .int 100, .int 105, .int 110, .int 103]) (Rl (fun r => ((r : Int64).toInt = 4728316255))) 0 0 (fun _ => False) := by
  refine mr RX11 rfl (by decide +kernel) (Nat.le_of_ble_eq_true rfl) ?_
  intro p e s m below meth c hx hb hr hlocks av9 hav hts hown hml hK hP hS Q9 hQ9 ls hl
  have hl : lv_has ls 9 [(0, .int 108), (1, .int 101), (2, .int 110), (3, .int 100), (4, .int 105), (5, .int 110), (6, .int 103)] := hl
  refine lv_ldc2 hx hb hown (hts _ t1610) dX11_spelt_0 ?_
  refine lv_iload_n hx hb dX11_spelt_3 rfl (lv_at hl 0 rfl) ?_
  refine lv_i2l (v := 108) hx hb dX11_spelt_4 (by decide) ?_
  refine lv_ldc2 hx hb hown (hts _ t1611) dX11_spelt_5 ?_
  refine lv_lsub hx hb dX11_spelt_8 ?_
  refine as_l 12 (by decide) ?_
  refine lv_lmul hx hb dX11_spelt_9 ?_
  refine as_l 324 (by decide) ?_
  refine lv_iload_n hx hb dX11_spelt_10 rfl (lv_at hl 1 rfl) ?_
  refine lv_i2l (v := 101) hx hb dX11_spelt_11 (by decide) ?_
  refine lv_ladd hx hb dX11_spelt_12 ?_
  refine as_l 425 (by decide) ?_
  refine lv_ldc2 hx hb hown (hts _ t1611) dX11_spelt_13 ?_
  refine lv_lsub hx hb dX11_spelt_16 ?_
  refine as_l 329 (by decide) ?_
  refine lv_lstore (lv' := [(7, .long 329), (0, .int 108), (1, .int 101), (2, .int 110), (3, .int 100), (4, .int 105), (5, .int 110), (6, .int 103)]) hx hb dX11_spelt_17 hl (by decide) rfl (fun ls hl => ?_)
  refine lv_iload_n hx hb dX11_spelt_19 rfl (lv_at hl 3 rfl) ?_
  refine lv_if_le (tgt := 38) hx hb dX11_spelt_20 (by decide) (fun c9 => absurd c9 (by decide)) (fun _ => ?_)
  refine lv_ldc2 hx hb hown (hts _ t1610) dX11_spelt_23 ?_
  refine lv_lload hx hb dX11_spelt_26 (lv_at hl 0 rfl) ?_
  refine lv_lmul hx hb dX11_spelt_28 ?_
  refine as_l 8883 (by decide) ?_
  refine lv_iload_n hx hb dX11_spelt_29 rfl (lv_at hl 3 rfl) ?_
  refine lv_i2l (v := 110) hx hb dX11_spelt_30 (by decide) ?_
  refine lv_ladd hx hb dX11_spelt_31 ?_
  refine as_l 8993 (by decide) ?_
  refine lv_ldc2 hx hb hown (hts _ t1611) dX11_spelt_32 ?_
  refine lv_lsub hx hb dX11_spelt_35 ?_
  refine as_l 8897 (by decide) ?_
  refine lv_lstore (lv' := [(7, .long 8897), (0, .int 108), (1, .int 101), (2, .int 110), (3, .int 100), (4, .int 105), (5, .int 110), (6, .int 103)]) hx hb dX11_spelt_36 hl (by decide) rfl (fun ls hl => ?_)
  refine lv_iload_n hx hb dX11_spelt_38 rfl (lv_at hl 4 rfl) ?_
  refine lv_if_le (tgt := 57) hx hb dX11_spelt_39 (by decide) (fun c9 => absurd c9 (by decide)) (fun _ => ?_)
  refine lv_ldc2 hx hb hown (hts _ t1610) dX11_spelt_42 ?_
  refine lv_lload hx hb dX11_spelt_45 (lv_at hl 0 rfl) ?_
  refine lv_lmul hx hb dX11_spelt_47 ?_
  refine as_l 240219 (by decide) ?_
  refine lv_iload_n hx hb dX11_spelt_48 rfl (lv_at hl 4 rfl) ?_
  refine lv_i2l (v := 100) hx hb dX11_spelt_49 (by decide) ?_
  refine lv_ladd hx hb dX11_spelt_50 ?_
  refine as_l 240319 (by decide) ?_
  refine lv_ldc2 hx hb hown (hts _ t1611) dX11_spelt_51 ?_
  refine lv_lsub hx hb dX11_spelt_54 ?_
  refine as_l 240223 (by decide) ?_
  refine lv_lstore (lv' := [(7, .long 240223), (0, .int 108), (1, .int 101), (2, .int 110), (3, .int 100), (4, .int 105), (5, .int 110), (6, .int 103)]) hx hb dX11_spelt_55 hl (by decide) rfl (fun ls hl => ?_)
  refine lv_iload hx hb dX11_spelt_57 (lv_at hl 5 rfl) ?_
  refine lv_if_le (tgt := 78) hx hb dX11_spelt_59 (by decide) (fun c9 => absurd c9 (by decide)) (fun _ => ?_)
  refine lv_ldc2 hx hb hown (hts _ t1610) dX11_spelt_62 ?_
  refine lv_lload hx hb dX11_spelt_65 (lv_at hl 0 rfl) ?_
  refine lv_lmul hx hb dX11_spelt_67 ?_
  refine as_l 6486021 (by decide) ?_
  refine lv_iload hx hb dX11_spelt_68 (lv_at hl 5 rfl) ?_
  refine lv_i2l (v := 105) hx hb dX11_spelt_70 (by decide) ?_
  refine lv_ladd hx hb dX11_spelt_71 ?_
  refine as_l 6486126 (by decide) ?_
  refine lv_ldc2 hx hb hown (hts _ t1611) dX11_spelt_72 ?_
  refine lv_lsub hx hb dX11_spelt_75 ?_
  refine as_l 6486030 (by decide) ?_
  refine lv_lstore (lv' := [(7, .long 6486030), (0, .int 108), (1, .int 101), (2, .int 110), (3, .int 100), (4, .int 105), (5, .int 110), (6, .int 103)]) hx hb dX11_spelt_76 hl (by decide) rfl (fun ls hl => ?_)
  refine lv_iload hx hb dX11_spelt_78 (lv_at hl 6 rfl) ?_
  refine lv_if_le (tgt := 99) hx hb dX11_spelt_80 (by decide) (fun c9 => absurd c9 (by decide)) (fun _ => ?_)
  refine lv_ldc2 hx hb hown (hts _ t1610) dX11_spelt_83 ?_
  refine lv_lload hx hb dX11_spelt_86 (lv_at hl 0 rfl) ?_
  refine lv_lmul hx hb dX11_spelt_88 ?_
  refine as_l 175122810 (by decide) ?_
  refine lv_iload hx hb dX11_spelt_89 (lv_at hl 6 rfl) ?_
  refine lv_i2l (v := 110) hx hb dX11_spelt_91 (by decide) ?_
  refine lv_ladd hx hb dX11_spelt_92 ?_
  refine as_l 175122920 (by decide) ?_
  refine lv_ldc2 hx hb hown (hts _ t1611) dX11_spelt_93 ?_
  refine lv_lsub hx hb dX11_spelt_96 ?_
  refine as_l 175122824 (by decide) ?_
  refine lv_lstore (lv' := [(7, .long 175122824), (0, .int 108), (1, .int 101), (2, .int 110), (3, .int 100), (4, .int 105), (5, .int 110), (6, .int 103)]) hx hb dX11_spelt_97 hl (by decide) rfl (fun ls hl => ?_)
  refine lv_iload hx hb dX11_spelt_99 (lv_at hl 7 rfl) ?_
  refine lv_if_le (tgt := 120) hx hb dX11_spelt_101 (by decide) (fun c9 => absurd c9 (by decide)) (fun _ => ?_)
  refine lv_ldc2 hx hb hown (hts _ t1610) dX11_spelt_104 ?_
  refine lv_lload hx hb dX11_spelt_107 (lv_at hl 0 rfl) ?_
  refine lv_lmul hx hb dX11_spelt_109 ?_
  refine as_l 4728316248 (by decide) ?_
  refine lv_iload hx hb dX11_spelt_110 (lv_at hl 7 rfl) ?_
  refine lv_i2l (v := 103) hx hb dX11_spelt_112 (by decide) ?_
  refine lv_ladd hx hb dX11_spelt_113 ?_
  refine as_l 4728316351 (by decide) ?_
  refine lv_ldc2 hx hb hown (hts _ t1611) dX11_spelt_114 ?_
  refine lv_lsub hx hb dX11_spelt_117 ?_
  refine as_l 4728316255 (by decide) ?_
  refine lv_lstore (lv' := [(7, .long 4728316255), (0, .int 108), (1, .int 101), (2, .int 110), (3, .int 100), (4, .int 105), (5, .int 110), (6, .int 103)]) hx hb dX11_spelt_118 hl (by decide) rfl (fun ls hl => ?_)
  refine lv_lload hx hb dX11_spelt_120 (lv_at hl 0 rfl) ?_
  rw [hQ9]
  exact rr_l hx hb hr hlocks (show ((4728316255 : Int64) : Int64).toInt = 4728316255 from (by decide)) hS dX11_spelt_122
set_option maxHeartbeats 4000000 in
set_option maxRecDepth 100000 in
theorem s_spelt_has (l : Launch) (dC : Nat → ClassId) (dI : Nat → Nat → Nat) (cy : Nat → ClassId)   : Met l yX11_spelt (wl yX11_spelt cX11_spelt 9 (some .long)) ({ frames := 0, cells := 0, slots := 0, locals := 0 }) (Pr (dC, dI) vwCl cy [] [.int 104, .int 97, .int 115, .int 0, .int 0, .int 0, .int 0]) (Rl (fun r => ((r : Int64).toInt = 5878))) 0 0 (fun _ => False) := by
  refine mr RX11 rfl (by decide +kernel) (Nat.le_of_ble_eq_true rfl) ?_
  intro p e s m below meth c hx hb hr hlocks av9 hav hts hown hml hK hP hS Q9 hQ9 ls hl
  have hl : lv_has ls 9 [(0, .int 104), (1, .int 97), (2, .int 115), (3, .int 0), (4, .int 0), (5, .int 0), (6, .int 0)] := hl
  refine lv_ldc2 hx hb hown (hts _ t1610) dX11_spelt_0 ?_
  refine lv_iload_n hx hb dX11_spelt_3 rfl (lv_at hl 0 rfl) ?_
  refine lv_i2l (v := 104) hx hb dX11_spelt_4 (by decide) ?_
  refine lv_ldc2 hx hb hown (hts _ t1611) dX11_spelt_5 ?_
  refine lv_lsub hx hb dX11_spelt_8 ?_
  refine as_l 8 (by decide) ?_
  refine lv_lmul hx hb dX11_spelt_9 ?_
  refine as_l 216 (by decide) ?_
  refine lv_iload_n hx hb dX11_spelt_10 rfl (lv_at hl 1 rfl) ?_
  refine lv_i2l (v := 97) hx hb dX11_spelt_11 (by decide) ?_
  refine lv_ladd hx hb dX11_spelt_12 ?_
  refine as_l 313 (by decide) ?_
  refine lv_ldc2 hx hb hown (hts _ t1611) dX11_spelt_13 ?_
  refine lv_lsub hx hb dX11_spelt_16 ?_
  refine as_l 217 (by decide) ?_
  refine lv_lstore (lv' := [(7, .long 217), (0, .int 104), (1, .int 97), (2, .int 115), (3, .int 0), (4, .int 0), (5, .int 0), (6, .int 0)]) hx hb dX11_spelt_17 hl (by decide) rfl (fun ls hl => ?_)
  refine lv_iload_n hx hb dX11_spelt_19 rfl (lv_at hl 3 rfl) ?_
  refine lv_if_le (tgt := 38) hx hb dX11_spelt_20 (by decide) (fun c9 => absurd c9 (by decide)) (fun _ => ?_)
  refine lv_ldc2 hx hb hown (hts _ t1610) dX11_spelt_23 ?_
  refine lv_lload hx hb dX11_spelt_26 (lv_at hl 0 rfl) ?_
  refine lv_lmul hx hb dX11_spelt_28 ?_
  refine as_l 5859 (by decide) ?_
  refine lv_iload_n hx hb dX11_spelt_29 rfl (lv_at hl 3 rfl) ?_
  refine lv_i2l (v := 115) hx hb dX11_spelt_30 (by decide) ?_
  refine lv_ladd hx hb dX11_spelt_31 ?_
  refine as_l 5974 (by decide) ?_
  refine lv_ldc2 hx hb hown (hts _ t1611) dX11_spelt_32 ?_
  refine lv_lsub hx hb dX11_spelt_35 ?_
  refine as_l 5878 (by decide) ?_
  refine lv_lstore (lv' := [(7, .long 5878), (0, .int 104), (1, .int 97), (2, .int 115), (3, .int 0), (4, .int 0), (5, .int 0), (6, .int 0)]) hx hb dX11_spelt_36 hl (by decide) rfl (fun ls hl => ?_)
  refine lv_iload_n hx hb dX11_spelt_38 rfl (lv_at hl 4 rfl) ?_
  refine lv_if_le (tgt := 57) hx hb dX11_spelt_39 (by decide) (fun _ => ?_) (fun c9 => absurd (by decide) c9)
  refine lv_iload hx hb dX11_spelt_57 (lv_at hl 5 rfl) ?_
  refine lv_if_le (tgt := 78) hx hb dX11_spelt_59 (by decide) (fun _ => ?_) (fun c9 => absurd (by decide) c9)
  refine lv_iload hx hb dX11_spelt_78 (lv_at hl 6 rfl) ?_
  refine lv_if_le (tgt := 99) hx hb dX11_spelt_80 (by decide) (fun _ => ?_) (fun c9 => absurd (by decide) c9)
  refine lv_iload hx hb dX11_spelt_99 (lv_at hl 7 rfl) ?_
  refine lv_if_le (tgt := 120) hx hb dX11_spelt_101 (by decide) (fun _ => ?_) (fun c9 => absurd (by decide) c9)
  refine lv_lload hx hb dX11_spelt_120 (lv_at hl 0 rfl) ?_
  rw [hQ9]
  exact rr_l hx hb hr hlocks (show ((5878 : Int64) : Int64).toInt = 5878 from (by decide)) hS dX11_spelt_122
set_option maxHeartbeats 4000000 in
set_option maxRecDepth 100000 in
theorem s_spelt_akin (l : Launch) (dC : Nat → ClassId) (dI : Nat → Nat → Nat) (cy : Nat → ClassId)   : Met l yX11_spelt (wl yX11_spelt cX11_spelt 9 (some .long)) ({ frames := 0, cells := 0, slots := 0, locals := 0 }) (Pr (dC, dI) vwCl cy [] [.int 97, .int 107, .int 105, .int 110, .int 0, .int 0, .int 0]) (Rl (fun r => ((r : Int64).toInt = 27959))) 0 0 (fun _ => False) := by
  refine mr RX11 rfl (by decide +kernel) (Nat.le_of_ble_eq_true rfl) ?_
  intro p e s m below meth c hx hb hr hlocks av9 hav hts hown hml hK hP hS Q9 hQ9 ls hl
  have hl : lv_has ls 9 [(0, .int 97), (1, .int 107), (2, .int 105), (3, .int 110), (4, .int 0), (5, .int 0), (6, .int 0)] := hl
  refine lv_ldc2 hx hb hown (hts _ t1610) dX11_spelt_0 ?_
  refine lv_iload_n hx hb dX11_spelt_3 rfl (lv_at hl 0 rfl) ?_
  refine lv_i2l (v := 97) hx hb dX11_spelt_4 (by decide) ?_
  refine lv_ldc2 hx hb hown (hts _ t1611) dX11_spelt_5 ?_
  refine lv_lsub hx hb dX11_spelt_8 ?_
  refine as_l 1 (by decide) ?_
  refine lv_lmul hx hb dX11_spelt_9 ?_
  refine as_l 27 (by decide) ?_
  refine lv_iload_n hx hb dX11_spelt_10 rfl (lv_at hl 1 rfl) ?_
  refine lv_i2l (v := 107) hx hb dX11_spelt_11 (by decide) ?_
  refine lv_ladd hx hb dX11_spelt_12 ?_
  refine as_l 134 (by decide) ?_
  refine lv_ldc2 hx hb hown (hts _ t1611) dX11_spelt_13 ?_
  refine lv_lsub hx hb dX11_spelt_16 ?_
  refine as_l 38 (by decide) ?_
  refine lv_lstore (lv' := [(7, .long 38), (0, .int 97), (1, .int 107), (2, .int 105), (3, .int 110), (4, .int 0), (5, .int 0), (6, .int 0)]) hx hb dX11_spelt_17 hl (by decide) rfl (fun ls hl => ?_)
  refine lv_iload_n hx hb dX11_spelt_19 rfl (lv_at hl 3 rfl) ?_
  refine lv_if_le (tgt := 38) hx hb dX11_spelt_20 (by decide) (fun c9 => absurd c9 (by decide)) (fun _ => ?_)
  refine lv_ldc2 hx hb hown (hts _ t1610) dX11_spelt_23 ?_
  refine lv_lload hx hb dX11_spelt_26 (lv_at hl 0 rfl) ?_
  refine lv_lmul hx hb dX11_spelt_28 ?_
  refine as_l 1026 (by decide) ?_
  refine lv_iload_n hx hb dX11_spelt_29 rfl (lv_at hl 3 rfl) ?_
  refine lv_i2l (v := 105) hx hb dX11_spelt_30 (by decide) ?_
  refine lv_ladd hx hb dX11_spelt_31 ?_
  refine as_l 1131 (by decide) ?_
  refine lv_ldc2 hx hb hown (hts _ t1611) dX11_spelt_32 ?_
  refine lv_lsub hx hb dX11_spelt_35 ?_
  refine as_l 1035 (by decide) ?_
  refine lv_lstore (lv' := [(7, .long 1035), (0, .int 97), (1, .int 107), (2, .int 105), (3, .int 110), (4, .int 0), (5, .int 0), (6, .int 0)]) hx hb dX11_spelt_36 hl (by decide) rfl (fun ls hl => ?_)
  refine lv_iload_n hx hb dX11_spelt_38 rfl (lv_at hl 4 rfl) ?_
  refine lv_if_le (tgt := 57) hx hb dX11_spelt_39 (by decide) (fun c9 => absurd c9 (by decide)) (fun _ => ?_)
  refine lv_ldc2 hx hb hown (hts _ t1610) dX11_spelt_42 ?_
  refine lv_lload hx hb dX11_spelt_45 (lv_at hl 0 rfl) ?_
  refine lv_lmul hx hb dX11_spelt_47 ?_
  refine as_l 27945 (by decide) ?_
  refine lv_iload_n hx hb dX11_spelt_48 rfl (lv_at hl 4 rfl) ?_
  refine lv_i2l (v := 110) hx hb dX11_spelt_49 (by decide) ?_
  refine lv_ladd hx hb dX11_spelt_50 ?_
  refine as_l 28055 (by decide) ?_
  refine lv_ldc2 hx hb hown (hts _ t1611) dX11_spelt_51 ?_
  refine lv_lsub hx hb dX11_spelt_54 ?_
  refine as_l 27959 (by decide) ?_
  refine lv_lstore (lv' := [(7, .long 27959), (0, .int 97), (1, .int 107), (2, .int 105), (3, .int 110), (4, .int 0), (5, .int 0), (6, .int 0)]) hx hb dX11_spelt_55 hl (by decide) rfl (fun ls hl => ?_)
  refine lv_iload hx hb dX11_spelt_57 (lv_at hl 5 rfl) ?_
  refine lv_if_le (tgt := 78) hx hb dX11_spelt_59 (by decide) (fun _ => ?_) (fun c9 => absurd (by decide) c9)
  refine lv_iload hx hb dX11_spelt_78 (lv_at hl 6 rfl) ?_
  refine lv_if_le (tgt := 99) hx hb dX11_spelt_80 (by decide) (fun _ => ?_) (fun c9 => absurd (by decide) c9)
  refine lv_iload hx hb dX11_spelt_99 (lv_at hl 7 rfl) ?_
  refine lv_if_le (tgt := 120) hx hb dX11_spelt_101 (by decide) (fun _ => ?_) (fun c9 => absurd (by decide) c9)
  refine lv_lload hx hb dX11_spelt_120 (lv_at hl 0 rfl) ?_
  rw [hQ9]
  exact rr_l hx hb hr hlocks (show ((27959 : Int64) : Int64).toInt = 27959 from (by decide)) hS dX11_spelt_122
set_option maxHeartbeats 4000000 in
set_option maxRecDepth 100000 in
theorem s_spelt_white (l : Launch) (dC : Nat → ClassId) (dI : Nat → Nat → Nat) (cy : Nat → ClassId)   : Met l yX11_spelt (wl yX11_spelt cX11_spelt 9 (some .long)) ({ frames := 0, cells := 0, slots := 0, locals := 0 }) (Pr (dC, dI) vwCl cy [] [.int 119, .int 104, .int 105, .int 116, .int 101, .int 0, .int 0]) (Rl (fun r => ((r : Int64).toInt = 12387713))) 0 0 (fun _ => False) := by
  refine mr RX11 rfl (by decide +kernel) (Nat.le_of_ble_eq_true rfl) ?_
  intro p e s m below meth c hx hb hr hlocks av9 hav hts hown hml hK hP hS Q9 hQ9 ls hl
  have hl : lv_has ls 9 [(0, .int 119), (1, .int 104), (2, .int 105), (3, .int 116), (4, .int 101), (5, .int 0), (6, .int 0)] := hl
  refine lv_ldc2 hx hb hown (hts _ t1610) dX11_spelt_0 ?_
  refine lv_iload_n hx hb dX11_spelt_3 rfl (lv_at hl 0 rfl) ?_
  refine lv_i2l (v := 119) hx hb dX11_spelt_4 (by decide) ?_
  refine lv_ldc2 hx hb hown (hts _ t1611) dX11_spelt_5 ?_
  refine lv_lsub hx hb dX11_spelt_8 ?_
  refine as_l 23 (by decide) ?_
  refine lv_lmul hx hb dX11_spelt_9 ?_
  refine as_l 621 (by decide) ?_
  refine lv_iload_n hx hb dX11_spelt_10 rfl (lv_at hl 1 rfl) ?_
  refine lv_i2l (v := 104) hx hb dX11_spelt_11 (by decide) ?_
  refine lv_ladd hx hb dX11_spelt_12 ?_
  refine as_l 725 (by decide) ?_
  refine lv_ldc2 hx hb hown (hts _ t1611) dX11_spelt_13 ?_
  refine lv_lsub hx hb dX11_spelt_16 ?_
  refine as_l 629 (by decide) ?_
  refine lv_lstore (lv' := [(7, .long 629), (0, .int 119), (1, .int 104), (2, .int 105), (3, .int 116), (4, .int 101), (5, .int 0), (6, .int 0)]) hx hb dX11_spelt_17 hl (by decide) rfl (fun ls hl => ?_)
  refine lv_iload_n hx hb dX11_spelt_19 rfl (lv_at hl 3 rfl) ?_
  refine lv_if_le (tgt := 38) hx hb dX11_spelt_20 (by decide) (fun c9 => absurd c9 (by decide)) (fun _ => ?_)
  refine lv_ldc2 hx hb hown (hts _ t1610) dX11_spelt_23 ?_
  refine lv_lload hx hb dX11_spelt_26 (lv_at hl 0 rfl) ?_
  refine lv_lmul hx hb dX11_spelt_28 ?_
  refine as_l 16983 (by decide) ?_
  refine lv_iload_n hx hb dX11_spelt_29 rfl (lv_at hl 3 rfl) ?_
  refine lv_i2l (v := 105) hx hb dX11_spelt_30 (by decide) ?_
  refine lv_ladd hx hb dX11_spelt_31 ?_
  refine as_l 17088 (by decide) ?_
  refine lv_ldc2 hx hb hown (hts _ t1611) dX11_spelt_32 ?_
  refine lv_lsub hx hb dX11_spelt_35 ?_
  refine as_l 16992 (by decide) ?_
  refine lv_lstore (lv' := [(7, .long 16992), (0, .int 119), (1, .int 104), (2, .int 105), (3, .int 116), (4, .int 101), (5, .int 0), (6, .int 0)]) hx hb dX11_spelt_36 hl (by decide) rfl (fun ls hl => ?_)
  refine lv_iload_n hx hb dX11_spelt_38 rfl (lv_at hl 4 rfl) ?_
  refine lv_if_le (tgt := 57) hx hb dX11_spelt_39 (by decide) (fun c9 => absurd c9 (by decide)) (fun _ => ?_)
  refine lv_ldc2 hx hb hown (hts _ t1610) dX11_spelt_42 ?_
  refine lv_lload hx hb dX11_spelt_45 (lv_at hl 0 rfl) ?_
  refine lv_lmul hx hb dX11_spelt_47 ?_
  refine as_l 458784 (by decide) ?_
  refine lv_iload_n hx hb dX11_spelt_48 rfl (lv_at hl 4 rfl) ?_
  refine lv_i2l (v := 116) hx hb dX11_spelt_49 (by decide) ?_
  refine lv_ladd hx hb dX11_spelt_50 ?_
  refine as_l 458900 (by decide) ?_
  refine lv_ldc2 hx hb hown (hts _ t1611) dX11_spelt_51 ?_
  refine lv_lsub hx hb dX11_spelt_54 ?_
  refine as_l 458804 (by decide) ?_
  refine lv_lstore (lv' := [(7, .long 458804), (0, .int 119), (1, .int 104), (2, .int 105), (3, .int 116), (4, .int 101), (5, .int 0), (6, .int 0)]) hx hb dX11_spelt_55 hl (by decide) rfl (fun ls hl => ?_)
  refine lv_iload hx hb dX11_spelt_57 (lv_at hl 5 rfl) ?_
  refine lv_if_le (tgt := 78) hx hb dX11_spelt_59 (by decide) (fun c9 => absurd c9 (by decide)) (fun _ => ?_)
  refine lv_ldc2 hx hb hown (hts _ t1610) dX11_spelt_62 ?_
  refine lv_lload hx hb dX11_spelt_65 (lv_at hl 0 rfl) ?_
  refine lv_lmul hx hb dX11_spelt_67 ?_
  refine as_l 12387708 (by decide) ?_
  refine lv_iload hx hb dX11_spelt_68 (lv_at hl 5 rfl) ?_
  refine lv_i2l (v := 101) hx hb dX11_spelt_70 (by decide) ?_
  refine lv_ladd hx hb dX11_spelt_71 ?_
  refine as_l 12387809 (by decide) ?_
  refine lv_ldc2 hx hb hown (hts _ t1611) dX11_spelt_72 ?_
  refine lv_lsub hx hb dX11_spelt_75 ?_
  refine as_l 12387713 (by decide) ?_
  refine lv_lstore (lv' := [(7, .long 12387713), (0, .int 119), (1, .int 104), (2, .int 105), (3, .int 116), (4, .int 101), (5, .int 0), (6, .int 0)]) hx hb dX11_spelt_76 hl (by decide) rfl (fun ls hl => ?_)
  refine lv_iload hx hb dX11_spelt_78 (lv_at hl 6 rfl) ?_
  refine lv_if_le (tgt := 99) hx hb dX11_spelt_80 (by decide) (fun _ => ?_) (fun c9 => absurd (by decide) c9)
  refine lv_iload hx hb dX11_spelt_99 (lv_at hl 7 rfl) ?_
  refine lv_if_le (tgt := 120) hx hb dX11_spelt_101 (by decide) (fun _ => ?_) (fun c9 => absurd (by decide) c9)
  refine lv_lload hx hb dX11_spelt_120 (lv_at hl 0 rfl) ?_
  rw [hQ9]
  exact rr_l hx hb hr hlocks (show ((12387713 : Int64) : Int64).toInt = 12387713 from (by decide)) hS dX11_spelt_122
set_option maxHeartbeats 4000000 in
set_option maxRecDepth 100000 in
theorem s_spelt_dark (l : Launch) (dC : Nat → ClassId) (dI : Nat → Nat → Nat) (cy : Nat → ClassId)   : Met l yX11_spelt (wl yX11_spelt cX11_spelt 9 (some .long)) ({ frames := 0, cells := 0, slots := 0, locals := 0 }) (Pr (dC, dI) vwCl cy [] [.int 100, .int 97, .int 114, .int 107, .int 0, .int 0, .int 0]) (Rl (fun r => ((r : Int64).toInt = 79958))) 0 0 (fun _ => False) := by
  refine mr RX11 rfl (by decide +kernel) (Nat.le_of_ble_eq_true rfl) ?_
  intro p e s m below meth c hx hb hr hlocks av9 hav hts hown hml hK hP hS Q9 hQ9 ls hl
  have hl : lv_has ls 9 [(0, .int 100), (1, .int 97), (2, .int 114), (3, .int 107), (4, .int 0), (5, .int 0), (6, .int 0)] := hl
  refine lv_ldc2 hx hb hown (hts _ t1610) dX11_spelt_0 ?_
  refine lv_iload_n hx hb dX11_spelt_3 rfl (lv_at hl 0 rfl) ?_
  refine lv_i2l (v := 100) hx hb dX11_spelt_4 (by decide) ?_
  refine lv_ldc2 hx hb hown (hts _ t1611) dX11_spelt_5 ?_
  refine lv_lsub hx hb dX11_spelt_8 ?_
  refine as_l 4 (by decide) ?_
  refine lv_lmul hx hb dX11_spelt_9 ?_
  refine as_l 108 (by decide) ?_
  refine lv_iload_n hx hb dX11_spelt_10 rfl (lv_at hl 1 rfl) ?_
  refine lv_i2l (v := 97) hx hb dX11_spelt_11 (by decide) ?_
  refine lv_ladd hx hb dX11_spelt_12 ?_
  refine as_l 205 (by decide) ?_
  refine lv_ldc2 hx hb hown (hts _ t1611) dX11_spelt_13 ?_
  refine lv_lsub hx hb dX11_spelt_16 ?_
  refine as_l 109 (by decide) ?_
  refine lv_lstore (lv' := [(7, .long 109), (0, .int 100), (1, .int 97), (2, .int 114), (3, .int 107), (4, .int 0), (5, .int 0), (6, .int 0)]) hx hb dX11_spelt_17 hl (by decide) rfl (fun ls hl => ?_)
  refine lv_iload_n hx hb dX11_spelt_19 rfl (lv_at hl 3 rfl) ?_
  refine lv_if_le (tgt := 38) hx hb dX11_spelt_20 (by decide) (fun c9 => absurd c9 (by decide)) (fun _ => ?_)
  refine lv_ldc2 hx hb hown (hts _ t1610) dX11_spelt_23 ?_
  refine lv_lload hx hb dX11_spelt_26 (lv_at hl 0 rfl) ?_
  refine lv_lmul hx hb dX11_spelt_28 ?_
  refine as_l 2943 (by decide) ?_
  refine lv_iload_n hx hb dX11_spelt_29 rfl (lv_at hl 3 rfl) ?_
  refine lv_i2l (v := 114) hx hb dX11_spelt_30 (by decide) ?_
  refine lv_ladd hx hb dX11_spelt_31 ?_
  refine as_l 3057 (by decide) ?_
  refine lv_ldc2 hx hb hown (hts _ t1611) dX11_spelt_32 ?_
  refine lv_lsub hx hb dX11_spelt_35 ?_
  refine as_l 2961 (by decide) ?_
  refine lv_lstore (lv' := [(7, .long 2961), (0, .int 100), (1, .int 97), (2, .int 114), (3, .int 107), (4, .int 0), (5, .int 0), (6, .int 0)]) hx hb dX11_spelt_36 hl (by decide) rfl (fun ls hl => ?_)
  refine lv_iload_n hx hb dX11_spelt_38 rfl (lv_at hl 4 rfl) ?_
  refine lv_if_le (tgt := 57) hx hb dX11_spelt_39 (by decide) (fun c9 => absurd c9 (by decide)) (fun _ => ?_)
  refine lv_ldc2 hx hb hown (hts _ t1610) dX11_spelt_42 ?_
  refine lv_lload hx hb dX11_spelt_45 (lv_at hl 0 rfl) ?_
  refine lv_lmul hx hb dX11_spelt_47 ?_
  refine as_l 79947 (by decide) ?_
  refine lv_iload_n hx hb dX11_spelt_48 rfl (lv_at hl 4 rfl) ?_
  refine lv_i2l (v := 107) hx hb dX11_spelt_49 (by decide) ?_
  refine lv_ladd hx hb dX11_spelt_50 ?_
  refine as_l 80054 (by decide) ?_
  refine lv_ldc2 hx hb hown (hts _ t1611) dX11_spelt_51 ?_
  refine lv_lsub hx hb dX11_spelt_54 ?_
  refine as_l 79958 (by decide) ?_
  refine lv_lstore (lv' := [(7, .long 79958), (0, .int 100), (1, .int 97), (2, .int 114), (3, .int 107), (4, .int 0), (5, .int 0), (6, .int 0)]) hx hb dX11_spelt_55 hl (by decide) rfl (fun ls hl => ?_)
  refine lv_iload hx hb dX11_spelt_57 (lv_at hl 5 rfl) ?_
  refine lv_if_le (tgt := 78) hx hb dX11_spelt_59 (by decide) (fun _ => ?_) (fun c9 => absurd (by decide) c9)
  refine lv_iload hx hb dX11_spelt_78 (lv_at hl 6 rfl) ?_
  refine lv_if_le (tgt := 99) hx hb dX11_spelt_80 (by decide) (fun _ => ?_) (fun c9 => absurd (by decide) c9)
  refine lv_iload hx hb dX11_spelt_99 (lv_at hl 7 rfl) ?_
  refine lv_if_le (tgt := 120) hx hb dX11_spelt_101 (by decide) (fun _ => ?_) (fun c9 => absurd (by decide) c9)
  refine lv_lload hx hb dX11_spelt_120 (lv_at hl 0 rfl) ?_
  rw [hQ9]
  exact rr_l hx hb hr hlocks (show ((79958 : Int64) : Int64).toInt = 79958 from (by decide)) hS dX11_spelt_122
set_option maxHeartbeats 4000000 in
set_option maxRecDepth 100000 in
theorem s_spelt_age (l : Launch) (dC : Nat → ClassId) (dI : Nat → Nat → Nat) (cy : Nat → ClassId)   : Met l yX11_spelt (wl yX11_spelt cX11_spelt 9 (some .long)) ({ frames := 0, cells := 0, slots := 0, locals := 0 }) (Pr (dC, dI) vwCl cy [] [.int 97, .int 103, .int 101, .int 0, .int 0, .int 0, .int 0]) (Rl (fun r => ((r : Int64).toInt = 923))) 0 0 (fun _ => False) := by
  refine mr RX11 rfl (by decide +kernel) (Nat.le_of_ble_eq_true rfl) ?_
  intro p e s m below meth c hx hb hr hlocks av9 hav hts hown hml hK hP hS Q9 hQ9 ls hl
  have hl : lv_has ls 9 [(0, .int 97), (1, .int 103), (2, .int 101), (3, .int 0), (4, .int 0), (5, .int 0), (6, .int 0)] := hl
  refine lv_ldc2 hx hb hown (hts _ t1610) dX11_spelt_0 ?_
  refine lv_iload_n hx hb dX11_spelt_3 rfl (lv_at hl 0 rfl) ?_
  refine lv_i2l (v := 97) hx hb dX11_spelt_4 (by decide) ?_
  refine lv_ldc2 hx hb hown (hts _ t1611) dX11_spelt_5 ?_
  refine lv_lsub hx hb dX11_spelt_8 ?_
  refine as_l 1 (by decide) ?_
  refine lv_lmul hx hb dX11_spelt_9 ?_
  refine as_l 27 (by decide) ?_
  refine lv_iload_n hx hb dX11_spelt_10 rfl (lv_at hl 1 rfl) ?_
  refine lv_i2l (v := 103) hx hb dX11_spelt_11 (by decide) ?_
  refine lv_ladd hx hb dX11_spelt_12 ?_
  refine as_l 130 (by decide) ?_
  refine lv_ldc2 hx hb hown (hts _ t1611) dX11_spelt_13 ?_
  refine lv_lsub hx hb dX11_spelt_16 ?_
  refine as_l 34 (by decide) ?_
  refine lv_lstore (lv' := [(7, .long 34), (0, .int 97), (1, .int 103), (2, .int 101), (3, .int 0), (4, .int 0), (5, .int 0), (6, .int 0)]) hx hb dX11_spelt_17 hl (by decide) rfl (fun ls hl => ?_)
  refine lv_iload_n hx hb dX11_spelt_19 rfl (lv_at hl 3 rfl) ?_
  refine lv_if_le (tgt := 38) hx hb dX11_spelt_20 (by decide) (fun c9 => absurd c9 (by decide)) (fun _ => ?_)
  refine lv_ldc2 hx hb hown (hts _ t1610) dX11_spelt_23 ?_
  refine lv_lload hx hb dX11_spelt_26 (lv_at hl 0 rfl) ?_
  refine lv_lmul hx hb dX11_spelt_28 ?_
  refine as_l 918 (by decide) ?_
  refine lv_iload_n hx hb dX11_spelt_29 rfl (lv_at hl 3 rfl) ?_
  refine lv_i2l (v := 101) hx hb dX11_spelt_30 (by decide) ?_
  refine lv_ladd hx hb dX11_spelt_31 ?_
  refine as_l 1019 (by decide) ?_
  refine lv_ldc2 hx hb hown (hts _ t1611) dX11_spelt_32 ?_
  refine lv_lsub hx hb dX11_spelt_35 ?_
  refine as_l 923 (by decide) ?_
  refine lv_lstore (lv' := [(7, .long 923), (0, .int 97), (1, .int 103), (2, .int 101), (3, .int 0), (4, .int 0), (5, .int 0), (6, .int 0)]) hx hb dX11_spelt_36 hl (by decide) rfl (fun ls hl => ?_)
  refine lv_iload_n hx hb dX11_spelt_38 rfl (lv_at hl 4 rfl) ?_
  refine lv_if_le (tgt := 57) hx hb dX11_spelt_39 (by decide) (fun _ => ?_) (fun c9 => absurd (by decide) c9)
  refine lv_iload hx hb dX11_spelt_57 (lv_at hl 5 rfl) ?_
  refine lv_if_le (tgt := 78) hx hb dX11_spelt_59 (by decide) (fun _ => ?_) (fun c9 => absurd (by decide) c9)
  refine lv_iload hx hb dX11_spelt_78 (lv_at hl 6 rfl) ?_
  refine lv_if_le (tgt := 99) hx hb dX11_spelt_80 (by decide) (fun _ => ?_) (fun c9 => absurd (by decide) c9)
  refine lv_iload hx hb dX11_spelt_99 (lv_at hl 7 rfl) ?_
  refine lv_if_le (tgt := 120) hx hb dX11_spelt_101 (by decide) (fun _ => ?_) (fun c9 => absurd (by decide) c9)
  refine lv_lload hx hb dX11_spelt_120 (lv_at hl 0 rfl) ?_
  rw [hQ9]
  exact rr_l hx hb hr hlocks (show ((923 : Int64) : Int64).toInt = 923 from (by decide)) hS dX11_spelt_122
set_option maxHeartbeats 4000000 in
set_option maxRecDepth 100000 in
theorem s_spelt_number (l : Launch) (dC : Nat → ClassId) (dI : Nat → Nat → Nat) (cy : Nat → ClassId)   : Met l yX11_spelt (wl yX11_spelt cX11_spelt 9 (some .long)) ({ frames := 0, cells := 0, slots := 0, locals := 0 }) (Pr (dC, dI) vwCl cy [] [.int 110, .int 117, .int 109, .int 98, .int 101, .int 114, .int 0]) (Rl (fun r => ((r : Int64).toInt = 212302449))) 0 0 (fun _ => False) := by
  refine mr RX11 rfl (by decide +kernel) (Nat.le_of_ble_eq_true rfl) ?_
  intro p e s m below meth c hx hb hr hlocks av9 hav hts hown hml hK hP hS Q9 hQ9 ls hl
  have hl : lv_has ls 9 [(0, .int 110), (1, .int 117), (2, .int 109), (3, .int 98), (4, .int 101), (5, .int 114), (6, .int 0)] := hl
  refine lv_ldc2 hx hb hown (hts _ t1610) dX11_spelt_0 ?_
  refine lv_iload_n hx hb dX11_spelt_3 rfl (lv_at hl 0 rfl) ?_
  refine lv_i2l (v := 110) hx hb dX11_spelt_4 (by decide) ?_
  refine lv_ldc2 hx hb hown (hts _ t1611) dX11_spelt_5 ?_
  refine lv_lsub hx hb dX11_spelt_8 ?_
  refine as_l 14 (by decide) ?_
  refine lv_lmul hx hb dX11_spelt_9 ?_
  refine as_l 378 (by decide) ?_
  refine lv_iload_n hx hb dX11_spelt_10 rfl (lv_at hl 1 rfl) ?_
  refine lv_i2l (v := 117) hx hb dX11_spelt_11 (by decide) ?_
  refine lv_ladd hx hb dX11_spelt_12 ?_
  refine as_l 495 (by decide) ?_
  refine lv_ldc2 hx hb hown (hts _ t1611) dX11_spelt_13 ?_
  refine lv_lsub hx hb dX11_spelt_16 ?_
  refine as_l 399 (by decide) ?_
  refine lv_lstore (lv' := [(7, .long 399), (0, .int 110), (1, .int 117), (2, .int 109), (3, .int 98), (4, .int 101), (5, .int 114), (6, .int 0)]) hx hb dX11_spelt_17 hl (by decide) rfl (fun ls hl => ?_)
  refine lv_iload_n hx hb dX11_spelt_19 rfl (lv_at hl 3 rfl) ?_
  refine lv_if_le (tgt := 38) hx hb dX11_spelt_20 (by decide) (fun c9 => absurd c9 (by decide)) (fun _ => ?_)
  refine lv_ldc2 hx hb hown (hts _ t1610) dX11_spelt_23 ?_
  refine lv_lload hx hb dX11_spelt_26 (lv_at hl 0 rfl) ?_
  refine lv_lmul hx hb dX11_spelt_28 ?_
  refine as_l 10773 (by decide) ?_
  refine lv_iload_n hx hb dX11_spelt_29 rfl (lv_at hl 3 rfl) ?_
  refine lv_i2l (v := 109) hx hb dX11_spelt_30 (by decide) ?_
  refine lv_ladd hx hb dX11_spelt_31 ?_
  refine as_l 10882 (by decide) ?_
  refine lv_ldc2 hx hb hown (hts _ t1611) dX11_spelt_32 ?_
  refine lv_lsub hx hb dX11_spelt_35 ?_
  refine as_l 10786 (by decide) ?_
  refine lv_lstore (lv' := [(7, .long 10786), (0, .int 110), (1, .int 117), (2, .int 109), (3, .int 98), (4, .int 101), (5, .int 114), (6, .int 0)]) hx hb dX11_spelt_36 hl (by decide) rfl (fun ls hl => ?_)
  refine lv_iload_n hx hb dX11_spelt_38 rfl (lv_at hl 4 rfl) ?_
  refine lv_if_le (tgt := 57) hx hb dX11_spelt_39 (by decide) (fun c9 => absurd c9 (by decide)) (fun _ => ?_)
  refine lv_ldc2 hx hb hown (hts _ t1610) dX11_spelt_42 ?_
  refine lv_lload hx hb dX11_spelt_45 (lv_at hl 0 rfl) ?_
  refine lv_lmul hx hb dX11_spelt_47 ?_
  refine as_l 291222 (by decide) ?_
  refine lv_iload_n hx hb dX11_spelt_48 rfl (lv_at hl 4 rfl) ?_
  refine lv_i2l (v := 98) hx hb dX11_spelt_49 (by decide) ?_
  refine lv_ladd hx hb dX11_spelt_50 ?_
  refine as_l 291320 (by decide) ?_
  refine lv_ldc2 hx hb hown (hts _ t1611) dX11_spelt_51 ?_
  refine lv_lsub hx hb dX11_spelt_54 ?_
  refine as_l 291224 (by decide) ?_
  refine lv_lstore (lv' := [(7, .long 291224), (0, .int 110), (1, .int 117), (2, .int 109), (3, .int 98), (4, .int 101), (5, .int 114), (6, .int 0)]) hx hb dX11_spelt_55 hl (by decide) rfl (fun ls hl => ?_)
  refine lv_iload hx hb dX11_spelt_57 (lv_at hl 5 rfl) ?_
  refine lv_if_le (tgt := 78) hx hb dX11_spelt_59 (by decide) (fun c9 => absurd c9 (by decide)) (fun _ => ?_)
  refine lv_ldc2 hx hb hown (hts _ t1610) dX11_spelt_62 ?_
  refine lv_lload hx hb dX11_spelt_65 (lv_at hl 0 rfl) ?_
  refine lv_lmul hx hb dX11_spelt_67 ?_
  refine as_l 7863048 (by decide) ?_
  refine lv_iload hx hb dX11_spelt_68 (lv_at hl 5 rfl) ?_
  refine lv_i2l (v := 101) hx hb dX11_spelt_70 (by decide) ?_
  refine lv_ladd hx hb dX11_spelt_71 ?_
  refine as_l 7863149 (by decide) ?_
  refine lv_ldc2 hx hb hown (hts _ t1611) dX11_spelt_72 ?_
  refine lv_lsub hx hb dX11_spelt_75 ?_
  refine as_l 7863053 (by decide) ?_
  refine lv_lstore (lv' := [(7, .long 7863053), (0, .int 110), (1, .int 117), (2, .int 109), (3, .int 98), (4, .int 101), (5, .int 114), (6, .int 0)]) hx hb dX11_spelt_76 hl (by decide) rfl (fun ls hl => ?_)
  refine lv_iload hx hb dX11_spelt_78 (lv_at hl 6 rfl) ?_
  refine lv_if_le (tgt := 99) hx hb dX11_spelt_80 (by decide) (fun c9 => absurd c9 (by decide)) (fun _ => ?_)
  refine lv_ldc2 hx hb hown (hts _ t1610) dX11_spelt_83 ?_
  refine lv_lload hx hb dX11_spelt_86 (lv_at hl 0 rfl) ?_
  refine lv_lmul hx hb dX11_spelt_88 ?_
  refine as_l 212302431 (by decide) ?_
  refine lv_iload hx hb dX11_spelt_89 (lv_at hl 6 rfl) ?_
  refine lv_i2l (v := 114) hx hb dX11_spelt_91 (by decide) ?_
  refine lv_ladd hx hb dX11_spelt_92 ?_
  refine as_l 212302545 (by decide) ?_
  refine lv_ldc2 hx hb hown (hts _ t1611) dX11_spelt_93 ?_
  refine lv_lsub hx hb dX11_spelt_96 ?_
  refine as_l 212302449 (by decide) ?_
  refine lv_lstore (lv' := [(7, .long 212302449), (0, .int 110), (1, .int 117), (2, .int 109), (3, .int 98), (4, .int 101), (5, .int 114), (6, .int 0)]) hx hb dX11_spelt_97 hl (by decide) rfl (fun ls hl => ?_)
  refine lv_iload hx hb dX11_spelt_99 (lv_at hl 7 rfl) ?_
  refine lv_if_le (tgt := 120) hx hb dX11_spelt_101 (by decide) (fun _ => ?_) (fun c9 => absurd (by decide) c9)
  refine lv_lload hx hb dX11_spelt_120 (lv_at hl 0 rfl) ?_
  rw [hQ9]
  exact rr_l hx hb hr hlocks (show ((212302449 : Int64) : Int64).toInt = 212302449 from (by decide)) hS dX11_spelt_122
set_option maxHeartbeats 4000000 in
set_option maxRecDepth 100000 in
theorem s_wordOf (l : Launch) (dC : Nat → ClassId) (dI : Nat → Nat → Nat) (cy : Nat → ClassId) (vk : Int32) (r_vk : 0 ≤ (vk : Int32).toInt ∧ (vk : Int32).toInt ≤ 28) : Met l yX11_wordOf (wl yX11_wordOf cX11_wordOf 1 (some .long)) ({ frames := 1, cells := 0, slots := 0, locals := 64 }) (Pr (dC, dI) vwCl cy [] [.int vk]) (Rl (fun r => ((r : Int64).toInt = tkMM (vk : Int32).toInt))) 0 0 (fun _ => False) := by
  refine mr RX11 rfl (by decide +kernel) (Nat.le_of_ble_eq_true rfl) ?_
  intro p e s m below meth c hx hb hr hlocks av9 hav hts hown hml hK hP hS Q9 hQ9 ls hl
  have hl : lv_has ls 1 [(0, .int vk)] := hl
  refine lv_iload_n hx hb dX11_wordOf_0 rfl (lv_at hl 0 rfl) ?_
  have k_0 : (0 : Int32).toInt = 0 := by decide
  have k_1 : (1 : Int32).toInt = 1 := by decide
  have k_2 : (2 : Int32).toInt = 2 := by decide
  have k_3 : (3 : Int32).toInt = 3 := by decide
  have k_4 : (4 : Int32).toInt = 4 := by decide
  have k_5 : (5 : Int32).toInt = 5 := by decide
  have k_6 : (6 : Int32).toInt = 6 := by decide
  have k_7 : (7 : Int32).toInt = 7 := by decide
  have k_8 : (8 : Int32).toInt = 8 := by decide
  have k_9 : (9 : Int32).toInt = 9 := by decide
  have k_10 : (10 : Int32).toInt = 10 := by decide
  have k_11 : (11 : Int32).toInt = 11 := by decide
  have k_12 : (12 : Int32).toInt = 12 := by decide
  have k_13 : (13 : Int32).toInt = 13 := by decide
  have k_14 : (14 : Int32).toInt = 14 := by decide
  have k_15 : (15 : Int32).toInt = 15 := by decide
  have k_16 : (16 : Int32).toInt = 16 := by decide
  have k_17 : (17 : Int32).toInt = 17 := by decide
  have k_18 : (18 : Int32).toInt = 18 := by decide
  have k_19 : (19 : Int32).toInt = 19 := by decide
  have k_20 : (20 : Int32).toInt = 20 := by decide
  have k_21 : (21 : Int32).toInt = 21 := by decide
  have k_22 : (22 : Int32).toInt = 22 := by decide
  have k_23 : (23 : Int32).toInt = 23 := by decide
  have k_24 : (24 : Int32).toInt = 24 := by decide
  have k_25 : (25 : Int32).toInt = 25 := by decide
  have k_26 : (26 : Int32).toInt = 26 := by decide
  have k_27 : (27 : Int32).toInt = 27 := by decide
  by_cases sw_1_0 : vk.toInt = 0
  · refine as_i 0 (i_eq.mpr (sw_1_0.trans k_0.symm)) ?_
    refine lv_tableIn (off := 127) (tgt := 128) hx hb dX11_wordOf_1 (by decide) (by decide) (by decide) (by decide) ?_
    refine lv_bipush (v := 109) hx hb dX11_wordOf_128 (by decide) ?_
    refine lv_bipush (v := 97) hx hb dX11_wordOf_130 (by decide) ?_
    refine lv_bipush (v := 110) hx hb dX11_wordOf_132 (by decide) ?_
    refine lv_iconst (v := 0) hx hb dX11_wordOf_134 (by decide) ?_
    refine lv_iconst (v := 0) hx hb dX11_wordOf_135 (by decide) ?_
    refine lv_iconst (v := 0) hx hb dX11_wordOf_136 (by decide) ?_
    refine lv_iconst (v := 0) hx hb dX11_wordOf_137 (by decide) ?_
    refine jr_l (rSr (As := [.int 109, .int 97, .int 110, .int 0, .int 0, .int 0, .int 0]) (rest := []) ⟨hx, hb, hml, hown, hts⟩ (s_spelt_man l dC dI cy  ) (cw_X11_58 hts rfl rfl ⟨Nat.le_of_ble_eq_true rfl, Nat.le_of_ble_eq_true rfl⟩) hP hK [] rfl rfl hl.1 rfl (Nat.le_of_ble_eq_true rfl) dX11_wordOf_138 ⟨Nat.le_of_ble_eq_true rfl, Nat.le_of_ble_eq_true rfl⟩) hP hS (fun r_2 H locs hp_3 hP hS => ?_)
    have hp_3 : ((r_2 : Int64).toInt = 9518) := hp_3
    have q_4 := hp_3
    rw [hQ9]
    exact rr_l hx hb hr hlocks (show (r_2 : Int64).toInt = tkMM (vk : Int32).toInt from (by rw [show (vk : Int32).toInt = 0 by omega]; exact q_4)) hS dX11_wordOf_141
  by_cases sw_1_1 : vk.toInt = 1
  · refine as_i 1 (i_eq.mpr (sw_1_1.trans k_1.symm)) ?_
    refine lv_tableIn (off := 141) (tgt := 142) hx hb dX11_wordOf_1 (by decide) (by decide) (by decide) (by decide) ?_
    refine lv_bipush (v := 100) hx hb dX11_wordOf_142 (by decide) ?_
    refine lv_bipush (v := 101) hx hb dX11_wordOf_144 (by decide) ?_
    refine lv_bipush (v := 101) hx hb dX11_wordOf_146 (by decide) ?_
    refine lv_bipush (v := 100) hx hb dX11_wordOf_148 (by decide) ?_
    refine lv_iconst (v := 0) hx hb dX11_wordOf_150 (by decide) ?_
    refine lv_iconst (v := 0) hx hb dX11_wordOf_151 (by decide) ?_
    refine lv_iconst (v := 0) hx hb dX11_wordOf_152 (by decide) ?_
    refine jr_l (rSr (As := [.int 100, .int 101, .int 101, .int 100, .int 0, .int 0, .int 0]) (rest := []) ⟨hx, hb, hml, hown, hts⟩ (s_spelt_deed l dC dI cy  ) (cw_X11_58 hts rfl rfl ⟨Nat.le_of_ble_eq_true rfl, Nat.le_of_ble_eq_true rfl⟩) hP hK [] rfl rfl hl.1 rfl (Nat.le_of_ble_eq_true rfl) dX11_wordOf_153 ⟨Nat.le_of_ble_eq_true rfl, Nat.le_of_ble_eq_true rfl⟩) hP hS (fun r_5 H locs hp_6 hP hS => ?_)
    have hp_6 : ((r_5 : Int64).toInt = 82516) := hp_6
    have q_7 := hp_6
    rw [hQ9]
    exact rr_l hx hb hr hlocks (show (r_5 : Int64).toInt = tkMM (vk : Int32).toInt from (by rw [show (vk : Int32).toInt = 1 by omega]; exact q_7)) hS dX11_wordOf_156
  by_cases sw_1_2 : vk.toInt = 2
  · refine as_i 2 (i_eq.mpr (sw_1_2.trans k_2.symm)) ?_
    refine lv_tableIn (off := 156) (tgt := 157) hx hb dX11_wordOf_1 (by decide) (by decide) (by decide) (by decide) ?_
    refine lv_bipush (v := 103) hx hb dX11_wordOf_157 (by decide) ?_
    refine lv_bipush (v := 111) hx hb dX11_wordOf_159 (by decide) ?_
    refine lv_bipush (v := 111) hx hb dX11_wordOf_161 (by decide) ?_
    refine lv_bipush (v := 100) hx hb dX11_wordOf_163 (by decide) ?_
    refine lv_iconst (v := 0) hx hb dX11_wordOf_165 (by decide) ?_
    refine lv_iconst (v := 0) hx hb dX11_wordOf_166 (by decide) ?_
    refine lv_iconst (v := 0) hx hb dX11_wordOf_167 (by decide) ?_
    refine jr_l (rSr (As := [.int 103, .int 111, .int 111, .int 100, .int 0, .int 0, .int 0]) (rest := []) ⟨hx, hb, hml, hown, hts⟩ (s_spelt_good l dC dI cy  ) (cw_X11_58 hts rfl rfl ⟨Nat.le_of_ble_eq_true rfl, Nat.le_of_ble_eq_true rfl⟩) hP hK [] rfl rfl hl.1 rfl (Nat.le_of_ble_eq_true rfl) dX11_wordOf_168 ⟨Nat.le_of_ble_eq_true rfl, Nat.le_of_ble_eq_true rfl⟩) hP hS (fun r_8 H locs hp_9 hP hS => ?_)
    have hp_9 : ((r_8 : Int64).toInt = 149125) := hp_9
    have q_10 := hp_9
    rw [hQ9]
    exact rr_l hx hb hr hlocks (show (r_8 : Int64).toInt = tkMM (vk : Int32).toInt from (by rw [show (vk : Int32).toInt = 2 by omega]; exact q_10)) hS dX11_wordOf_171
  by_cases sw_1_3 : vk.toInt = 3
  · refine as_i 3 (i_eq.mpr (sw_1_3.trans k_3.symm)) ?_
    refine lv_tableIn (off := 171) (tgt := 172) hx hb dX11_wordOf_1 (by decide) (by decide) (by decide) (by decide) ?_
    refine lv_bipush (v := 99) hx hb dX11_wordOf_172 (by decide) ?_
    refine lv_bipush (v := 114) hx hb dX11_wordOf_174 (by decide) ?_
    refine lv_bipush (v := 105) hx hb dX11_wordOf_176 (by decide) ?_
    refine lv_bipush (v := 109) hx hb dX11_wordOf_178 (by decide) ?_
    refine lv_bipush (v := 101) hx hb dX11_wordOf_180 (by decide) ?_
    refine lv_iconst (v := 0) hx hb dX11_wordOf_182 (by decide) ?_
    refine lv_iconst (v := 0) hx hb dX11_wordOf_183 (by decide) ?_
    refine jr_l (rSr (As := [.int 99, .int 114, .int 105, .int 109, .int 101, .int 0, .int 0]) (rest := []) ⟨hx, hb, hml, hown, hts⟩ (s_spelt_crime l dC dI cy  ) (cw_X11_58 hts rfl rfl ⟨Nat.le_of_ble_eq_true rfl, Nat.le_of_ble_eq_true rfl⟩) hP hK [] rfl rfl hl.1 rfl (Nat.le_of_ble_eq_true rfl) dX11_wordOf_184 ⟨Nat.le_of_ble_eq_true rfl, Nat.le_of_ble_eq_true rfl⟩) hP hS (fun r_11 H locs hp_12 hP hS => ?_)
    have hp_12 : ((r_11 : Int64).toInt = 1955534) := hp_12
    have q_13 := hp_12
    rw [hQ9]
    exact rr_l hx hb hr hlocks (show (r_11 : Int64).toInt = tkMM (vk : Int32).toInt from (by rw [show (vk : Int32).toInt = 3 by omega]; exact q_13)) hS dX11_wordOf_187
  by_cases sw_1_4 : vk.toInt = 4
  · refine as_i 4 (i_eq.mpr (sw_1_4.trans k_4.symm)) ?_
    refine lv_tableIn (off := 187) (tgt := 188) hx hb dX11_wordOf_1 (by decide) (by decide) (by decide) (by decide) ?_
    refine lv_bipush (v := 100) hx hb dX11_wordOf_188 (by decide) ?_
    refine lv_bipush (v := 105) hx hb dX11_wordOf_190 (by decide) ?_
    refine lv_bipush (v := 100) hx hb dX11_wordOf_192 (by decide) ?_
    refine lv_iconst (v := 0) hx hb dX11_wordOf_194 (by decide) ?_
    refine lv_iconst (v := 0) hx hb dX11_wordOf_195 (by decide) ?_
    refine lv_iconst (v := 0) hx hb dX11_wordOf_196 (by decide) ?_
    refine lv_iconst (v := 0) hx hb dX11_wordOf_197 (by decide) ?_
    refine jr_l (rSr (As := [.int 100, .int 105, .int 100, .int 0, .int 0, .int 0, .int 0]) (rest := []) ⟨hx, hb, hml, hown, hts⟩ (s_spelt_did l dC dI cy  ) (cw_X11_58 hts rfl rfl ⟨Nat.le_of_ble_eq_true rfl, Nat.le_of_ble_eq_true rfl⟩) hP hK [] rfl rfl hl.1 rfl (Nat.le_of_ble_eq_true rfl) dX11_wordOf_198 ⟨Nat.le_of_ble_eq_true rfl, Nat.le_of_ble_eq_true rfl⟩) hP hS (fun r_14 H locs hp_15 hP hS => ?_)
    have hp_15 : ((r_14 : Int64).toInt = 3163) := hp_15
    have q_16 := hp_15
    rw [hQ9]
    exact rr_l hx hb hr hlocks (show (r_14 : Int64).toInt = tkMM (vk : Int32).toInt from (by rw [show (vk : Int32).toInt = 4 by omega]; exact q_16)) hS dX11_wordOf_201
  by_cases sw_1_5 : vk.toInt = 5
  · refine as_i 5 (i_eq.mpr (sw_1_5.trans k_5.symm)) ?_
    refine lv_tableIn (off := 201) (tgt := 202) hx hb dX11_wordOf_1 (by decide) (by decide) (by decide) (by decide) ?_
    refine lv_bipush (v := 107) hx hb dX11_wordOf_202 (by decide) ?_
    refine lv_bipush (v := 105) hx hb dX11_wordOf_204 (by decide) ?_
    refine lv_bipush (v := 110) hx hb dX11_wordOf_206 (by decide) ?_
    refine lv_iconst (v := 0) hx hb dX11_wordOf_208 (by decide) ?_
    refine lv_iconst (v := 0) hx hb dX11_wordOf_209 (by decide) ?_
    refine lv_iconst (v := 0) hx hb dX11_wordOf_210 (by decide) ?_
    refine lv_iconst (v := 0) hx hb dX11_wordOf_211 (by decide) ?_
    refine jr_l (rSr (As := [.int 107, .int 105, .int 110, .int 0, .int 0, .int 0, .int 0]) (rest := []) ⟨hx, hb, hml, hown, hts⟩ (s_spelt_kin l dC dI cy  ) (cw_X11_58 hts rfl rfl ⟨Nat.le_of_ble_eq_true rfl, Nat.le_of_ble_eq_true rfl⟩) hP hK [] rfl rfl hl.1 rfl (Nat.le_of_ble_eq_true rfl) dX11_wordOf_212 ⟨Nat.le_of_ble_eq_true rfl, Nat.le_of_ble_eq_true rfl⟩) hP hS (fun r_17 H locs hp_18 hP hS => ?_)
    have hp_18 : ((r_17 : Int64).toInt = 8276) := hp_18
    have q_19 := hp_18
    rw [hQ9]
    exact rr_l hx hb hr hlocks (show (r_17 : Int64).toInt = tkMM (vk : Int32).toInt from (by rw [show (vk : Int32).toInt = 5 by omega]; exact q_19)) hS dX11_wordOf_215
  by_cases sw_1_6 : vk.toInt = 6
  · refine as_i 6 (i_eq.mpr (sw_1_6.trans k_6.symm)) ?_
    refine lv_tableIn (off := 215) (tgt := 216) hx hb dX11_wordOf_1 (by decide) (by decide) (by decide) (by decide) ?_
    refine lv_bipush (v := 111) hx hb dX11_wordOf_216 (by decide) ?_
    refine lv_bipush (v := 119) hx hb dX11_wordOf_218 (by decide) ?_
    refine lv_bipush (v := 101) hx hb dX11_wordOf_220 (by decide) ?_
    refine lv_bipush (v := 115) hx hb dX11_wordOf_222 (by decide) ?_
    refine lv_iconst (v := 0) hx hb dX11_wordOf_224 (by decide) ?_
    refine lv_iconst (v := 0) hx hb dX11_wordOf_225 (by decide) ?_
    refine lv_iconst (v := 0) hx hb dX11_wordOf_226 (by decide) ?_
    refine jr_l (rSr (As := [.int 111, .int 119, .int 101, .int 115, .int 0, .int 0, .int 0]) (rest := []) ⟨hx, hb, hml, hown, hts⟩ (s_spelt_owes l dC dI cy  ) (cw_X11_58 hts rfl rfl ⟨Nat.le_of_ble_eq_true rfl, Nat.le_of_ble_eq_true rfl⟩) hP hK [] rfl rfl hl.1 rfl (Nat.le_of_ble_eq_true rfl) dX11_wordOf_227 ⟨Nat.le_of_ble_eq_true rfl, Nat.le_of_ble_eq_true rfl⟩) hP hS (fun r_20 H locs hp_21 hP hS => ?_)
    have hp_21 : ((r_20 : Int64).toInt = 312166) := hp_21
    have q_22 := hp_21
    rw [hQ9]
    exact rr_l hx hb hr hlocks (show (r_20 : Int64).toInt = tkMM (vk : Int32).toInt from (by rw [show (vk : Int32).toInt = 6 by omega]; exact q_22)) hS dX11_wordOf_230
  by_cases sw_1_7 : vk.toInt = 7
  · refine as_i 7 (i_eq.mpr (sw_1_7.trans k_7.symm)) ?_
    refine lv_tableIn (off := 230) (tgt := 231) hx hb dX11_wordOf_1 (by decide) (by decide) (by decide) (by decide) ?_
    refine lv_bipush (v := 112) hx hb dX11_wordOf_231 (by decide) ?_
    refine lv_bipush (v := 108) hx hb dX11_wordOf_233 (by decide) ?_
    refine lv_bipush (v := 97) hx hb dX11_wordOf_235 (by decide) ?_
    refine lv_bipush (v := 116) hx hb dX11_wordOf_237 (by decide) ?_
    refine lv_bipush (v := 101) hx hb dX11_wordOf_239 (by decide) ?_
    refine lv_iconst (v := 0) hx hb dX11_wordOf_241 (by decide) ?_
    refine lv_iconst (v := 0) hx hb dX11_wordOf_242 (by decide) ?_
    refine jr_l (rSr (As := [.int 112, .int 108, .int 97, .int 116, .int 101, .int 0, .int 0]) (rest := []) ⟨hx, hb, hml, hown, hts⟩ (s_spelt_plate l dC dI cy  ) (cw_X11_58 hts rfl rfl ⟨Nat.le_of_ble_eq_true rfl, Nat.le_of_ble_eq_true rfl⟩) hP hK [] rfl rfl hl.1 rfl (Nat.le_of_ble_eq_true rfl) dX11_wordOf_243 ⟨Nat.le_of_ble_eq_true rfl, Nat.le_of_ble_eq_true rfl⟩) hP hS (fun r_23 H locs hp_24 hP hS => ?_)
    have hp_24 : ((r_23 : Int64).toInt = 8740526) := hp_24
    have q_25 := hp_24
    rw [hQ9]
    exact rr_l hx hb hr hlocks (show (r_23 : Int64).toInt = tkMM (vk : Int32).toInt from (by rw [show (vk : Int32).toInt = 7 by omega]; exact q_25)) hS dX11_wordOf_246
  by_cases sw_1_8 : vk.toInt = 8
  · refine as_i 8 (i_eq.mpr (sw_1_8.trans k_8.symm)) ?_
    refine lv_tableIn (off := 246) (tgt := 247) hx hb dX11_wordOf_1 (by decide) (by decide) (by decide) (by decide) ?_
    refine lv_bipush (v := 100) hx hb dX11_wordOf_247 (by decide) ?_
    refine lv_bipush (v := 111) hx hb dX11_wordOf_249 (by decide) ?_
    refine lv_bipush (v := 101) hx hb dX11_wordOf_251 (by decide) ?_
    refine lv_bipush (v := 115) hx hb dX11_wordOf_253 (by decide) ?_
    refine lv_iconst (v := 0) hx hb dX11_wordOf_255 (by decide) ?_
    refine lv_iconst (v := 0) hx hb dX11_wordOf_256 (by decide) ?_
    refine lv_iconst (v := 0) hx hb dX11_wordOf_257 (by decide) ?_
    refine jr_l (rSr (As := [.int 100, .int 111, .int 101, .int 115, .int 0, .int 0, .int 0]) (rest := []) ⟨hx, hb, hml, hown, hts⟩ (s_spelt_does l dC dI cy  ) (cw_X11_58 hts rfl rfl ⟨Nat.le_of_ble_eq_true rfl, Nat.le_of_ble_eq_true rfl⟩) hP hK [] rfl rfl hl.1 rfl (Nat.le_of_ble_eq_true rfl) dX11_wordOf_258 ⟨Nat.le_of_ble_eq_true rfl, Nat.le_of_ble_eq_true rfl⟩) hP hS (fun r_26 H locs hp_27 hP hS => ?_)
    have hp_27 : ((r_26 : Int64).toInt = 89821) := hp_27
    have q_28 := hp_27
    rw [hQ9]
    exact rr_l hx hb hr hlocks (show (r_26 : Int64).toInt = tkMM (vk : Int32).toInt from (by rw [show (vk : Int32).toInt = 8 by omega]; exact q_28)) hS dX11_wordOf_261
  by_cases sw_1_9 : vk.toInt = 9
  · refine as_i 9 (i_eq.mpr (sw_1_9.trans k_9.symm)) ?_
    refine lv_tableIn (off := 261) (tgt := 262) hx hb dX11_wordOf_1 (by decide) (by decide) (by decide) (by decide) ?_
    refine lv_bipush (v := 108) hx hb dX11_wordOf_262 (by decide) ?_
    refine lv_bipush (v := 101) hx hb dX11_wordOf_264 (by decide) ?_
    refine lv_bipush (v := 110) hx hb dX11_wordOf_266 (by decide) ?_
    refine lv_bipush (v := 100) hx hb dX11_wordOf_268 (by decide) ?_
    refine lv_bipush (v := 115) hx hb dX11_wordOf_270 (by decide) ?_
    refine lv_iconst (v := 0) hx hb dX11_wordOf_272 (by decide) ?_
    refine lv_iconst (v := 0) hx hb dX11_wordOf_273 (by decide) ?_
    refine jr_l (rSr (As := [.int 108, .int 101, .int 110, .int 100, .int 115, .int 0, .int 0]) (rest := []) ⟨hx, hb, hml, hown, hts⟩ (s_spelt_lends l dC dI cy  ) (cw_X11_58 hts rfl rfl ⟨Nat.le_of_ble_eq_true rfl, Nat.le_of_ble_eq_true rfl⟩) hP hK [] rfl rfl hl.1 rfl (Nat.le_of_ble_eq_true rfl) dX11_wordOf_274 ⟨Nat.le_of_ble_eq_true rfl, Nat.le_of_ble_eq_true rfl⟩) hP hS (fun r_29 H locs hp_30 hP hS => ?_)
    have hp_30 : ((r_29 : Int64).toInt = 6486040) := hp_30
    have q_31 := hp_30
    rw [hQ9]
    exact rr_l hx hb hr hlocks (show (r_29 : Int64).toInt = tkMM (vk : Int32).toInt from (by rw [show (vk : Int32).toInt = 9 by omega]; exact q_31)) hS dX11_wordOf_277
  by_cases sw_1_10 : vk.toInt = 10
  · refine as_i 10 (i_eq.mpr (sw_1_10.trans k_10.symm)) ?_
    refine lv_tableIn (off := 277) (tgt := 278) hx hb dX11_wordOf_1 (by decide) (by decide) (by decide) (by decide) ?_
    refine lv_bipush (v := 114) hx hb dX11_wordOf_278 (by decide) ?_
    refine lv_bipush (v := 101) hx hb dX11_wordOf_280 (by decide) ?_
    refine lv_bipush (v := 116) hx hb dX11_wordOf_282 (by decide) ?_
    refine lv_bipush (v := 117) hx hb dX11_wordOf_284 (by decide) ?_
    refine lv_bipush (v := 114) hx hb dX11_wordOf_286 (by decide) ?_
    refine lv_bipush (v := 110) hx hb dX11_wordOf_288 (by decide) ?_
    refine lv_bipush (v := 115) hx hb dX11_wordOf_290 (by decide) ?_
    refine jr_l (rSr (As := [.int 114, .int 101, .int 116, .int 117, .int 114, .int 110, .int 115]) (rest := []) ⟨hx, hb, hml, hown, hts⟩ (s_spelt_returns l dC dI cy  ) (cw_X11_58 hts rfl rfl ⟨Nat.le_of_ble_eq_true rfl, Nat.le_of_ble_eq_true rfl⟩) hP hK [] rfl rfl hl.1 rfl (Nat.le_of_ble_eq_true rfl) dX11_wordOf_292 ⟨Nat.le_of_ble_eq_true rfl, Nat.le_of_ble_eq_true rfl⟩) hP hS (fun r_32 H locs hp_33 hP hS => ?_)
    have hp_33 : ((r_32 : Int64).toInt = 7056369019) := hp_33
    have q_34 := hp_33
    rw [hQ9]
    exact rr_l hx hb hr hlocks (show (r_32 : Int64).toInt = tkMM (vk : Int32).toInt from (by rw [show (vk : Int32).toInt = 10 by omega]; exact q_34)) hS dX11_wordOf_295
  by_cases sw_1_11 : vk.toInt = 11
  · refine as_i 11 (i_eq.mpr (sw_1_11.trans k_11.symm)) ?_
    refine lv_tableIn (off := 295) (tgt := 296) hx hb dX11_wordOf_1 (by decide) (by decide) (by decide) (by decide) ?_
    refine lv_bipush (v := 98) hx hb dX11_wordOf_296 (by decide) ?_
    refine lv_bipush (v := 111) hx hb dX11_wordOf_298 (by decide) ?_
    refine lv_bipush (v := 114) hx hb dX11_wordOf_300 (by decide) ?_
    refine lv_bipush (v := 114) hx hb dX11_wordOf_302 (by decide) ?_
    refine lv_bipush (v := 111) hx hb dX11_wordOf_304 (by decide) ?_
    refine lv_bipush (v := 119) hx hb dX11_wordOf_306 (by decide) ?_
    refine lv_bipush (v := 115) hx hb dX11_wordOf_308 (by decide) ?_
    refine jr_l (rSr (As := [.int 98, .int 111, .int 114, .int 114, .int 111, .int 119, .int 115]) (rest := []) ⟨hx, hb, hml, hown, hts⟩ (s_spelt_borrows l dC dI cy  ) (cw_X11_58 hts rfl rfl ⟨Nat.le_of_ble_eq_true rfl, Nat.le_of_ble_eq_true rfl⟩) hP hK [] rfl rfl hl.1 rfl (Nat.le_of_ble_eq_true rfl) dX11_wordOf_310 ⟨Nat.le_of_ble_eq_true rfl, Nat.le_of_ble_eq_true rfl⟩) hP hS (fun r_35 H locs hp_36 hP hS => ?_)
    have hp_36 : ((r_35 : Int64).toInt = 1000006390) := hp_36
    have q_37 := hp_36
    rw [hQ9]
    exact rr_l hx hb hr hlocks (show (r_35 : Int64).toInt = tkMM (vk : Int32).toInt from (by rw [show (vk : Int32).toInt = 11 by omega]; exact q_37)) hS dX11_wordOf_313
  by_cases sw_1_12 : vk.toInt = 12
  · refine as_i 12 (i_eq.mpr (sw_1_12.trans k_12.symm)) ?_
    refine lv_tableIn (off := 313) (tgt := 314) hx hb dX11_wordOf_1 (by decide) (by decide) (by decide) (by decide) ?_
    refine lv_bipush (v := 112) hx hb dX11_wordOf_314 (by decide) ?_
    refine lv_bipush (v := 97) hx hb dX11_wordOf_316 (by decide) ?_
    refine lv_bipush (v := 121) hx hb dX11_wordOf_318 (by decide) ?_
    refine lv_bipush (v := 115) hx hb dX11_wordOf_320 (by decide) ?_
    refine lv_iconst (v := 0) hx hb dX11_wordOf_322 (by decide) ?_
    refine lv_iconst (v := 0) hx hb dX11_wordOf_323 (by decide) ?_
    refine lv_iconst (v := 0) hx hb dX11_wordOf_324 (by decide) ?_
    refine jr_l (rSr (As := [.int 112, .int 97, .int 121, .int 115, .int 0, .int 0, .int 0]) (rest := []) ⟨hx, hb, hml, hown, hts⟩ (s_spelt_pays l dC dI cy  ) (cw_X11_58 hts rfl rfl ⟨Nat.le_of_ble_eq_true rfl, Nat.le_of_ble_eq_true rfl⟩) hP hK [] rfl rfl hl.1 rfl (Nat.le_of_ble_eq_true rfl) dX11_wordOf_325 ⟨Nat.le_of_ble_eq_true rfl, Nat.le_of_ble_eq_true rfl⟩) hP hS (fun r_38 H locs hp_39 hP hS => ?_)
    have hp_39 : ((r_38 : Int64).toInt = 316351) := hp_39
    have q_40 := hp_39
    rw [hQ9]
    exact rr_l hx hb hr hlocks (show (r_38 : Int64).toInt = tkMM (vk : Int32).toInt from (by rw [show (vk : Int32).toInt = 12 by omega]; exact q_40)) hS dX11_wordOf_328
  by_cases sw_1_13 : vk.toInt = 13
  · refine as_i 13 (i_eq.mpr (sw_1_13.trans k_13.symm)) ?_
    refine lv_tableIn (off := 328) (tgt := 329) hx hb dX11_wordOf_1 (by decide) (by decide) (by decide) (by decide) ?_
    refine lv_bipush (v := 115) hx hb dX11_wordOf_329 (by decide) ?_
    refine lv_bipush (v := 105) hx hb dX11_wordOf_331 (by decide) ?_
    refine lv_bipush (v := 116) hx hb dX11_wordOf_333 (by decide) ?_
    refine lv_bipush (v := 115) hx hb dX11_wordOf_335 (by decide) ?_
    refine lv_iconst (v := 0) hx hb dX11_wordOf_337 (by decide) ?_
    refine lv_iconst (v := 0) hx hb dX11_wordOf_338 (by decide) ?_
    refine lv_iconst (v := 0) hx hb dX11_wordOf_339 (by decide) ?_
    refine jr_l (rSr (As := [.int 115, .int 105, .int 116, .int 115, .int 0, .int 0, .int 0]) (rest := []) ⟨hx, hb, hml, hown, hts⟩ (s_spelt_sits l dC dI cy  ) (cw_X11_58 hts rfl rfl ⟨Nat.le_of_ble_eq_true rfl, Nat.le_of_ble_eq_true rfl⟩) hP hK [] rfl rfl hl.1 rfl (Nat.le_of_ble_eq_true rfl) dX11_wordOf_340 ⟨Nat.le_of_ble_eq_true rfl, Nat.le_of_ble_eq_true rfl⟩) hP hS (fun r_41 H locs hp_42 hP hS => ?_)
    have hp_42 : ((r_41 : Int64).toInt = 381097) := hp_42
    have q_43 := hp_42
    rw [hQ9]
    exact rr_l hx hb hr hlocks (show (r_41 : Int64).toInt = tkMM (vk : Int32).toInt from (by rw [show (vk : Int32).toInt = 13 by omega]; exact q_43)) hS dX11_wordOf_343
  by_cases sw_1_14 : vk.toInt = 14
  · refine as_i 14 (i_eq.mpr (sw_1_14.trans k_14.symm)) ?_
    refine lv_tableIn (off := 343) (tgt := 344) hx hb dX11_wordOf_1 (by decide) (by decide) (by decide) (by decide) ?_
    refine lv_bipush (v := 121) hx hb dX11_wordOf_344 (by decide) ?_
    refine lv_bipush (v := 101) hx hb dX11_wordOf_346 (by decide) ?_
    refine lv_bipush (v := 97) hx hb dX11_wordOf_348 (by decide) ?_
    refine lv_bipush (v := 114) hx hb dX11_wordOf_350 (by decide) ?_
    refine lv_iconst (v := 0) hx hb dX11_wordOf_352 (by decide) ?_
    refine lv_iconst (v := 0) hx hb dX11_wordOf_353 (by decide) ?_
    refine lv_iconst (v := 0) hx hb dX11_wordOf_354 (by decide) ?_
    refine jr_l (rSr (As := [.int 121, .int 101, .int 97, .int 114, .int 0, .int 0, .int 0]) (rest := []) ⟨hx, hb, hml, hown, hts⟩ (s_spelt_year l dC dI cy  ) (cw_X11_58 hts rfl rfl ⟨Nat.le_of_ble_eq_true rfl, Nat.le_of_ble_eq_true rfl⟩) hP hK [] rfl rfl hl.1 rfl (Nat.le_of_ble_eq_true rfl) dX11_wordOf_355 ⟨Nat.le_of_ble_eq_true rfl, Nat.le_of_ble_eq_true rfl⟩) hP hS (fun r_44 H locs hp_45 hP hS => ?_)
    have hp_45 : ((r_44 : Int64).toInt = 495765) := hp_45
    have q_46 := hp_45
    rw [hQ9]
    exact rr_l hx hb hr hlocks (show (r_44 : Int64).toInt = tkMM (vk : Int32).toInt from (by rw [show (vk : Int32).toInt = 14 by omega]; exact q_46)) hS dX11_wordOf_358
  by_cases sw_1_15 : vk.toInt = 15
  · refine as_i 15 (i_eq.mpr (sw_1_15.trans k_15.symm)) ?_
    refine lv_tableIn (off := 358) (tgt := 359) hx hb dX11_wordOf_1 (by decide) (by decide) (by decide) (by decide) ?_
    refine lv_bipush (v := 111) hx hb dX11_wordOf_359 (by decide) ?_
    refine lv_bipush (v := 114) hx hb dX11_wordOf_361 (by decide) ?_
    refine lv_iconst (v := 0) hx hb dX11_wordOf_363 (by decide) ?_
    refine lv_iconst (v := 0) hx hb dX11_wordOf_364 (by decide) ?_
    refine lv_iconst (v := 0) hx hb dX11_wordOf_365 (by decide) ?_
    refine lv_iconst (v := 0) hx hb dX11_wordOf_366 (by decide) ?_
    refine lv_iconst (v := 0) hx hb dX11_wordOf_367 (by decide) ?_
    refine jr_l (rSr (As := [.int 111, .int 114, .int 0, .int 0, .int 0, .int 0, .int 0]) (rest := []) ⟨hx, hb, hml, hown, hts⟩ (s_spelt_or l dC dI cy  ) (cw_X11_58 hts rfl rfl ⟨Nat.le_of_ble_eq_true rfl, Nat.le_of_ble_eq_true rfl⟩) hP hK [] rfl rfl hl.1 rfl (Nat.le_of_ble_eq_true rfl) dX11_wordOf_368 ⟨Nat.le_of_ble_eq_true rfl, Nat.le_of_ble_eq_true rfl⟩) hP hS (fun r_47 H locs hp_48 hP hS => ?_)
    have hp_48 : ((r_47 : Int64).toInt = 423) := hp_48
    have q_49 := hp_48
    rw [hQ9]
    exact rr_l hx hb hr hlocks (show (r_47 : Int64).toInt = tkMM (vk : Int32).toInt from (by rw [show (vk : Int32).toInt = 15 by omega]; exact q_49)) hS dX11_wordOf_371
  by_cases sw_1_16 : vk.toInt = 16
  · refine as_i 16 (i_eq.mpr (sw_1_16.trans k_16.symm)) ?_
    refine lv_tableIn (off := 371) (tgt := 372) hx hb dX11_wordOf_1 (by decide) (by decide) (by decide) (by decide) ?_
    refine lv_bipush (v := 97) hx hb dX11_wordOf_372 (by decide) ?_
    refine lv_bipush (v := 110) hx hb dX11_wordOf_374 (by decide) ?_
    refine lv_bipush (v := 100) hx hb dX11_wordOf_376 (by decide) ?_
    refine lv_iconst (v := 0) hx hb dX11_wordOf_378 (by decide) ?_
    refine lv_iconst (v := 0) hx hb dX11_wordOf_379 (by decide) ?_
    refine lv_iconst (v := 0) hx hb dX11_wordOf_380 (by decide) ?_
    refine lv_iconst (v := 0) hx hb dX11_wordOf_381 (by decide) ?_
    refine jr_l (rSr (As := [.int 97, .int 110, .int 100, .int 0, .int 0, .int 0, .int 0]) (rest := []) ⟨hx, hb, hml, hown, hts⟩ (s_spelt_and l dC dI cy  ) (cw_X11_58 hts rfl rfl ⟨Nat.le_of_ble_eq_true rfl, Nat.le_of_ble_eq_true rfl⟩) hP hK [] rfl rfl hl.1 rfl (Nat.le_of_ble_eq_true rfl) dX11_wordOf_382 ⟨Nat.le_of_ble_eq_true rfl, Nat.le_of_ble_eq_true rfl⟩) hP hS (fun r_50 H locs hp_51 hP hS => ?_)
    have hp_51 : ((r_50 : Int64).toInt = 1111) := hp_51
    have q_52 := hp_51
    rw [hQ9]
    exact rr_l hx hb hr hlocks (show (r_50 : Int64).toInt = tkMM (vk : Int32).toInt from (by rw [show (vk : Int32).toInt = 16 by omega]; exact q_52)) hS dX11_wordOf_385
  by_cases sw_1_17 : vk.toInt = 17
  · refine as_i 17 (i_eq.mpr (sw_1_17.trans k_17.symm)) ?_
    refine lv_tableIn (off := 385) (tgt := 386) hx hb dX11_wordOf_1 (by decide) (by decide) (by decide) (by decide) ?_
    refine lv_bipush (v := 110) hx hb dX11_wordOf_386 (by decide) ?_
    refine lv_bipush (v := 111) hx hb dX11_wordOf_388 (by decide) ?_
    refine lv_bipush (v := 116) hx hb dX11_wordOf_390 (by decide) ?_
    refine lv_iconst (v := 0) hx hb dX11_wordOf_392 (by decide) ?_
    refine lv_iconst (v := 0) hx hb dX11_wordOf_393 (by decide) ?_
    refine lv_iconst (v := 0) hx hb dX11_wordOf_394 (by decide) ?_
    refine lv_iconst (v := 0) hx hb dX11_wordOf_395 (by decide) ?_
    refine jr_l (rSr (As := [.int 110, .int 111, .int 116, .int 0, .int 0, .int 0, .int 0]) (rest := []) ⟨hx, hb, hml, hown, hts⟩ (s_spelt_not l dC dI cy  ) (cw_X11_58 hts rfl rfl ⟨Nat.le_of_ble_eq_true rfl, Nat.le_of_ble_eq_true rfl⟩) hP hK [] rfl rfl hl.1 rfl (Nat.le_of_ble_eq_true rfl) dX11_wordOf_396 ⟨Nat.le_of_ble_eq_true rfl, Nat.le_of_ble_eq_true rfl⟩) hP hS (fun r_53 H locs hp_54 hP hS => ?_)
    have hp_54 : ((r_53 : Int64).toInt = 10631) := hp_54
    have q_55 := hp_54
    rw [hQ9]
    exact rr_l hx hb hr hlocks (show (r_53 : Int64).toInt = tkMM (vk : Int32).toInt from (by rw [show (vk : Int32).toInt = 17 by omega]; exact q_55)) hS dX11_wordOf_399
  by_cases sw_1_18 : vk.toInt = 18
  · refine as_i 18 (i_eq.mpr (sw_1_18.trans k_18.symm)) ?_
    refine lv_tableIn (off := 399) (tgt := 400) hx hb dX11_wordOf_1 (by decide) (by decide) (by decide) (by decide) ?_
    refine lv_bipush (v := 115) hx hb dX11_wordOf_400 (by decide) ?_
    refine lv_bipush (v := 101) hx hb dX11_wordOf_402 (by decide) ?_
    refine lv_bipush (v := 101) hx hb dX11_wordOf_404 (by decide) ?_
    refine lv_bipush (v := 110) hx hb dX11_wordOf_406 (by decide) ?_
    refine lv_iconst (v := 0) hx hb dX11_wordOf_408 (by decide) ?_
    refine lv_iconst (v := 0) hx hb dX11_wordOf_409 (by decide) ?_
    refine lv_iconst (v := 0) hx hb dX11_wordOf_410 (by decide) ?_
    refine jr_l (rSr (As := [.int 115, .int 101, .int 101, .int 110, .int 0, .int 0, .int 0]) (rest := []) ⟨hx, hb, hml, hown, hts⟩ (s_spelt_seen l dC dI cy  ) (cw_X11_58 hts rfl rfl ⟨Nat.le_of_ble_eq_true rfl, Nat.le_of_ble_eq_true rfl⟩) hP hK [] rfl rfl hl.1 rfl (Nat.le_of_ble_eq_true rfl) dX11_wordOf_411 ⟨Nat.le_of_ble_eq_true rfl, Nat.le_of_ble_eq_true rfl⟩) hP hS (fun r_56 H locs hp_57 hP hS => ?_)
    have hp_57 : ((r_56 : Int64).toInt = 377771) := hp_57
    have q_58 := hp_57
    rw [hQ9]
    exact rr_l hx hb hr hlocks (show (r_56 : Int64).toInt = tkMM (vk : Int32).toInt from (by rw [show (vk : Int32).toInt = 18 by omega]; exact q_58)) hS dX11_wordOf_414
  by_cases sw_1_19 : vk.toInt = 19
  · refine as_i 19 (i_eq.mpr (sw_1_19.trans k_19.symm)) ?_
    refine lv_tableIn (off := 414) (tgt := 415) hx hb dX11_wordOf_1 (by decide) (by decide) (by decide) (by decide) ?_
    refine lv_bipush (v := 102) hx hb dX11_wordOf_415 (by decide) ?_
    refine lv_bipush (v := 97) hx hb dX11_wordOf_417 (by decide) ?_
    refine lv_bipush (v := 105) hx hb dX11_wordOf_419 (by decide) ?_
    refine lv_bipush (v := 110) hx hb dX11_wordOf_421 (by decide) ?_
    refine lv_bipush (v := 116) hx hb dX11_wordOf_423 (by decide) ?_
    refine lv_iconst (v := 0) hx hb dX11_wordOf_425 (by decide) ?_
    refine lv_iconst (v := 0) hx hb dX11_wordOf_426 (by decide) ?_
    refine jr_l (rSr (As := [.int 102, .int 97, .int 105, .int 110, .int 116, .int 0, .int 0]) (rest := []) ⟨hx, hb, hml, hown, hts⟩ (s_spelt_faint l dC dI cy  ) (cw_X11_58 hts rfl rfl ⟨Nat.le_of_ble_eq_true rfl, Nat.le_of_ble_eq_true rfl⟩) hP hK [] rfl rfl hl.1 rfl (Nat.le_of_ble_eq_true rfl) dX11_wordOf_427 ⟨Nat.le_of_ble_eq_true rfl, Nat.le_of_ble_eq_true rfl⟩) hP hS (fun r_59 H locs hp_60 hP hS => ?_)
    have hp_60 : ((r_59 : Int64).toInt = 3215288) := hp_60
    have q_61 := hp_60
    rw [hQ9]
    exact rr_l hx hb hr hlocks (show (r_59 : Int64).toInt = tkMM (vk : Int32).toInt from (by rw [show (vk : Int32).toInt = 19 by omega]; exact q_61)) hS dX11_wordOf_430
  by_cases sw_1_20 : vk.toInt = 20
  · refine as_i 20 (i_eq.mpr (sw_1_20.trans k_20.symm)) ?_
    refine lv_tableIn (off := 430) (tgt := 431) hx hb dX11_wordOf_1 (by decide) (by decide) (by decide) (by decide) ?_
    refine lv_bipush (v := 102) hx hb dX11_wordOf_431 (by decide) ?_
    refine lv_bipush (v := 117) hx hb dX11_wordOf_433 (by decide) ?_
    refine lv_bipush (v := 108) hx hb dX11_wordOf_435 (by decide) ?_
    refine lv_bipush (v := 108) hx hb dX11_wordOf_437 (by decide) ?_
    refine lv_iconst (v := 0) hx hb dX11_wordOf_439 (by decide) ?_
    refine lv_iconst (v := 0) hx hb dX11_wordOf_440 (by decide) ?_
    refine lv_iconst (v := 0) hx hb dX11_wordOf_441 (by decide) ?_
    refine jr_l (rSr (As := [.int 102, .int 117, .int 108, .int 108, .int 0, .int 0, .int 0]) (rest := []) ⟨hx, hb, hml, hown, hts⟩ (s_spelt_full l dC dI cy  ) (cw_X11_58 hts rfl rfl ⟨Nat.le_of_ble_eq_true rfl, Nat.le_of_ble_eq_true rfl⟩) hP hK [] rfl rfl hl.1 rfl (Nat.le_of_ble_eq_true rfl) dX11_wordOf_442 ⟨Nat.le_of_ble_eq_true rfl, Nat.le_of_ble_eq_true rfl⟩) hP hS (fun r_62 H locs hp_63 hP hS => ?_)
    have hp_63 : ((r_62 : Int64).toInt = 133743) := hp_63
    have q_64 := hp_63
    rw [hQ9]
    exact rr_l hx hb hr hlocks (show (r_62 : Int64).toInt = tkMM (vk : Int32).toInt from (by rw [show (vk : Int32).toInt = 20 by omega]; exact q_64)) hS dX11_wordOf_445
  by_cases sw_1_21 : vk.toInt = 21
  · refine as_i 21 (i_eq.mpr (sw_1_21.trans k_21.symm)) ?_
    refine lv_tableIn (off := 445) (tgt := 446) hx hb dX11_wordOf_1 (by decide) (by decide) (by decide) (by decide) ?_
    refine lv_bipush (v := 116) hx hb dX11_wordOf_446 (by decide) ?_
    refine lv_bipush (v := 97) hx hb dX11_wordOf_448 (by decide) ?_
    refine lv_bipush (v := 107) hx hb dX11_wordOf_450 (by decide) ?_
    refine lv_bipush (v := 101) hx hb dX11_wordOf_452 (by decide) ?_
    refine lv_bipush (v := 110) hx hb dX11_wordOf_454 (by decide) ?_
    refine lv_iconst (v := 0) hx hb dX11_wordOf_456 (by decide) ?_
    refine lv_iconst (v := 0) hx hb dX11_wordOf_457 (by decide) ?_
    refine jr_l (rSr (As := [.int 116, .int 97, .int 107, .int 101, .int 110, .int 0, .int 0]) (rest := []) ⟨hx, hb, hml, hown, hts⟩ (s_spelt_taken l dC dI cy  ) (cw_X11_58 hts rfl rfl ⟨Nat.le_of_ble_eq_true rfl, Nat.le_of_ble_eq_true rfl⟩) hP hK [] rfl rfl hl.1 rfl (Nat.le_of_ble_eq_true rfl) dX11_wordOf_458 ⟨Nat.le_of_ble_eq_true rfl, Nat.le_of_ble_eq_true rfl⟩) hP hS (fun r_65 H locs hp_66 hP hS => ?_)
    have hp_66 : ((r_65 : Int64).toInt = 10656671) := hp_66
    have q_67 := hp_66
    rw [hQ9]
    exact rr_l hx hb hr hlocks (show (r_65 : Int64).toInt = tkMM (vk : Int32).toInt from (by rw [show (vk : Int32).toInt = 21 by omega]; exact q_67)) hS dX11_wordOf_461
  by_cases sw_1_22 : vk.toInt = 22
  · refine as_i 22 (i_eq.mpr (sw_1_22.trans k_22.symm)) ?_
    refine lv_tableIn (off := 461) (tgt := 462) hx hb dX11_wordOf_1 (by decide) (by decide) (by decide) (by decide) ?_
    refine lv_bipush (v := 108) hx hb dX11_wordOf_462 (by decide) ?_
    refine lv_bipush (v := 101) hx hb dX11_wordOf_464 (by decide) ?_
    refine lv_bipush (v := 110) hx hb dX11_wordOf_466 (by decide) ?_
    refine lv_bipush (v := 100) hx hb dX11_wordOf_468 (by decide) ?_
    refine lv_bipush (v := 105) hx hb dX11_wordOf_470 (by decide) ?_
    refine lv_bipush (v := 110) hx hb dX11_wordOf_472 (by decide) ?_
    refine lv_bipush (v := 103) hx hb dX11_wordOf_474 (by decide) ?_
    refine jr_l (rSr (As := [.int 108, .int 101, .int 110, .int 100, .int 105, .int 110, .int 103]) (rest := []) ⟨hx, hb, hml, hown, hts⟩ (s_spelt_lending l dC dI cy  ) (cw_X11_58 hts rfl rfl ⟨Nat.le_of_ble_eq_true rfl, Nat.le_of_ble_eq_true rfl⟩) hP hK [] rfl rfl hl.1 rfl (Nat.le_of_ble_eq_true rfl) dX11_wordOf_476 ⟨Nat.le_of_ble_eq_true rfl, Nat.le_of_ble_eq_true rfl⟩) hP hS (fun r_68 H locs hp_69 hP hS => ?_)
    have hp_69 : ((r_68 : Int64).toInt = 4728316255) := hp_69
    have q_70 := hp_69
    rw [hQ9]
    exact rr_l hx hb hr hlocks (show (r_68 : Int64).toInt = tkMM (vk : Int32).toInt from (by rw [show (vk : Int32).toInt = 22 by omega]; exact q_70)) hS dX11_wordOf_479
  by_cases sw_1_23 : vk.toInt = 23
  · refine as_i 23 (i_eq.mpr (sw_1_23.trans k_23.symm)) ?_
    refine lv_tableIn (off := 479) (tgt := 480) hx hb dX11_wordOf_1 (by decide) (by decide) (by decide) (by decide) ?_
    refine lv_bipush (v := 104) hx hb dX11_wordOf_480 (by decide) ?_
    refine lv_bipush (v := 97) hx hb dX11_wordOf_482 (by decide) ?_
    refine lv_bipush (v := 115) hx hb dX11_wordOf_484 (by decide) ?_
    refine lv_iconst (v := 0) hx hb dX11_wordOf_486 (by decide) ?_
    refine lv_iconst (v := 0) hx hb dX11_wordOf_487 (by decide) ?_
    refine lv_iconst (v := 0) hx hb dX11_wordOf_488 (by decide) ?_
    refine lv_iconst (v := 0) hx hb dX11_wordOf_489 (by decide) ?_
    refine jr_l (rSr (As := [.int 104, .int 97, .int 115, .int 0, .int 0, .int 0, .int 0]) (rest := []) ⟨hx, hb, hml, hown, hts⟩ (s_spelt_has l dC dI cy  ) (cw_X11_58 hts rfl rfl ⟨Nat.le_of_ble_eq_true rfl, Nat.le_of_ble_eq_true rfl⟩) hP hK [] rfl rfl hl.1 rfl (Nat.le_of_ble_eq_true rfl) dX11_wordOf_490 ⟨Nat.le_of_ble_eq_true rfl, Nat.le_of_ble_eq_true rfl⟩) hP hS (fun r_71 H locs hp_72 hP hS => ?_)
    have hp_72 : ((r_71 : Int64).toInt = 5878) := hp_72
    have q_73 := hp_72
    rw [hQ9]
    exact rr_l hx hb hr hlocks (show (r_71 : Int64).toInt = tkMM (vk : Int32).toInt from (by rw [show (vk : Int32).toInt = 23 by omega]; exact q_73)) hS dX11_wordOf_493
  by_cases sw_1_24 : vk.toInt = 24
  · refine as_i 24 (i_eq.mpr (sw_1_24.trans k_24.symm)) ?_
    refine lv_tableIn (off := 493) (tgt := 494) hx hb dX11_wordOf_1 (by decide) (by decide) (by decide) (by decide) ?_
    refine lv_bipush (v := 97) hx hb dX11_wordOf_494 (by decide) ?_
    refine lv_bipush (v := 107) hx hb dX11_wordOf_496 (by decide) ?_
    refine lv_bipush (v := 105) hx hb dX11_wordOf_498 (by decide) ?_
    refine lv_bipush (v := 110) hx hb dX11_wordOf_500 (by decide) ?_
    refine lv_iconst (v := 0) hx hb dX11_wordOf_502 (by decide) ?_
    refine lv_iconst (v := 0) hx hb dX11_wordOf_503 (by decide) ?_
    refine lv_iconst (v := 0) hx hb dX11_wordOf_504 (by decide) ?_
    refine jr_l (rSr (As := [.int 97, .int 107, .int 105, .int 110, .int 0, .int 0, .int 0]) (rest := []) ⟨hx, hb, hml, hown, hts⟩ (s_spelt_akin l dC dI cy  ) (cw_X11_58 hts rfl rfl ⟨Nat.le_of_ble_eq_true rfl, Nat.le_of_ble_eq_true rfl⟩) hP hK [] rfl rfl hl.1 rfl (Nat.le_of_ble_eq_true rfl) dX11_wordOf_505 ⟨Nat.le_of_ble_eq_true rfl, Nat.le_of_ble_eq_true rfl⟩) hP hS (fun r_74 H locs hp_75 hP hS => ?_)
    have hp_75 : ((r_74 : Int64).toInt = 27959) := hp_75
    have q_76 := hp_75
    rw [hQ9]
    exact rr_l hx hb hr hlocks (show (r_74 : Int64).toInt = tkMM (vk : Int32).toInt from (by rw [show (vk : Int32).toInt = 24 by omega]; exact q_76)) hS dX11_wordOf_508
  by_cases sw_1_25 : vk.toInt = 25
  · refine as_i 25 (i_eq.mpr (sw_1_25.trans k_25.symm)) ?_
    refine lv_tableIn (off := 508) (tgt := 509) hx hb dX11_wordOf_1 (by decide) (by decide) (by decide) (by decide) ?_
    refine lv_bipush (v := 119) hx hb dX11_wordOf_509 (by decide) ?_
    refine lv_bipush (v := 104) hx hb dX11_wordOf_511 (by decide) ?_
    refine lv_bipush (v := 105) hx hb dX11_wordOf_513 (by decide) ?_
    refine lv_bipush (v := 116) hx hb dX11_wordOf_515 (by decide) ?_
    refine lv_bipush (v := 101) hx hb dX11_wordOf_517 (by decide) ?_
    refine lv_iconst (v := 0) hx hb dX11_wordOf_519 (by decide) ?_
    refine lv_iconst (v := 0) hx hb dX11_wordOf_520 (by decide) ?_
    refine jr_l (rSr (As := [.int 119, .int 104, .int 105, .int 116, .int 101, .int 0, .int 0]) (rest := []) ⟨hx, hb, hml, hown, hts⟩ (s_spelt_white l dC dI cy  ) (cw_X11_58 hts rfl rfl ⟨Nat.le_of_ble_eq_true rfl, Nat.le_of_ble_eq_true rfl⟩) hP hK [] rfl rfl hl.1 rfl (Nat.le_of_ble_eq_true rfl) dX11_wordOf_521 ⟨Nat.le_of_ble_eq_true rfl, Nat.le_of_ble_eq_true rfl⟩) hP hS (fun r_77 H locs hp_78 hP hS => ?_)
    have hp_78 : ((r_77 : Int64).toInt = 12387713) := hp_78
    have q_79 := hp_78
    rw [hQ9]
    exact rr_l hx hb hr hlocks (show (r_77 : Int64).toInt = tkMM (vk : Int32).toInt from (by rw [show (vk : Int32).toInt = 25 by omega]; exact q_79)) hS dX11_wordOf_524
  by_cases sw_1_26 : vk.toInt = 26
  · refine as_i 26 (i_eq.mpr (sw_1_26.trans k_26.symm)) ?_
    refine lv_tableIn (off := 524) (tgt := 525) hx hb dX11_wordOf_1 (by decide) (by decide) (by decide) (by decide) ?_
    refine lv_bipush (v := 100) hx hb dX11_wordOf_525 (by decide) ?_
    refine lv_bipush (v := 97) hx hb dX11_wordOf_527 (by decide) ?_
    refine lv_bipush (v := 114) hx hb dX11_wordOf_529 (by decide) ?_
    refine lv_bipush (v := 107) hx hb dX11_wordOf_531 (by decide) ?_
    refine lv_iconst (v := 0) hx hb dX11_wordOf_533 (by decide) ?_
    refine lv_iconst (v := 0) hx hb dX11_wordOf_534 (by decide) ?_
    refine lv_iconst (v := 0) hx hb dX11_wordOf_535 (by decide) ?_
    refine jr_l (rSr (As := [.int 100, .int 97, .int 114, .int 107, .int 0, .int 0, .int 0]) (rest := []) ⟨hx, hb, hml, hown, hts⟩ (s_spelt_dark l dC dI cy  ) (cw_X11_58 hts rfl rfl ⟨Nat.le_of_ble_eq_true rfl, Nat.le_of_ble_eq_true rfl⟩) hP hK [] rfl rfl hl.1 rfl (Nat.le_of_ble_eq_true rfl) dX11_wordOf_536 ⟨Nat.le_of_ble_eq_true rfl, Nat.le_of_ble_eq_true rfl⟩) hP hS (fun r_80 H locs hp_81 hP hS => ?_)
    have hp_81 : ((r_80 : Int64).toInt = 79958) := hp_81
    have q_82 := hp_81
    rw [hQ9]
    exact rr_l hx hb hr hlocks (show (r_80 : Int64).toInt = tkMM (vk : Int32).toInt from (by rw [show (vk : Int32).toInt = 26 by omega]; exact q_82)) hS dX11_wordOf_539
  by_cases sw_1_27 : vk.toInt = 27
  · refine as_i 27 (i_eq.mpr (sw_1_27.trans k_27.symm)) ?_
    refine lv_tableIn (off := 539) (tgt := 540) hx hb dX11_wordOf_1 (by decide) (by decide) (by decide) (by decide) ?_
    refine lv_bipush (v := 97) hx hb dX11_wordOf_540 (by decide) ?_
    refine lv_bipush (v := 103) hx hb dX11_wordOf_542 (by decide) ?_
    refine lv_bipush (v := 101) hx hb dX11_wordOf_544 (by decide) ?_
    refine lv_iconst (v := 0) hx hb dX11_wordOf_546 (by decide) ?_
    refine lv_iconst (v := 0) hx hb dX11_wordOf_547 (by decide) ?_
    refine lv_iconst (v := 0) hx hb dX11_wordOf_548 (by decide) ?_
    refine lv_iconst (v := 0) hx hb dX11_wordOf_549 (by decide) ?_
    refine jr_l (rSr (As := [.int 97, .int 103, .int 101, .int 0, .int 0, .int 0, .int 0]) (rest := []) ⟨hx, hb, hml, hown, hts⟩ (s_spelt_age l dC dI cy  ) (cw_X11_58 hts rfl rfl ⟨Nat.le_of_ble_eq_true rfl, Nat.le_of_ble_eq_true rfl⟩) hP hK [] rfl rfl hl.1 rfl (Nat.le_of_ble_eq_true rfl) dX11_wordOf_550 ⟨Nat.le_of_ble_eq_true rfl, Nat.le_of_ble_eq_true rfl⟩) hP hS (fun r_83 H locs hp_84 hP hS => ?_)
    have hp_84 : ((r_83 : Int64).toInt = 923) := hp_84
    have q_85 := hp_84
    rw [hQ9]
    exact rr_l hx hb hr hlocks (show (r_83 : Int64).toInt = tkMM (vk : Int32).toInt from (by rw [show (vk : Int32).toInt = 27 by omega]; exact q_85)) hS dX11_wordOf_553
  refine lv_tableOut (tgt := 554) hx hb dX11_wordOf_1 (by omega) (by decide) ?_
  refine lv_bipush (v := 110) hx hb dX11_wordOf_554 (by decide) ?_
  refine lv_bipush (v := 117) hx hb dX11_wordOf_556 (by decide) ?_
  refine lv_bipush (v := 109) hx hb dX11_wordOf_558 (by decide) ?_
  refine lv_bipush (v := 98) hx hb dX11_wordOf_560 (by decide) ?_
  refine lv_bipush (v := 101) hx hb dX11_wordOf_562 (by decide) ?_
  refine lv_bipush (v := 114) hx hb dX11_wordOf_564 (by decide) ?_
  refine lv_iconst (v := 0) hx hb dX11_wordOf_566 (by decide) ?_
  refine jr_l (rSr (As := [.int 110, .int 117, .int 109, .int 98, .int 101, .int 114, .int 0]) (rest := []) ⟨hx, hb, hml, hown, hts⟩ (s_spelt_number l dC dI cy  ) (cw_X11_58 hts rfl rfl ⟨Nat.le_of_ble_eq_true rfl, Nat.le_of_ble_eq_true rfl⟩) hP hK [] rfl rfl hl.1 rfl (Nat.le_of_ble_eq_true rfl) dX11_wordOf_567 ⟨Nat.le_of_ble_eq_true rfl, Nat.le_of_ble_eq_true rfl⟩) hP hS (fun r_86 H locs hp_87 hP hS => ?_)
  have hp_87 : ((r_86 : Int64).toInt = 212302449) := hp_87
  have q_88 := hp_87
  rw [hQ9]
  exact rr_l hx hb hr hlocks (show (r_86 : Int64).toInt = tkMM (vk : Int32).toInt from (by rw [show (vk : Int32).toInt = 28 by omega]; exact q_88)) hS dX11_wordOf_570
