theorem sb_0_0 : Cond.eq (.elem (.field (Term.string "LikenessPound" 330) "java/lang/String" "value" "[B") (.int (Int32.ofNat 0))) (.int ((sbB.getD 0 []).getD 0 0)) ∈ flatC (Jvm.Cond.and given_1 narrow_1) := List.mem_of_getElem? (i := 421) (by decide +kernel)
theorem sb_0_1 : Cond.eq (.elem (.field (Term.string "LikenessPound" 330) "java/lang/String" "value" "[B") (.int (Int32.ofNat 1))) (.int ((sbB.getD 0 []).getD 1 0)) ∈ flatC (Jvm.Cond.and given_1 narrow_1) := List.mem_of_getElem? (i := 422) (by decide +kernel)
theorem sb_0_2 : Cond.eq (.elem (.field (Term.string "LikenessPound" 330) "java/lang/String" "value" "[B") (.int (Int32.ofNat 2))) (.int ((sbB.getD 0 []).getD 2 0)) ∈ flatC (Jvm.Cond.and given_1 narrow_1) := List.mem_of_getElem? (i := 423) (by decide +kernel)
theorem sb_0_3 : Cond.eq (.elem (.field (Term.string "LikenessPound" 330) "java/lang/String" "value" "[B") (.int (Int32.ofNat 3))) (.int ((sbB.getD 0 []).getD 3 0)) ∈ flatC (Jvm.Cond.and given_1 narrow_1) := List.mem_of_getElem? (i := 424) (by decide +kernel)
theorem sb_0_4 : Cond.eq (.elem (.field (Term.string "LikenessPound" 330) "java/lang/String" "value" "[B") (.int (Int32.ofNat 4))) (.int ((sbB.getD 0 []).getD 4 0)) ∈ flatC (Jvm.Cond.and given_1 narrow_1) := List.mem_of_getElem? (i := 425) (by decide +kernel)
theorem sb_0_5 : Cond.eq (.elem (.field (Term.string "LikenessPound" 330) "java/lang/String" "value" "[B") (.int (Int32.ofNat 5))) (.int ((sbB.getD 0 []).getD 5 0)) ∈ flatC (Jvm.Cond.and given_1 narrow_1) := List.mem_of_getElem? (i := 426) (by decide +kernel)
theorem sb_0_6 : Cond.eq (.elem (.field (Term.string "LikenessPound" 330) "java/lang/String" "value" "[B") (.int (Int32.ofNat 6))) (.int ((sbB.getD 0 []).getD 6 0)) ∈ flatC (Jvm.Cond.and given_1 narrow_1) := List.mem_of_getElem? (i := 427) (by decide +kernel)
theorem sb_el0 : ∀ j, j < 7 → Cond.eq (.elem (.field (Term.string "LikenessPound" 330) "java/lang/String" "value" "[B") (.int (Int32.ofNat j))) (.int ((sbB.getD 0 []).getD j 0)) ∈ flatC (Jvm.Cond.and given_1 narrow_1) := fun j hj => by
  match j, hj with
  | 0, _ => exact sb_0_0
  | 1, _ => exact sb_0_1
  | 2, _ => exact sb_0_2
  | 3, _ => exact sb_0_3
  | 4, _ => exact sb_0_4
  | 5, _ => exact sb_0_5
  | 6, _ => exact sb_0_6
  | j + 7, h => exact absurd h (by omega)
theorem sb_1_0 : Cond.eq (.elem (.field (Term.string "LikenessPound" 342) "java/lang/String" "value" "[B") (.int (Int32.ofNat 0))) (.int ((sbB.getD 1 []).getD 0 0)) ∈ flatC (Jvm.Cond.and given_1 narrow_1) := List.mem_of_getElem? (i := 433) (by decide +kernel)
theorem sb_1_1 : Cond.eq (.elem (.field (Term.string "LikenessPound" 342) "java/lang/String" "value" "[B") (.int (Int32.ofNat 1))) (.int ((sbB.getD 1 []).getD 1 0)) ∈ flatC (Jvm.Cond.and given_1 narrow_1) := List.mem_of_getElem? (i := 434) (by decide +kernel)
theorem sb_1_2 : Cond.eq (.elem (.field (Term.string "LikenessPound" 342) "java/lang/String" "value" "[B") (.int (Int32.ofNat 2))) (.int ((sbB.getD 1 []).getD 2 0)) ∈ flatC (Jvm.Cond.and given_1 narrow_1) := List.mem_of_getElem? (i := 435) (by decide +kernel)
theorem sb_1_3 : Cond.eq (.elem (.field (Term.string "LikenessPound" 342) "java/lang/String" "value" "[B") (.int (Int32.ofNat 3))) (.int ((sbB.getD 1 []).getD 3 0)) ∈ flatC (Jvm.Cond.and given_1 narrow_1) := List.mem_of_getElem? (i := 436) (by decide +kernel)
theorem sb_1_4 : Cond.eq (.elem (.field (Term.string "LikenessPound" 342) "java/lang/String" "value" "[B") (.int (Int32.ofNat 4))) (.int ((sbB.getD 1 []).getD 4 0)) ∈ flatC (Jvm.Cond.and given_1 narrow_1) := List.mem_of_getElem? (i := 437) (by decide +kernel)
theorem sb_1_5 : Cond.eq (.elem (.field (Term.string "LikenessPound" 342) "java/lang/String" "value" "[B") (.int (Int32.ofNat 5))) (.int ((sbB.getD 1 []).getD 5 0)) ∈ flatC (Jvm.Cond.and given_1 narrow_1) := List.mem_of_getElem? (i := 438) (by decide +kernel)
theorem sb_1_6 : Cond.eq (.elem (.field (Term.string "LikenessPound" 342) "java/lang/String" "value" "[B") (.int (Int32.ofNat 6))) (.int ((sbB.getD 1 []).getD 6 0)) ∈ flatC (Jvm.Cond.and given_1 narrow_1) := List.mem_of_getElem? (i := 439) (by decide +kernel)
theorem sb_1_7 : Cond.eq (.elem (.field (Term.string "LikenessPound" 342) "java/lang/String" "value" "[B") (.int (Int32.ofNat 7))) (.int ((sbB.getD 1 []).getD 7 0)) ∈ flatC (Jvm.Cond.and given_1 narrow_1) := List.mem_of_getElem? (i := 440) (by decide +kernel)
theorem sb_1_8 : Cond.eq (.elem (.field (Term.string "LikenessPound" 342) "java/lang/String" "value" "[B") (.int (Int32.ofNat 8))) (.int ((sbB.getD 1 []).getD 8 0)) ∈ flatC (Jvm.Cond.and given_1 narrow_1) := List.mem_of_getElem? (i := 441) (by decide +kernel)
theorem sb_el1 : ∀ j, j < 9 → Cond.eq (.elem (.field (Term.string "LikenessPound" 342) "java/lang/String" "value" "[B") (.int (Int32.ofNat j))) (.int ((sbB.getD 1 []).getD j 0)) ∈ flatC (Jvm.Cond.and given_1 narrow_1) := fun j hj => by
  match j, hj with
  | 0, _ => exact sb_1_0
  | 1, _ => exact sb_1_1
  | 2, _ => exact sb_1_2
  | 3, _ => exact sb_1_3
  | 4, _ => exact sb_1_4
  | 5, _ => exact sb_1_5
  | 6, _ => exact sb_1_6
  | 7, _ => exact sb_1_7
  | 8, _ => exact sb_1_8
  | j + 9, h => exact absurd h (by omega)
theorem sb_2_0 : Cond.eq (.elem (.field (Term.string "LikenessPound" 344) "java/lang/String" "value" "[B") (.int (Int32.ofNat 0))) (.int ((sbB.getD 2 []).getD 0 0)) ∈ flatC (Jvm.Cond.and given_1 narrow_1) := List.mem_of_getElem? (i := 448) (by decide +kernel)
theorem sb_2_1 : Cond.eq (.elem (.field (Term.string "LikenessPound" 344) "java/lang/String" "value" "[B") (.int (Int32.ofNat 1))) (.int ((sbB.getD 2 []).getD 1 0)) ∈ flatC (Jvm.Cond.and given_1 narrow_1) := List.mem_of_getElem? (i := 449) (by decide +kernel)
theorem sb_2_2 : Cond.eq (.elem (.field (Term.string "LikenessPound" 344) "java/lang/String" "value" "[B") (.int (Int32.ofNat 2))) (.int ((sbB.getD 2 []).getD 2 0)) ∈ flatC (Jvm.Cond.and given_1 narrow_1) := List.mem_of_getElem? (i := 450) (by decide +kernel)
theorem sb_2_3 : Cond.eq (.elem (.field (Term.string "LikenessPound" 344) "java/lang/String" "value" "[B") (.int (Int32.ofNat 3))) (.int ((sbB.getD 2 []).getD 3 0)) ∈ flatC (Jvm.Cond.and given_1 narrow_1) := List.mem_of_getElem? (i := 451) (by decide +kernel)
theorem sb_2_4 : Cond.eq (.elem (.field (Term.string "LikenessPound" 344) "java/lang/String" "value" "[B") (.int (Int32.ofNat 4))) (.int ((sbB.getD 2 []).getD 4 0)) ∈ flatC (Jvm.Cond.and given_1 narrow_1) := List.mem_of_getElem? (i := 452) (by decide +kernel)
theorem sb_2_5 : Cond.eq (.elem (.field (Term.string "LikenessPound" 344) "java/lang/String" "value" "[B") (.int (Int32.ofNat 5))) (.int ((sbB.getD 2 []).getD 5 0)) ∈ flatC (Jvm.Cond.and given_1 narrow_1) := List.mem_of_getElem? (i := 453) (by decide +kernel)
theorem sb_2_6 : Cond.eq (.elem (.field (Term.string "LikenessPound" 344) "java/lang/String" "value" "[B") (.int (Int32.ofNat 6))) (.int ((sbB.getD 2 []).getD 6 0)) ∈ flatC (Jvm.Cond.and given_1 narrow_1) := List.mem_of_getElem? (i := 454) (by decide +kernel)
theorem sb_el2 : ∀ j, j < 7 → Cond.eq (.elem (.field (Term.string "LikenessPound" 344) "java/lang/String" "value" "[B") (.int (Int32.ofNat j))) (.int ((sbB.getD 2 []).getD j 0)) ∈ flatC (Jvm.Cond.and given_1 narrow_1) := fun j hj => by
  match j, hj with
  | 0, _ => exact sb_2_0
  | 1, _ => exact sb_2_1
  | 2, _ => exact sb_2_2
  | 3, _ => exact sb_2_3
  | 4, _ => exact sb_2_4
  | 5, _ => exact sb_2_5
  | 6, _ => exact sb_2_6
  | j + 7, h => exact absurd h (by omega)
theorem sb_3_0 : Cond.eq (.elem (.field (Term.string "LikenessPound" 349) "java/lang/String" "value" "[B") (.int (Int32.ofNat 0))) (.int ((sbB.getD 3 []).getD 0 0)) ∈ flatC (Jvm.Cond.and given_1 narrow_1) := List.mem_of_getElem? (i := 462) (by decide +kernel)
theorem sb_3_1 : Cond.eq (.elem (.field (Term.string "LikenessPound" 349) "java/lang/String" "value" "[B") (.int (Int32.ofNat 1))) (.int ((sbB.getD 3 []).getD 1 0)) ∈ flatC (Jvm.Cond.and given_1 narrow_1) := List.mem_of_getElem? (i := 463) (by decide +kernel)
theorem sb_3_2 : Cond.eq (.elem (.field (Term.string "LikenessPound" 349) "java/lang/String" "value" "[B") (.int (Int32.ofNat 2))) (.int ((sbB.getD 3 []).getD 2 0)) ∈ flatC (Jvm.Cond.and given_1 narrow_1) := List.mem_of_getElem? (i := 464) (by decide +kernel)
theorem sb_3_3 : Cond.eq (.elem (.field (Term.string "LikenessPound" 349) "java/lang/String" "value" "[B") (.int (Int32.ofNat 3))) (.int ((sbB.getD 3 []).getD 3 0)) ∈ flatC (Jvm.Cond.and given_1 narrow_1) := List.mem_of_getElem? (i := 465) (by decide +kernel)
theorem sb_3_4 : Cond.eq (.elem (.field (Term.string "LikenessPound" 349) "java/lang/String" "value" "[B") (.int (Int32.ofNat 4))) (.int ((sbB.getD 3 []).getD 4 0)) ∈ flatC (Jvm.Cond.and given_1 narrow_1) := List.mem_of_getElem? (i := 466) (by decide +kernel)
theorem sb_3_5 : Cond.eq (.elem (.field (Term.string "LikenessPound" 349) "java/lang/String" "value" "[B") (.int (Int32.ofNat 5))) (.int ((sbB.getD 3 []).getD 5 0)) ∈ flatC (Jvm.Cond.and given_1 narrow_1) := List.mem_of_getElem? (i := 467) (by decide +kernel)
theorem sb_el3 : ∀ j, j < 6 → Cond.eq (.elem (.field (Term.string "LikenessPound" 349) "java/lang/String" "value" "[B") (.int (Int32.ofNat j))) (.int ((sbB.getD 3 []).getD j 0)) ∈ flatC (Jvm.Cond.and given_1 narrow_1) := fun j hj => by
  match j, hj with
  | 0, _ => exact sb_3_0
  | 1, _ => exact sb_3_1
  | 2, _ => exact sb_3_2
  | 3, _ => exact sb_3_3
  | 4, _ => exact sb_3_4
  | 5, _ => exact sb_3_5
  | j + 6, h => exact absurd h (by omega)
theorem dg0_0 : Cond.eq (.elem (.static "java/lang/Integer" "DigitOnes" "[B") (.int (Int32.ofNat 0))) (.int (Int32.ofNat (48 + 0 % 10))) ∈ flatC (Jvm.Cond.and given_1 narrow_1) := List.mem_of_getElem? (i := 12) (by decide +kernel)
theorem dg0_1 : Cond.eq (.elem (.static "java/lang/Integer" "DigitOnes" "[B") (.int (Int32.ofNat 1))) (.int (Int32.ofNat (48 + 1 % 10))) ∈ flatC (Jvm.Cond.and given_1 narrow_1) := List.mem_of_getElem? (i := 13) (by decide +kernel)
theorem dg0_2 : Cond.eq (.elem (.static "java/lang/Integer" "DigitOnes" "[B") (.int (Int32.ofNat 2))) (.int (Int32.ofNat (48 + 2 % 10))) ∈ flatC (Jvm.Cond.and given_1 narrow_1) := List.mem_of_getElem? (i := 14) (by decide +kernel)
theorem dg0_3 : Cond.eq (.elem (.static "java/lang/Integer" "DigitOnes" "[B") (.int (Int32.ofNat 3))) (.int (Int32.ofNat (48 + 3 % 10))) ∈ flatC (Jvm.Cond.and given_1 narrow_1) := List.mem_of_getElem? (i := 15) (by decide +kernel)
theorem dg0_4 : Cond.eq (.elem (.static "java/lang/Integer" "DigitOnes" "[B") (.int (Int32.ofNat 4))) (.int (Int32.ofNat (48 + 4 % 10))) ∈ flatC (Jvm.Cond.and given_1 narrow_1) := List.mem_of_getElem? (i := 16) (by decide +kernel)
theorem dg0_5 : Cond.eq (.elem (.static "java/lang/Integer" "DigitOnes" "[B") (.int (Int32.ofNat 5))) (.int (Int32.ofNat (48 + 5 % 10))) ∈ flatC (Jvm.Cond.and given_1 narrow_1) := List.mem_of_getElem? (i := 17) (by decide +kernel)
theorem dg0_6 : Cond.eq (.elem (.static "java/lang/Integer" "DigitOnes" "[B") (.int (Int32.ofNat 6))) (.int (Int32.ofNat (48 + 6 % 10))) ∈ flatC (Jvm.Cond.and given_1 narrow_1) := List.mem_of_getElem? (i := 18) (by decide +kernel)
theorem dg0_7 : Cond.eq (.elem (.static "java/lang/Integer" "DigitOnes" "[B") (.int (Int32.ofNat 7))) (.int (Int32.ofNat (48 + 7 % 10))) ∈ flatC (Jvm.Cond.and given_1 narrow_1) := List.mem_of_getElem? (i := 19) (by decide +kernel)
theorem dg0_8 : Cond.eq (.elem (.static "java/lang/Integer" "DigitOnes" "[B") (.int (Int32.ofNat 8))) (.int (Int32.ofNat (48 + 8 % 10))) ∈ flatC (Jvm.Cond.and given_1 narrow_1) := List.mem_of_getElem? (i := 20) (by decide +kernel)
theorem dg0_9 : Cond.eq (.elem (.static "java/lang/Integer" "DigitOnes" "[B") (.int (Int32.ofNat 9))) (.int (Int32.ofNat (48 + 9 % 10))) ∈ flatC (Jvm.Cond.and given_1 narrow_1) := List.mem_of_getElem? (i := 21) (by decide +kernel)
theorem dg0_10 : Cond.eq (.elem (.static "java/lang/Integer" "DigitOnes" "[B") (.int (Int32.ofNat 10))) (.int (Int32.ofNat (48 + 10 % 10))) ∈ flatC (Jvm.Cond.and given_1 narrow_1) := List.mem_of_getElem? (i := 22) (by decide +kernel)
theorem dg0_11 : Cond.eq (.elem (.static "java/lang/Integer" "DigitOnes" "[B") (.int (Int32.ofNat 11))) (.int (Int32.ofNat (48 + 11 % 10))) ∈ flatC (Jvm.Cond.and given_1 narrow_1) := List.mem_of_getElem? (i := 23) (by decide +kernel)
theorem dg0_12 : Cond.eq (.elem (.static "java/lang/Integer" "DigitOnes" "[B") (.int (Int32.ofNat 12))) (.int (Int32.ofNat (48 + 12 % 10))) ∈ flatC (Jvm.Cond.and given_1 narrow_1) := List.mem_of_getElem? (i := 24) (by decide +kernel)
theorem dg0_13 : Cond.eq (.elem (.static "java/lang/Integer" "DigitOnes" "[B") (.int (Int32.ofNat 13))) (.int (Int32.ofNat (48 + 13 % 10))) ∈ flatC (Jvm.Cond.and given_1 narrow_1) := List.mem_of_getElem? (i := 25) (by decide +kernel)
theorem dg0_14 : Cond.eq (.elem (.static "java/lang/Integer" "DigitOnes" "[B") (.int (Int32.ofNat 14))) (.int (Int32.ofNat (48 + 14 % 10))) ∈ flatC (Jvm.Cond.and given_1 narrow_1) := List.mem_of_getElem? (i := 26) (by decide +kernel)
theorem dg0_15 : Cond.eq (.elem (.static "java/lang/Integer" "DigitOnes" "[B") (.int (Int32.ofNat 15))) (.int (Int32.ofNat (48 + 15 % 10))) ∈ flatC (Jvm.Cond.and given_1 narrow_1) := List.mem_of_getElem? (i := 27) (by decide +kernel)
theorem dg0_16 : Cond.eq (.elem (.static "java/lang/Integer" "DigitOnes" "[B") (.int (Int32.ofNat 16))) (.int (Int32.ofNat (48 + 16 % 10))) ∈ flatC (Jvm.Cond.and given_1 narrow_1) := List.mem_of_getElem? (i := 28) (by decide +kernel)
theorem dg0_17 : Cond.eq (.elem (.static "java/lang/Integer" "DigitOnes" "[B") (.int (Int32.ofNat 17))) (.int (Int32.ofNat (48 + 17 % 10))) ∈ flatC (Jvm.Cond.and given_1 narrow_1) := List.mem_of_getElem? (i := 29) (by decide +kernel)
theorem dg0_18 : Cond.eq (.elem (.static "java/lang/Integer" "DigitOnes" "[B") (.int (Int32.ofNat 18))) (.int (Int32.ofNat (48 + 18 % 10))) ∈ flatC (Jvm.Cond.and given_1 narrow_1) := List.mem_of_getElem? (i := 30) (by decide +kernel)
theorem dg0_19 : Cond.eq (.elem (.static "java/lang/Integer" "DigitOnes" "[B") (.int (Int32.ofNat 19))) (.int (Int32.ofNat (48 + 19 % 10))) ∈ flatC (Jvm.Cond.and given_1 narrow_1) := List.mem_of_getElem? (i := 31) (by decide +kernel)
theorem dg0_20 : Cond.eq (.elem (.static "java/lang/Integer" "DigitOnes" "[B") (.int (Int32.ofNat 20))) (.int (Int32.ofNat (48 + 20 % 10))) ∈ flatC (Jvm.Cond.and given_1 narrow_1) := List.mem_of_getElem? (i := 32) (by decide +kernel)
theorem dg0_21 : Cond.eq (.elem (.static "java/lang/Integer" "DigitOnes" "[B") (.int (Int32.ofNat 21))) (.int (Int32.ofNat (48 + 21 % 10))) ∈ flatC (Jvm.Cond.and given_1 narrow_1) := List.mem_of_getElem? (i := 33) (by decide +kernel)
theorem dg0_22 : Cond.eq (.elem (.static "java/lang/Integer" "DigitOnes" "[B") (.int (Int32.ofNat 22))) (.int (Int32.ofNat (48 + 22 % 10))) ∈ flatC (Jvm.Cond.and given_1 narrow_1) := List.mem_of_getElem? (i := 34) (by decide +kernel)
theorem dg0_23 : Cond.eq (.elem (.static "java/lang/Integer" "DigitOnes" "[B") (.int (Int32.ofNat 23))) (.int (Int32.ofNat (48 + 23 % 10))) ∈ flatC (Jvm.Cond.and given_1 narrow_1) := List.mem_of_getElem? (i := 35) (by decide +kernel)
theorem dg0_24 : Cond.eq (.elem (.static "java/lang/Integer" "DigitOnes" "[B") (.int (Int32.ofNat 24))) (.int (Int32.ofNat (48 + 24 % 10))) ∈ flatC (Jvm.Cond.and given_1 narrow_1) := List.mem_of_getElem? (i := 36) (by decide +kernel)
theorem dg0_25 : Cond.eq (.elem (.static "java/lang/Integer" "DigitOnes" "[B") (.int (Int32.ofNat 25))) (.int (Int32.ofNat (48 + 25 % 10))) ∈ flatC (Jvm.Cond.and given_1 narrow_1) := List.mem_of_getElem? (i := 37) (by decide +kernel)
theorem dg0_26 : Cond.eq (.elem (.static "java/lang/Integer" "DigitOnes" "[B") (.int (Int32.ofNat 26))) (.int (Int32.ofNat (48 + 26 % 10))) ∈ flatC (Jvm.Cond.and given_1 narrow_1) := List.mem_of_getElem? (i := 38) (by decide +kernel)
theorem dg0_27 : Cond.eq (.elem (.static "java/lang/Integer" "DigitOnes" "[B") (.int (Int32.ofNat 27))) (.int (Int32.ofNat (48 + 27 % 10))) ∈ flatC (Jvm.Cond.and given_1 narrow_1) := List.mem_of_getElem? (i := 39) (by decide +kernel)
theorem dg0_28 : Cond.eq (.elem (.static "java/lang/Integer" "DigitOnes" "[B") (.int (Int32.ofNat 28))) (.int (Int32.ofNat (48 + 28 % 10))) ∈ flatC (Jvm.Cond.and given_1 narrow_1) := List.mem_of_getElem? (i := 40) (by decide +kernel)
theorem dg0_29 : Cond.eq (.elem (.static "java/lang/Integer" "DigitOnes" "[B") (.int (Int32.ofNat 29))) (.int (Int32.ofNat (48 + 29 % 10))) ∈ flatC (Jvm.Cond.and given_1 narrow_1) := List.mem_of_getElem? (i := 41) (by decide +kernel)
theorem dg0_30 : Cond.eq (.elem (.static "java/lang/Integer" "DigitOnes" "[B") (.int (Int32.ofNat 30))) (.int (Int32.ofNat (48 + 30 % 10))) ∈ flatC (Jvm.Cond.and given_1 narrow_1) := List.mem_of_getElem? (i := 42) (by decide +kernel)
theorem dg0_31 : Cond.eq (.elem (.static "java/lang/Integer" "DigitOnes" "[B") (.int (Int32.ofNat 31))) (.int (Int32.ofNat (48 + 31 % 10))) ∈ flatC (Jvm.Cond.and given_1 narrow_1) := List.mem_of_getElem? (i := 43) (by decide +kernel)
theorem dg0_32 : Cond.eq (.elem (.static "java/lang/Integer" "DigitOnes" "[B") (.int (Int32.ofNat 32))) (.int (Int32.ofNat (48 + 32 % 10))) ∈ flatC (Jvm.Cond.and given_1 narrow_1) := List.mem_of_getElem? (i := 44) (by decide +kernel)
theorem dg0_33 : Cond.eq (.elem (.static "java/lang/Integer" "DigitOnes" "[B") (.int (Int32.ofNat 33))) (.int (Int32.ofNat (48 + 33 % 10))) ∈ flatC (Jvm.Cond.and given_1 narrow_1) := List.mem_of_getElem? (i := 45) (by decide +kernel)
theorem dg0_34 : Cond.eq (.elem (.static "java/lang/Integer" "DigitOnes" "[B") (.int (Int32.ofNat 34))) (.int (Int32.ofNat (48 + 34 % 10))) ∈ flatC (Jvm.Cond.and given_1 narrow_1) := List.mem_of_getElem? (i := 46) (by decide +kernel)
theorem dg0_35 : Cond.eq (.elem (.static "java/lang/Integer" "DigitOnes" "[B") (.int (Int32.ofNat 35))) (.int (Int32.ofNat (48 + 35 % 10))) ∈ flatC (Jvm.Cond.and given_1 narrow_1) := List.mem_of_getElem? (i := 47) (by decide +kernel)
theorem dg0_36 : Cond.eq (.elem (.static "java/lang/Integer" "DigitOnes" "[B") (.int (Int32.ofNat 36))) (.int (Int32.ofNat (48 + 36 % 10))) ∈ flatC (Jvm.Cond.and given_1 narrow_1) := List.mem_of_getElem? (i := 48) (by decide +kernel)
theorem dg0_37 : Cond.eq (.elem (.static "java/lang/Integer" "DigitOnes" "[B") (.int (Int32.ofNat 37))) (.int (Int32.ofNat (48 + 37 % 10))) ∈ flatC (Jvm.Cond.and given_1 narrow_1) := List.mem_of_getElem? (i := 49) (by decide +kernel)
theorem dg0_38 : Cond.eq (.elem (.static "java/lang/Integer" "DigitOnes" "[B") (.int (Int32.ofNat 38))) (.int (Int32.ofNat (48 + 38 % 10))) ∈ flatC (Jvm.Cond.and given_1 narrow_1) := List.mem_of_getElem? (i := 50) (by decide +kernel)
theorem dg0_39 : Cond.eq (.elem (.static "java/lang/Integer" "DigitOnes" "[B") (.int (Int32.ofNat 39))) (.int (Int32.ofNat (48 + 39 % 10))) ∈ flatC (Jvm.Cond.and given_1 narrow_1) := List.mem_of_getElem? (i := 51) (by decide +kernel)
theorem dg0_40 : Cond.eq (.elem (.static "java/lang/Integer" "DigitOnes" "[B") (.int (Int32.ofNat 40))) (.int (Int32.ofNat (48 + 40 % 10))) ∈ flatC (Jvm.Cond.and given_1 narrow_1) := List.mem_of_getElem? (i := 52) (by decide +kernel)
theorem dg0_41 : Cond.eq (.elem (.static "java/lang/Integer" "DigitOnes" "[B") (.int (Int32.ofNat 41))) (.int (Int32.ofNat (48 + 41 % 10))) ∈ flatC (Jvm.Cond.and given_1 narrow_1) := List.mem_of_getElem? (i := 53) (by decide +kernel)
theorem dg0_42 : Cond.eq (.elem (.static "java/lang/Integer" "DigitOnes" "[B") (.int (Int32.ofNat 42))) (.int (Int32.ofNat (48 + 42 % 10))) ∈ flatC (Jvm.Cond.and given_1 narrow_1) := List.mem_of_getElem? (i := 54) (by decide +kernel)
theorem dg0_43 : Cond.eq (.elem (.static "java/lang/Integer" "DigitOnes" "[B") (.int (Int32.ofNat 43))) (.int (Int32.ofNat (48 + 43 % 10))) ∈ flatC (Jvm.Cond.and given_1 narrow_1) := List.mem_of_getElem? (i := 55) (by decide +kernel)
theorem dg0_44 : Cond.eq (.elem (.static "java/lang/Integer" "DigitOnes" "[B") (.int (Int32.ofNat 44))) (.int (Int32.ofNat (48 + 44 % 10))) ∈ flatC (Jvm.Cond.and given_1 narrow_1) := List.mem_of_getElem? (i := 56) (by decide +kernel)
theorem dg0_45 : Cond.eq (.elem (.static "java/lang/Integer" "DigitOnes" "[B") (.int (Int32.ofNat 45))) (.int (Int32.ofNat (48 + 45 % 10))) ∈ flatC (Jvm.Cond.and given_1 narrow_1) := List.mem_of_getElem? (i := 57) (by decide +kernel)
theorem dg0_46 : Cond.eq (.elem (.static "java/lang/Integer" "DigitOnes" "[B") (.int (Int32.ofNat 46))) (.int (Int32.ofNat (48 + 46 % 10))) ∈ flatC (Jvm.Cond.and given_1 narrow_1) := List.mem_of_getElem? (i := 58) (by decide +kernel)
theorem dg0_47 : Cond.eq (.elem (.static "java/lang/Integer" "DigitOnes" "[B") (.int (Int32.ofNat 47))) (.int (Int32.ofNat (48 + 47 % 10))) ∈ flatC (Jvm.Cond.and given_1 narrow_1) := List.mem_of_getElem? (i := 59) (by decide +kernel)
theorem dg0_48 : Cond.eq (.elem (.static "java/lang/Integer" "DigitOnes" "[B") (.int (Int32.ofNat 48))) (.int (Int32.ofNat (48 + 48 % 10))) ∈ flatC (Jvm.Cond.and given_1 narrow_1) := List.mem_of_getElem? (i := 60) (by decide +kernel)
theorem dg0_49 : Cond.eq (.elem (.static "java/lang/Integer" "DigitOnes" "[B") (.int (Int32.ofNat 49))) (.int (Int32.ofNat (48 + 49 % 10))) ∈ flatC (Jvm.Cond.and given_1 narrow_1) := List.mem_of_getElem? (i := 61) (by decide +kernel)
theorem dg0_50 : Cond.eq (.elem (.static "java/lang/Integer" "DigitOnes" "[B") (.int (Int32.ofNat 50))) (.int (Int32.ofNat (48 + 50 % 10))) ∈ flatC (Jvm.Cond.and given_1 narrow_1) := List.mem_of_getElem? (i := 62) (by decide +kernel)
theorem dg0_51 : Cond.eq (.elem (.static "java/lang/Integer" "DigitOnes" "[B") (.int (Int32.ofNat 51))) (.int (Int32.ofNat (48 + 51 % 10))) ∈ flatC (Jvm.Cond.and given_1 narrow_1) := List.mem_of_getElem? (i := 63) (by decide +kernel)
theorem dg0_52 : Cond.eq (.elem (.static "java/lang/Integer" "DigitOnes" "[B") (.int (Int32.ofNat 52))) (.int (Int32.ofNat (48 + 52 % 10))) ∈ flatC (Jvm.Cond.and given_1 narrow_1) := List.mem_of_getElem? (i := 64) (by decide +kernel)
theorem dg0_53 : Cond.eq (.elem (.static "java/lang/Integer" "DigitOnes" "[B") (.int (Int32.ofNat 53))) (.int (Int32.ofNat (48 + 53 % 10))) ∈ flatC (Jvm.Cond.and given_1 narrow_1) := List.mem_of_getElem? (i := 65) (by decide +kernel)
theorem dg0_54 : Cond.eq (.elem (.static "java/lang/Integer" "DigitOnes" "[B") (.int (Int32.ofNat 54))) (.int (Int32.ofNat (48 + 54 % 10))) ∈ flatC (Jvm.Cond.and given_1 narrow_1) := List.mem_of_getElem? (i := 66) (by decide +kernel)
theorem dg0_55 : Cond.eq (.elem (.static "java/lang/Integer" "DigitOnes" "[B") (.int (Int32.ofNat 55))) (.int (Int32.ofNat (48 + 55 % 10))) ∈ flatC (Jvm.Cond.and given_1 narrow_1) := List.mem_of_getElem? (i := 67) (by decide +kernel)
theorem dg0_56 : Cond.eq (.elem (.static "java/lang/Integer" "DigitOnes" "[B") (.int (Int32.ofNat 56))) (.int (Int32.ofNat (48 + 56 % 10))) ∈ flatC (Jvm.Cond.and given_1 narrow_1) := List.mem_of_getElem? (i := 68) (by decide +kernel)
theorem dg0_57 : Cond.eq (.elem (.static "java/lang/Integer" "DigitOnes" "[B") (.int (Int32.ofNat 57))) (.int (Int32.ofNat (48 + 57 % 10))) ∈ flatC (Jvm.Cond.and given_1 narrow_1) := List.mem_of_getElem? (i := 69) (by decide +kernel)
theorem dg0_58 : Cond.eq (.elem (.static "java/lang/Integer" "DigitOnes" "[B") (.int (Int32.ofNat 58))) (.int (Int32.ofNat (48 + 58 % 10))) ∈ flatC (Jvm.Cond.and given_1 narrow_1) := List.mem_of_getElem? (i := 70) (by decide +kernel)
theorem dg0_59 : Cond.eq (.elem (.static "java/lang/Integer" "DigitOnes" "[B") (.int (Int32.ofNat 59))) (.int (Int32.ofNat (48 + 59 % 10))) ∈ flatC (Jvm.Cond.and given_1 narrow_1) := List.mem_of_getElem? (i := 71) (by decide +kernel)
theorem dg0_60 : Cond.eq (.elem (.static "java/lang/Integer" "DigitOnes" "[B") (.int (Int32.ofNat 60))) (.int (Int32.ofNat (48 + 60 % 10))) ∈ flatC (Jvm.Cond.and given_1 narrow_1) := List.mem_of_getElem? (i := 72) (by decide +kernel)
theorem dg0_61 : Cond.eq (.elem (.static "java/lang/Integer" "DigitOnes" "[B") (.int (Int32.ofNat 61))) (.int (Int32.ofNat (48 + 61 % 10))) ∈ flatC (Jvm.Cond.and given_1 narrow_1) := List.mem_of_getElem? (i := 73) (by decide +kernel)
theorem dg0_62 : Cond.eq (.elem (.static "java/lang/Integer" "DigitOnes" "[B") (.int (Int32.ofNat 62))) (.int (Int32.ofNat (48 + 62 % 10))) ∈ flatC (Jvm.Cond.and given_1 narrow_1) := List.mem_of_getElem? (i := 74) (by decide +kernel)
theorem dg0_63 : Cond.eq (.elem (.static "java/lang/Integer" "DigitOnes" "[B") (.int (Int32.ofNat 63))) (.int (Int32.ofNat (48 + 63 % 10))) ∈ flatC (Jvm.Cond.and given_1 narrow_1) := List.mem_of_getElem? (i := 75) (by decide +kernel)
theorem dg0_64 : Cond.eq (.elem (.static "java/lang/Integer" "DigitOnes" "[B") (.int (Int32.ofNat 64))) (.int (Int32.ofNat (48 + 64 % 10))) ∈ flatC (Jvm.Cond.and given_1 narrow_1) := List.mem_of_getElem? (i := 76) (by decide +kernel)
theorem dg0_65 : Cond.eq (.elem (.static "java/lang/Integer" "DigitOnes" "[B") (.int (Int32.ofNat 65))) (.int (Int32.ofNat (48 + 65 % 10))) ∈ flatC (Jvm.Cond.and given_1 narrow_1) := List.mem_of_getElem? (i := 77) (by decide +kernel)
theorem dg0_66 : Cond.eq (.elem (.static "java/lang/Integer" "DigitOnes" "[B") (.int (Int32.ofNat 66))) (.int (Int32.ofNat (48 + 66 % 10))) ∈ flatC (Jvm.Cond.and given_1 narrow_1) := List.mem_of_getElem? (i := 78) (by decide +kernel)
theorem dg0_67 : Cond.eq (.elem (.static "java/lang/Integer" "DigitOnes" "[B") (.int (Int32.ofNat 67))) (.int (Int32.ofNat (48 + 67 % 10))) ∈ flatC (Jvm.Cond.and given_1 narrow_1) := List.mem_of_getElem? (i := 79) (by decide +kernel)
theorem dg0_68 : Cond.eq (.elem (.static "java/lang/Integer" "DigitOnes" "[B") (.int (Int32.ofNat 68))) (.int (Int32.ofNat (48 + 68 % 10))) ∈ flatC (Jvm.Cond.and given_1 narrow_1) := List.mem_of_getElem? (i := 80) (by decide +kernel)
theorem dg0_69 : Cond.eq (.elem (.static "java/lang/Integer" "DigitOnes" "[B") (.int (Int32.ofNat 69))) (.int (Int32.ofNat (48 + 69 % 10))) ∈ flatC (Jvm.Cond.and given_1 narrow_1) := List.mem_of_getElem? (i := 81) (by decide +kernel)
theorem dg0_70 : Cond.eq (.elem (.static "java/lang/Integer" "DigitOnes" "[B") (.int (Int32.ofNat 70))) (.int (Int32.ofNat (48 + 70 % 10))) ∈ flatC (Jvm.Cond.and given_1 narrow_1) := List.mem_of_getElem? (i := 82) (by decide +kernel)
theorem dg0_71 : Cond.eq (.elem (.static "java/lang/Integer" "DigitOnes" "[B") (.int (Int32.ofNat 71))) (.int (Int32.ofNat (48 + 71 % 10))) ∈ flatC (Jvm.Cond.and given_1 narrow_1) := List.mem_of_getElem? (i := 83) (by decide +kernel)
theorem dg0_72 : Cond.eq (.elem (.static "java/lang/Integer" "DigitOnes" "[B") (.int (Int32.ofNat 72))) (.int (Int32.ofNat (48 + 72 % 10))) ∈ flatC (Jvm.Cond.and given_1 narrow_1) := List.mem_of_getElem? (i := 84) (by decide +kernel)
theorem dg0_73 : Cond.eq (.elem (.static "java/lang/Integer" "DigitOnes" "[B") (.int (Int32.ofNat 73))) (.int (Int32.ofNat (48 + 73 % 10))) ∈ flatC (Jvm.Cond.and given_1 narrow_1) := List.mem_of_getElem? (i := 85) (by decide +kernel)
theorem dg0_74 : Cond.eq (.elem (.static "java/lang/Integer" "DigitOnes" "[B") (.int (Int32.ofNat 74))) (.int (Int32.ofNat (48 + 74 % 10))) ∈ flatC (Jvm.Cond.and given_1 narrow_1) := List.mem_of_getElem? (i := 86) (by decide +kernel)
theorem dg0_75 : Cond.eq (.elem (.static "java/lang/Integer" "DigitOnes" "[B") (.int (Int32.ofNat 75))) (.int (Int32.ofNat (48 + 75 % 10))) ∈ flatC (Jvm.Cond.and given_1 narrow_1) := List.mem_of_getElem? (i := 87) (by decide +kernel)
theorem dg0_76 : Cond.eq (.elem (.static "java/lang/Integer" "DigitOnes" "[B") (.int (Int32.ofNat 76))) (.int (Int32.ofNat (48 + 76 % 10))) ∈ flatC (Jvm.Cond.and given_1 narrow_1) := List.mem_of_getElem? (i := 88) (by decide +kernel)
theorem dg0_77 : Cond.eq (.elem (.static "java/lang/Integer" "DigitOnes" "[B") (.int (Int32.ofNat 77))) (.int (Int32.ofNat (48 + 77 % 10))) ∈ flatC (Jvm.Cond.and given_1 narrow_1) := List.mem_of_getElem? (i := 89) (by decide +kernel)
theorem dg0_78 : Cond.eq (.elem (.static "java/lang/Integer" "DigitOnes" "[B") (.int (Int32.ofNat 78))) (.int (Int32.ofNat (48 + 78 % 10))) ∈ flatC (Jvm.Cond.and given_1 narrow_1) := List.mem_of_getElem? (i := 90) (by decide +kernel)
theorem dg0_79 : Cond.eq (.elem (.static "java/lang/Integer" "DigitOnes" "[B") (.int (Int32.ofNat 79))) (.int (Int32.ofNat (48 + 79 % 10))) ∈ flatC (Jvm.Cond.and given_1 narrow_1) := List.mem_of_getElem? (i := 91) (by decide +kernel)
theorem dg0_80 : Cond.eq (.elem (.static "java/lang/Integer" "DigitOnes" "[B") (.int (Int32.ofNat 80))) (.int (Int32.ofNat (48 + 80 % 10))) ∈ flatC (Jvm.Cond.and given_1 narrow_1) := List.mem_of_getElem? (i := 92) (by decide +kernel)
theorem dg0_81 : Cond.eq (.elem (.static "java/lang/Integer" "DigitOnes" "[B") (.int (Int32.ofNat 81))) (.int (Int32.ofNat (48 + 81 % 10))) ∈ flatC (Jvm.Cond.and given_1 narrow_1) := List.mem_of_getElem? (i := 93) (by decide +kernel)
theorem dg0_82 : Cond.eq (.elem (.static "java/lang/Integer" "DigitOnes" "[B") (.int (Int32.ofNat 82))) (.int (Int32.ofNat (48 + 82 % 10))) ∈ flatC (Jvm.Cond.and given_1 narrow_1) := List.mem_of_getElem? (i := 94) (by decide +kernel)
theorem dg0_83 : Cond.eq (.elem (.static "java/lang/Integer" "DigitOnes" "[B") (.int (Int32.ofNat 83))) (.int (Int32.ofNat (48 + 83 % 10))) ∈ flatC (Jvm.Cond.and given_1 narrow_1) := List.mem_of_getElem? (i := 95) (by decide +kernel)
theorem dg0_84 : Cond.eq (.elem (.static "java/lang/Integer" "DigitOnes" "[B") (.int (Int32.ofNat 84))) (.int (Int32.ofNat (48 + 84 % 10))) ∈ flatC (Jvm.Cond.and given_1 narrow_1) := List.mem_of_getElem? (i := 96) (by decide +kernel)
theorem dg0_85 : Cond.eq (.elem (.static "java/lang/Integer" "DigitOnes" "[B") (.int (Int32.ofNat 85))) (.int (Int32.ofNat (48 + 85 % 10))) ∈ flatC (Jvm.Cond.and given_1 narrow_1) := List.mem_of_getElem? (i := 97) (by decide +kernel)
theorem dg0_86 : Cond.eq (.elem (.static "java/lang/Integer" "DigitOnes" "[B") (.int (Int32.ofNat 86))) (.int (Int32.ofNat (48 + 86 % 10))) ∈ flatC (Jvm.Cond.and given_1 narrow_1) := List.mem_of_getElem? (i := 98) (by decide +kernel)
theorem dg0_87 : Cond.eq (.elem (.static "java/lang/Integer" "DigitOnes" "[B") (.int (Int32.ofNat 87))) (.int (Int32.ofNat (48 + 87 % 10))) ∈ flatC (Jvm.Cond.and given_1 narrow_1) := List.mem_of_getElem? (i := 99) (by decide +kernel)
theorem dg0_88 : Cond.eq (.elem (.static "java/lang/Integer" "DigitOnes" "[B") (.int (Int32.ofNat 88))) (.int (Int32.ofNat (48 + 88 % 10))) ∈ flatC (Jvm.Cond.and given_1 narrow_1) := List.mem_of_getElem? (i := 100) (by decide +kernel)
theorem dg0_89 : Cond.eq (.elem (.static "java/lang/Integer" "DigitOnes" "[B") (.int (Int32.ofNat 89))) (.int (Int32.ofNat (48 + 89 % 10))) ∈ flatC (Jvm.Cond.and given_1 narrow_1) := List.mem_of_getElem? (i := 101) (by decide +kernel)
theorem dg0_90 : Cond.eq (.elem (.static "java/lang/Integer" "DigitOnes" "[B") (.int (Int32.ofNat 90))) (.int (Int32.ofNat (48 + 90 % 10))) ∈ flatC (Jvm.Cond.and given_1 narrow_1) := List.mem_of_getElem? (i := 102) (by decide +kernel)
theorem dg0_91 : Cond.eq (.elem (.static "java/lang/Integer" "DigitOnes" "[B") (.int (Int32.ofNat 91))) (.int (Int32.ofNat (48 + 91 % 10))) ∈ flatC (Jvm.Cond.and given_1 narrow_1) := List.mem_of_getElem? (i := 103) (by decide +kernel)
theorem dg0_92 : Cond.eq (.elem (.static "java/lang/Integer" "DigitOnes" "[B") (.int (Int32.ofNat 92))) (.int (Int32.ofNat (48 + 92 % 10))) ∈ flatC (Jvm.Cond.and given_1 narrow_1) := List.mem_of_getElem? (i := 104) (by decide +kernel)
theorem dg0_93 : Cond.eq (.elem (.static "java/lang/Integer" "DigitOnes" "[B") (.int (Int32.ofNat 93))) (.int (Int32.ofNat (48 + 93 % 10))) ∈ flatC (Jvm.Cond.and given_1 narrow_1) := List.mem_of_getElem? (i := 105) (by decide +kernel)
theorem dg0_94 : Cond.eq (.elem (.static "java/lang/Integer" "DigitOnes" "[B") (.int (Int32.ofNat 94))) (.int (Int32.ofNat (48 + 94 % 10))) ∈ flatC (Jvm.Cond.and given_1 narrow_1) := List.mem_of_getElem? (i := 106) (by decide +kernel)
theorem dg0_95 : Cond.eq (.elem (.static "java/lang/Integer" "DigitOnes" "[B") (.int (Int32.ofNat 95))) (.int (Int32.ofNat (48 + 95 % 10))) ∈ flatC (Jvm.Cond.and given_1 narrow_1) := List.mem_of_getElem? (i := 107) (by decide +kernel)
theorem dg0_96 : Cond.eq (.elem (.static "java/lang/Integer" "DigitOnes" "[B") (.int (Int32.ofNat 96))) (.int (Int32.ofNat (48 + 96 % 10))) ∈ flatC (Jvm.Cond.and given_1 narrow_1) := List.mem_of_getElem? (i := 108) (by decide +kernel)
theorem dg0_97 : Cond.eq (.elem (.static "java/lang/Integer" "DigitOnes" "[B") (.int (Int32.ofNat 97))) (.int (Int32.ofNat (48 + 97 % 10))) ∈ flatC (Jvm.Cond.and given_1 narrow_1) := List.mem_of_getElem? (i := 109) (by decide +kernel)
theorem dg0_98 : Cond.eq (.elem (.static "java/lang/Integer" "DigitOnes" "[B") (.int (Int32.ofNat 98))) (.int (Int32.ofNat (48 + 98 % 10))) ∈ flatC (Jvm.Cond.and given_1 narrow_1) := List.mem_of_getElem? (i := 110) (by decide +kernel)
theorem dg0_99 : Cond.eq (.elem (.static "java/lang/Integer" "DigitOnes" "[B") (.int (Int32.ofNat 99))) (.int (Int32.ofNat (48 + 99 % 10))) ∈ flatC (Jvm.Cond.and given_1 narrow_1) := List.mem_of_getElem? (i := 111) (by decide +kernel)
theorem dg_el0 : ∀ j, j < 100 → Cond.eq (.elem (.static "java/lang/Integer" "DigitOnes" "[B") (.int (Int32.ofNat j))) (.int (Int32.ofNat (48 + j % 10))) ∈ flatC (Jvm.Cond.and given_1 narrow_1) := fun j hj => by
  match j, hj with
  | 0, _ => exact dg0_0
  | 1, _ => exact dg0_1
  | 2, _ => exact dg0_2
  | 3, _ => exact dg0_3
  | 4, _ => exact dg0_4
  | 5, _ => exact dg0_5
  | 6, _ => exact dg0_6
  | 7, _ => exact dg0_7
  | 8, _ => exact dg0_8
  | 9, _ => exact dg0_9
  | 10, _ => exact dg0_10
  | 11, _ => exact dg0_11
  | 12, _ => exact dg0_12
  | 13, _ => exact dg0_13
  | 14, _ => exact dg0_14
  | 15, _ => exact dg0_15
  | 16, _ => exact dg0_16
  | 17, _ => exact dg0_17
  | 18, _ => exact dg0_18
  | 19, _ => exact dg0_19
  | 20, _ => exact dg0_20
  | 21, _ => exact dg0_21
  | 22, _ => exact dg0_22
  | 23, _ => exact dg0_23
  | 24, _ => exact dg0_24
  | 25, _ => exact dg0_25
  | 26, _ => exact dg0_26
  | 27, _ => exact dg0_27
  | 28, _ => exact dg0_28
  | 29, _ => exact dg0_29
  | 30, _ => exact dg0_30
  | 31, _ => exact dg0_31
  | 32, _ => exact dg0_32
  | 33, _ => exact dg0_33
  | 34, _ => exact dg0_34
  | 35, _ => exact dg0_35
  | 36, _ => exact dg0_36
  | 37, _ => exact dg0_37
  | 38, _ => exact dg0_38
  | 39, _ => exact dg0_39
  | 40, _ => exact dg0_40
  | 41, _ => exact dg0_41
  | 42, _ => exact dg0_42
  | 43, _ => exact dg0_43
  | 44, _ => exact dg0_44
  | 45, _ => exact dg0_45
  | 46, _ => exact dg0_46
  | 47, _ => exact dg0_47
  | 48, _ => exact dg0_48
  | 49, _ => exact dg0_49
  | 50, _ => exact dg0_50
  | 51, _ => exact dg0_51
  | 52, _ => exact dg0_52
  | 53, _ => exact dg0_53
  | 54, _ => exact dg0_54
  | 55, _ => exact dg0_55
  | 56, _ => exact dg0_56
  | 57, _ => exact dg0_57
  | 58, _ => exact dg0_58
  | 59, _ => exact dg0_59
  | 60, _ => exact dg0_60
  | 61, _ => exact dg0_61
  | 62, _ => exact dg0_62
  | 63, _ => exact dg0_63
  | 64, _ => exact dg0_64
  | 65, _ => exact dg0_65
  | 66, _ => exact dg0_66
  | 67, _ => exact dg0_67
  | 68, _ => exact dg0_68
  | 69, _ => exact dg0_69
  | 70, _ => exact dg0_70
  | 71, _ => exact dg0_71
  | 72, _ => exact dg0_72
  | 73, _ => exact dg0_73
  | 74, _ => exact dg0_74
  | 75, _ => exact dg0_75
  | 76, _ => exact dg0_76
  | 77, _ => exact dg0_77
  | 78, _ => exact dg0_78
  | 79, _ => exact dg0_79
  | 80, _ => exact dg0_80
  | 81, _ => exact dg0_81
  | 82, _ => exact dg0_82
  | 83, _ => exact dg0_83
  | 84, _ => exact dg0_84
  | 85, _ => exact dg0_85
  | 86, _ => exact dg0_86
  | 87, _ => exact dg0_87
  | 88, _ => exact dg0_88
  | 89, _ => exact dg0_89
  | 90, _ => exact dg0_90
  | 91, _ => exact dg0_91
  | 92, _ => exact dg0_92
  | 93, _ => exact dg0_93
  | 94, _ => exact dg0_94
  | 95, _ => exact dg0_95
  | 96, _ => exact dg0_96
  | 97, _ => exact dg0_97
  | 98, _ => exact dg0_98
  | 99, _ => exact dg0_99
  | j + 100, h => exact absurd h (by omega)
theorem dg1_0 : Cond.eq (.elem (.static "java/lang/Integer" "DigitTens" "[B") (.int (Int32.ofNat 0))) (.int (Int32.ofNat (48 + 0 / 10))) ∈ flatC (Jvm.Cond.and given_1 narrow_1) := List.mem_of_getElem? (i := 115) (by decide +kernel)
theorem dg1_1 : Cond.eq (.elem (.static "java/lang/Integer" "DigitTens" "[B") (.int (Int32.ofNat 1))) (.int (Int32.ofNat (48 + 1 / 10))) ∈ flatC (Jvm.Cond.and given_1 narrow_1) := List.mem_of_getElem? (i := 116) (by decide +kernel)
theorem dg1_2 : Cond.eq (.elem (.static "java/lang/Integer" "DigitTens" "[B") (.int (Int32.ofNat 2))) (.int (Int32.ofNat (48 + 2 / 10))) ∈ flatC (Jvm.Cond.and given_1 narrow_1) := List.mem_of_getElem? (i := 117) (by decide +kernel)
theorem dg1_3 : Cond.eq (.elem (.static "java/lang/Integer" "DigitTens" "[B") (.int (Int32.ofNat 3))) (.int (Int32.ofNat (48 + 3 / 10))) ∈ flatC (Jvm.Cond.and given_1 narrow_1) := List.mem_of_getElem? (i := 118) (by decide +kernel)
theorem dg1_4 : Cond.eq (.elem (.static "java/lang/Integer" "DigitTens" "[B") (.int (Int32.ofNat 4))) (.int (Int32.ofNat (48 + 4 / 10))) ∈ flatC (Jvm.Cond.and given_1 narrow_1) := List.mem_of_getElem? (i := 119) (by decide +kernel)
theorem dg1_5 : Cond.eq (.elem (.static "java/lang/Integer" "DigitTens" "[B") (.int (Int32.ofNat 5))) (.int (Int32.ofNat (48 + 5 / 10))) ∈ flatC (Jvm.Cond.and given_1 narrow_1) := List.mem_of_getElem? (i := 120) (by decide +kernel)
theorem dg1_6 : Cond.eq (.elem (.static "java/lang/Integer" "DigitTens" "[B") (.int (Int32.ofNat 6))) (.int (Int32.ofNat (48 + 6 / 10))) ∈ flatC (Jvm.Cond.and given_1 narrow_1) := List.mem_of_getElem? (i := 121) (by decide +kernel)
theorem dg1_7 : Cond.eq (.elem (.static "java/lang/Integer" "DigitTens" "[B") (.int (Int32.ofNat 7))) (.int (Int32.ofNat (48 + 7 / 10))) ∈ flatC (Jvm.Cond.and given_1 narrow_1) := List.mem_of_getElem? (i := 122) (by decide +kernel)
theorem dg1_8 : Cond.eq (.elem (.static "java/lang/Integer" "DigitTens" "[B") (.int (Int32.ofNat 8))) (.int (Int32.ofNat (48 + 8 / 10))) ∈ flatC (Jvm.Cond.and given_1 narrow_1) := List.mem_of_getElem? (i := 123) (by decide +kernel)
theorem dg1_9 : Cond.eq (.elem (.static "java/lang/Integer" "DigitTens" "[B") (.int (Int32.ofNat 9))) (.int (Int32.ofNat (48 + 9 / 10))) ∈ flatC (Jvm.Cond.and given_1 narrow_1) := List.mem_of_getElem? (i := 124) (by decide +kernel)
theorem dg1_10 : Cond.eq (.elem (.static "java/lang/Integer" "DigitTens" "[B") (.int (Int32.ofNat 10))) (.int (Int32.ofNat (48 + 10 / 10))) ∈ flatC (Jvm.Cond.and given_1 narrow_1) := List.mem_of_getElem? (i := 125) (by decide +kernel)
theorem dg1_11 : Cond.eq (.elem (.static "java/lang/Integer" "DigitTens" "[B") (.int (Int32.ofNat 11))) (.int (Int32.ofNat (48 + 11 / 10))) ∈ flatC (Jvm.Cond.and given_1 narrow_1) := List.mem_of_getElem? (i := 126) (by decide +kernel)
theorem dg1_12 : Cond.eq (.elem (.static "java/lang/Integer" "DigitTens" "[B") (.int (Int32.ofNat 12))) (.int (Int32.ofNat (48 + 12 / 10))) ∈ flatC (Jvm.Cond.and given_1 narrow_1) := List.mem_of_getElem? (i := 127) (by decide +kernel)
theorem dg1_13 : Cond.eq (.elem (.static "java/lang/Integer" "DigitTens" "[B") (.int (Int32.ofNat 13))) (.int (Int32.ofNat (48 + 13 / 10))) ∈ flatC (Jvm.Cond.and given_1 narrow_1) := List.mem_of_getElem? (i := 128) (by decide +kernel)
theorem dg1_14 : Cond.eq (.elem (.static "java/lang/Integer" "DigitTens" "[B") (.int (Int32.ofNat 14))) (.int (Int32.ofNat (48 + 14 / 10))) ∈ flatC (Jvm.Cond.and given_1 narrow_1) := List.mem_of_getElem? (i := 129) (by decide +kernel)
theorem dg1_15 : Cond.eq (.elem (.static "java/lang/Integer" "DigitTens" "[B") (.int (Int32.ofNat 15))) (.int (Int32.ofNat (48 + 15 / 10))) ∈ flatC (Jvm.Cond.and given_1 narrow_1) := List.mem_of_getElem? (i := 130) (by decide +kernel)
theorem dg1_16 : Cond.eq (.elem (.static "java/lang/Integer" "DigitTens" "[B") (.int (Int32.ofNat 16))) (.int (Int32.ofNat (48 + 16 / 10))) ∈ flatC (Jvm.Cond.and given_1 narrow_1) := List.mem_of_getElem? (i := 131) (by decide +kernel)
theorem dg1_17 : Cond.eq (.elem (.static "java/lang/Integer" "DigitTens" "[B") (.int (Int32.ofNat 17))) (.int (Int32.ofNat (48 + 17 / 10))) ∈ flatC (Jvm.Cond.and given_1 narrow_1) := List.mem_of_getElem? (i := 132) (by decide +kernel)
theorem dg1_18 : Cond.eq (.elem (.static "java/lang/Integer" "DigitTens" "[B") (.int (Int32.ofNat 18))) (.int (Int32.ofNat (48 + 18 / 10))) ∈ flatC (Jvm.Cond.and given_1 narrow_1) := List.mem_of_getElem? (i := 133) (by decide +kernel)
theorem dg1_19 : Cond.eq (.elem (.static "java/lang/Integer" "DigitTens" "[B") (.int (Int32.ofNat 19))) (.int (Int32.ofNat (48 + 19 / 10))) ∈ flatC (Jvm.Cond.and given_1 narrow_1) := List.mem_of_getElem? (i := 134) (by decide +kernel)
theorem dg1_20 : Cond.eq (.elem (.static "java/lang/Integer" "DigitTens" "[B") (.int (Int32.ofNat 20))) (.int (Int32.ofNat (48 + 20 / 10))) ∈ flatC (Jvm.Cond.and given_1 narrow_1) := List.mem_of_getElem? (i := 135) (by decide +kernel)
theorem dg1_21 : Cond.eq (.elem (.static "java/lang/Integer" "DigitTens" "[B") (.int (Int32.ofNat 21))) (.int (Int32.ofNat (48 + 21 / 10))) ∈ flatC (Jvm.Cond.and given_1 narrow_1) := List.mem_of_getElem? (i := 136) (by decide +kernel)
theorem dg1_22 : Cond.eq (.elem (.static "java/lang/Integer" "DigitTens" "[B") (.int (Int32.ofNat 22))) (.int (Int32.ofNat (48 + 22 / 10))) ∈ flatC (Jvm.Cond.and given_1 narrow_1) := List.mem_of_getElem? (i := 137) (by decide +kernel)
theorem dg1_23 : Cond.eq (.elem (.static "java/lang/Integer" "DigitTens" "[B") (.int (Int32.ofNat 23))) (.int (Int32.ofNat (48 + 23 / 10))) ∈ flatC (Jvm.Cond.and given_1 narrow_1) := List.mem_of_getElem? (i := 138) (by decide +kernel)
theorem dg1_24 : Cond.eq (.elem (.static "java/lang/Integer" "DigitTens" "[B") (.int (Int32.ofNat 24))) (.int (Int32.ofNat (48 + 24 / 10))) ∈ flatC (Jvm.Cond.and given_1 narrow_1) := List.mem_of_getElem? (i := 139) (by decide +kernel)
theorem dg1_25 : Cond.eq (.elem (.static "java/lang/Integer" "DigitTens" "[B") (.int (Int32.ofNat 25))) (.int (Int32.ofNat (48 + 25 / 10))) ∈ flatC (Jvm.Cond.and given_1 narrow_1) := List.mem_of_getElem? (i := 140) (by decide +kernel)
theorem dg1_26 : Cond.eq (.elem (.static "java/lang/Integer" "DigitTens" "[B") (.int (Int32.ofNat 26))) (.int (Int32.ofNat (48 + 26 / 10))) ∈ flatC (Jvm.Cond.and given_1 narrow_1) := List.mem_of_getElem? (i := 141) (by decide +kernel)
theorem dg1_27 : Cond.eq (.elem (.static "java/lang/Integer" "DigitTens" "[B") (.int (Int32.ofNat 27))) (.int (Int32.ofNat (48 + 27 / 10))) ∈ flatC (Jvm.Cond.and given_1 narrow_1) := List.mem_of_getElem? (i := 142) (by decide +kernel)
theorem dg1_28 : Cond.eq (.elem (.static "java/lang/Integer" "DigitTens" "[B") (.int (Int32.ofNat 28))) (.int (Int32.ofNat (48 + 28 / 10))) ∈ flatC (Jvm.Cond.and given_1 narrow_1) := List.mem_of_getElem? (i := 143) (by decide +kernel)
theorem dg1_29 : Cond.eq (.elem (.static "java/lang/Integer" "DigitTens" "[B") (.int (Int32.ofNat 29))) (.int (Int32.ofNat (48 + 29 / 10))) ∈ flatC (Jvm.Cond.and given_1 narrow_1) := List.mem_of_getElem? (i := 144) (by decide +kernel)
theorem dg1_30 : Cond.eq (.elem (.static "java/lang/Integer" "DigitTens" "[B") (.int (Int32.ofNat 30))) (.int (Int32.ofNat (48 + 30 / 10))) ∈ flatC (Jvm.Cond.and given_1 narrow_1) := List.mem_of_getElem? (i := 145) (by decide +kernel)
theorem dg1_31 : Cond.eq (.elem (.static "java/lang/Integer" "DigitTens" "[B") (.int (Int32.ofNat 31))) (.int (Int32.ofNat (48 + 31 / 10))) ∈ flatC (Jvm.Cond.and given_1 narrow_1) := List.mem_of_getElem? (i := 146) (by decide +kernel)
theorem dg1_32 : Cond.eq (.elem (.static "java/lang/Integer" "DigitTens" "[B") (.int (Int32.ofNat 32))) (.int (Int32.ofNat (48 + 32 / 10))) ∈ flatC (Jvm.Cond.and given_1 narrow_1) := List.mem_of_getElem? (i := 147) (by decide +kernel)
theorem dg1_33 : Cond.eq (.elem (.static "java/lang/Integer" "DigitTens" "[B") (.int (Int32.ofNat 33))) (.int (Int32.ofNat (48 + 33 / 10))) ∈ flatC (Jvm.Cond.and given_1 narrow_1) := List.mem_of_getElem? (i := 148) (by decide +kernel)
theorem dg1_34 : Cond.eq (.elem (.static "java/lang/Integer" "DigitTens" "[B") (.int (Int32.ofNat 34))) (.int (Int32.ofNat (48 + 34 / 10))) ∈ flatC (Jvm.Cond.and given_1 narrow_1) := List.mem_of_getElem? (i := 149) (by decide +kernel)
theorem dg1_35 : Cond.eq (.elem (.static "java/lang/Integer" "DigitTens" "[B") (.int (Int32.ofNat 35))) (.int (Int32.ofNat (48 + 35 / 10))) ∈ flatC (Jvm.Cond.and given_1 narrow_1) := List.mem_of_getElem? (i := 150) (by decide +kernel)
theorem dg1_36 : Cond.eq (.elem (.static "java/lang/Integer" "DigitTens" "[B") (.int (Int32.ofNat 36))) (.int (Int32.ofNat (48 + 36 / 10))) ∈ flatC (Jvm.Cond.and given_1 narrow_1) := List.mem_of_getElem? (i := 151) (by decide +kernel)
theorem dg1_37 : Cond.eq (.elem (.static "java/lang/Integer" "DigitTens" "[B") (.int (Int32.ofNat 37))) (.int (Int32.ofNat (48 + 37 / 10))) ∈ flatC (Jvm.Cond.and given_1 narrow_1) := List.mem_of_getElem? (i := 152) (by decide +kernel)
theorem dg1_38 : Cond.eq (.elem (.static "java/lang/Integer" "DigitTens" "[B") (.int (Int32.ofNat 38))) (.int (Int32.ofNat (48 + 38 / 10))) ∈ flatC (Jvm.Cond.and given_1 narrow_1) := List.mem_of_getElem? (i := 153) (by decide +kernel)
theorem dg1_39 : Cond.eq (.elem (.static "java/lang/Integer" "DigitTens" "[B") (.int (Int32.ofNat 39))) (.int (Int32.ofNat (48 + 39 / 10))) ∈ flatC (Jvm.Cond.and given_1 narrow_1) := List.mem_of_getElem? (i := 154) (by decide +kernel)
theorem dg1_40 : Cond.eq (.elem (.static "java/lang/Integer" "DigitTens" "[B") (.int (Int32.ofNat 40))) (.int (Int32.ofNat (48 + 40 / 10))) ∈ flatC (Jvm.Cond.and given_1 narrow_1) := List.mem_of_getElem? (i := 155) (by decide +kernel)
theorem dg1_41 : Cond.eq (.elem (.static "java/lang/Integer" "DigitTens" "[B") (.int (Int32.ofNat 41))) (.int (Int32.ofNat (48 + 41 / 10))) ∈ flatC (Jvm.Cond.and given_1 narrow_1) := List.mem_of_getElem? (i := 156) (by decide +kernel)
theorem dg1_42 : Cond.eq (.elem (.static "java/lang/Integer" "DigitTens" "[B") (.int (Int32.ofNat 42))) (.int (Int32.ofNat (48 + 42 / 10))) ∈ flatC (Jvm.Cond.and given_1 narrow_1) := List.mem_of_getElem? (i := 157) (by decide +kernel)
theorem dg1_43 : Cond.eq (.elem (.static "java/lang/Integer" "DigitTens" "[B") (.int (Int32.ofNat 43))) (.int (Int32.ofNat (48 + 43 / 10))) ∈ flatC (Jvm.Cond.and given_1 narrow_1) := List.mem_of_getElem? (i := 158) (by decide +kernel)
theorem dg1_44 : Cond.eq (.elem (.static "java/lang/Integer" "DigitTens" "[B") (.int (Int32.ofNat 44))) (.int (Int32.ofNat (48 + 44 / 10))) ∈ flatC (Jvm.Cond.and given_1 narrow_1) := List.mem_of_getElem? (i := 159) (by decide +kernel)
theorem dg1_45 : Cond.eq (.elem (.static "java/lang/Integer" "DigitTens" "[B") (.int (Int32.ofNat 45))) (.int (Int32.ofNat (48 + 45 / 10))) ∈ flatC (Jvm.Cond.and given_1 narrow_1) := List.mem_of_getElem? (i := 160) (by decide +kernel)
theorem dg1_46 : Cond.eq (.elem (.static "java/lang/Integer" "DigitTens" "[B") (.int (Int32.ofNat 46))) (.int (Int32.ofNat (48 + 46 / 10))) ∈ flatC (Jvm.Cond.and given_1 narrow_1) := List.mem_of_getElem? (i := 161) (by decide +kernel)
theorem dg1_47 : Cond.eq (.elem (.static "java/lang/Integer" "DigitTens" "[B") (.int (Int32.ofNat 47))) (.int (Int32.ofNat (48 + 47 / 10))) ∈ flatC (Jvm.Cond.and given_1 narrow_1) := List.mem_of_getElem? (i := 162) (by decide +kernel)
theorem dg1_48 : Cond.eq (.elem (.static "java/lang/Integer" "DigitTens" "[B") (.int (Int32.ofNat 48))) (.int (Int32.ofNat (48 + 48 / 10))) ∈ flatC (Jvm.Cond.and given_1 narrow_1) := List.mem_of_getElem? (i := 163) (by decide +kernel)
theorem dg1_49 : Cond.eq (.elem (.static "java/lang/Integer" "DigitTens" "[B") (.int (Int32.ofNat 49))) (.int (Int32.ofNat (48 + 49 / 10))) ∈ flatC (Jvm.Cond.and given_1 narrow_1) := List.mem_of_getElem? (i := 164) (by decide +kernel)
theorem dg1_50 : Cond.eq (.elem (.static "java/lang/Integer" "DigitTens" "[B") (.int (Int32.ofNat 50))) (.int (Int32.ofNat (48 + 50 / 10))) ∈ flatC (Jvm.Cond.and given_1 narrow_1) := List.mem_of_getElem? (i := 165) (by decide +kernel)
theorem dg1_51 : Cond.eq (.elem (.static "java/lang/Integer" "DigitTens" "[B") (.int (Int32.ofNat 51))) (.int (Int32.ofNat (48 + 51 / 10))) ∈ flatC (Jvm.Cond.and given_1 narrow_1) := List.mem_of_getElem? (i := 166) (by decide +kernel)
theorem dg1_52 : Cond.eq (.elem (.static "java/lang/Integer" "DigitTens" "[B") (.int (Int32.ofNat 52))) (.int (Int32.ofNat (48 + 52 / 10))) ∈ flatC (Jvm.Cond.and given_1 narrow_1) := List.mem_of_getElem? (i := 167) (by decide +kernel)
theorem dg1_53 : Cond.eq (.elem (.static "java/lang/Integer" "DigitTens" "[B") (.int (Int32.ofNat 53))) (.int (Int32.ofNat (48 + 53 / 10))) ∈ flatC (Jvm.Cond.and given_1 narrow_1) := List.mem_of_getElem? (i := 168) (by decide +kernel)
theorem dg1_54 : Cond.eq (.elem (.static "java/lang/Integer" "DigitTens" "[B") (.int (Int32.ofNat 54))) (.int (Int32.ofNat (48 + 54 / 10))) ∈ flatC (Jvm.Cond.and given_1 narrow_1) := List.mem_of_getElem? (i := 169) (by decide +kernel)
theorem dg1_55 : Cond.eq (.elem (.static "java/lang/Integer" "DigitTens" "[B") (.int (Int32.ofNat 55))) (.int (Int32.ofNat (48 + 55 / 10))) ∈ flatC (Jvm.Cond.and given_1 narrow_1) := List.mem_of_getElem? (i := 170) (by decide +kernel)
theorem dg1_56 : Cond.eq (.elem (.static "java/lang/Integer" "DigitTens" "[B") (.int (Int32.ofNat 56))) (.int (Int32.ofNat (48 + 56 / 10))) ∈ flatC (Jvm.Cond.and given_1 narrow_1) := List.mem_of_getElem? (i := 171) (by decide +kernel)
theorem dg1_57 : Cond.eq (.elem (.static "java/lang/Integer" "DigitTens" "[B") (.int (Int32.ofNat 57))) (.int (Int32.ofNat (48 + 57 / 10))) ∈ flatC (Jvm.Cond.and given_1 narrow_1) := List.mem_of_getElem? (i := 172) (by decide +kernel)
theorem dg1_58 : Cond.eq (.elem (.static "java/lang/Integer" "DigitTens" "[B") (.int (Int32.ofNat 58))) (.int (Int32.ofNat (48 + 58 / 10))) ∈ flatC (Jvm.Cond.and given_1 narrow_1) := List.mem_of_getElem? (i := 173) (by decide +kernel)
theorem dg1_59 : Cond.eq (.elem (.static "java/lang/Integer" "DigitTens" "[B") (.int (Int32.ofNat 59))) (.int (Int32.ofNat (48 + 59 / 10))) ∈ flatC (Jvm.Cond.and given_1 narrow_1) := List.mem_of_getElem? (i := 174) (by decide +kernel)
theorem dg1_60 : Cond.eq (.elem (.static "java/lang/Integer" "DigitTens" "[B") (.int (Int32.ofNat 60))) (.int (Int32.ofNat (48 + 60 / 10))) ∈ flatC (Jvm.Cond.and given_1 narrow_1) := List.mem_of_getElem? (i := 175) (by decide +kernel)
theorem dg1_61 : Cond.eq (.elem (.static "java/lang/Integer" "DigitTens" "[B") (.int (Int32.ofNat 61))) (.int (Int32.ofNat (48 + 61 / 10))) ∈ flatC (Jvm.Cond.and given_1 narrow_1) := List.mem_of_getElem? (i := 176) (by decide +kernel)
theorem dg1_62 : Cond.eq (.elem (.static "java/lang/Integer" "DigitTens" "[B") (.int (Int32.ofNat 62))) (.int (Int32.ofNat (48 + 62 / 10))) ∈ flatC (Jvm.Cond.and given_1 narrow_1) := List.mem_of_getElem? (i := 177) (by decide +kernel)
theorem dg1_63 : Cond.eq (.elem (.static "java/lang/Integer" "DigitTens" "[B") (.int (Int32.ofNat 63))) (.int (Int32.ofNat (48 + 63 / 10))) ∈ flatC (Jvm.Cond.and given_1 narrow_1) := List.mem_of_getElem? (i := 178) (by decide +kernel)
theorem dg1_64 : Cond.eq (.elem (.static "java/lang/Integer" "DigitTens" "[B") (.int (Int32.ofNat 64))) (.int (Int32.ofNat (48 + 64 / 10))) ∈ flatC (Jvm.Cond.and given_1 narrow_1) := List.mem_of_getElem? (i := 179) (by decide +kernel)
theorem dg1_65 : Cond.eq (.elem (.static "java/lang/Integer" "DigitTens" "[B") (.int (Int32.ofNat 65))) (.int (Int32.ofNat (48 + 65 / 10))) ∈ flatC (Jvm.Cond.and given_1 narrow_1) := List.mem_of_getElem? (i := 180) (by decide +kernel)
theorem dg1_66 : Cond.eq (.elem (.static "java/lang/Integer" "DigitTens" "[B") (.int (Int32.ofNat 66))) (.int (Int32.ofNat (48 + 66 / 10))) ∈ flatC (Jvm.Cond.and given_1 narrow_1) := List.mem_of_getElem? (i := 181) (by decide +kernel)
theorem dg1_67 : Cond.eq (.elem (.static "java/lang/Integer" "DigitTens" "[B") (.int (Int32.ofNat 67))) (.int (Int32.ofNat (48 + 67 / 10))) ∈ flatC (Jvm.Cond.and given_1 narrow_1) := List.mem_of_getElem? (i := 182) (by decide +kernel)
theorem dg1_68 : Cond.eq (.elem (.static "java/lang/Integer" "DigitTens" "[B") (.int (Int32.ofNat 68))) (.int (Int32.ofNat (48 + 68 / 10))) ∈ flatC (Jvm.Cond.and given_1 narrow_1) := List.mem_of_getElem? (i := 183) (by decide +kernel)
theorem dg1_69 : Cond.eq (.elem (.static "java/lang/Integer" "DigitTens" "[B") (.int (Int32.ofNat 69))) (.int (Int32.ofNat (48 + 69 / 10))) ∈ flatC (Jvm.Cond.and given_1 narrow_1) := List.mem_of_getElem? (i := 184) (by decide +kernel)
theorem dg1_70 : Cond.eq (.elem (.static "java/lang/Integer" "DigitTens" "[B") (.int (Int32.ofNat 70))) (.int (Int32.ofNat (48 + 70 / 10))) ∈ flatC (Jvm.Cond.and given_1 narrow_1) := List.mem_of_getElem? (i := 185) (by decide +kernel)
theorem dg1_71 : Cond.eq (.elem (.static "java/lang/Integer" "DigitTens" "[B") (.int (Int32.ofNat 71))) (.int (Int32.ofNat (48 + 71 / 10))) ∈ flatC (Jvm.Cond.and given_1 narrow_1) := List.mem_of_getElem? (i := 186) (by decide +kernel)
theorem dg1_72 : Cond.eq (.elem (.static "java/lang/Integer" "DigitTens" "[B") (.int (Int32.ofNat 72))) (.int (Int32.ofNat (48 + 72 / 10))) ∈ flatC (Jvm.Cond.and given_1 narrow_1) := List.mem_of_getElem? (i := 187) (by decide +kernel)
theorem dg1_73 : Cond.eq (.elem (.static "java/lang/Integer" "DigitTens" "[B") (.int (Int32.ofNat 73))) (.int (Int32.ofNat (48 + 73 / 10))) ∈ flatC (Jvm.Cond.and given_1 narrow_1) := List.mem_of_getElem? (i := 188) (by decide +kernel)
theorem dg1_74 : Cond.eq (.elem (.static "java/lang/Integer" "DigitTens" "[B") (.int (Int32.ofNat 74))) (.int (Int32.ofNat (48 + 74 / 10))) ∈ flatC (Jvm.Cond.and given_1 narrow_1) := List.mem_of_getElem? (i := 189) (by decide +kernel)
theorem dg1_75 : Cond.eq (.elem (.static "java/lang/Integer" "DigitTens" "[B") (.int (Int32.ofNat 75))) (.int (Int32.ofNat (48 + 75 / 10))) ∈ flatC (Jvm.Cond.and given_1 narrow_1) := List.mem_of_getElem? (i := 190) (by decide +kernel)
theorem dg1_76 : Cond.eq (.elem (.static "java/lang/Integer" "DigitTens" "[B") (.int (Int32.ofNat 76))) (.int (Int32.ofNat (48 + 76 / 10))) ∈ flatC (Jvm.Cond.and given_1 narrow_1) := List.mem_of_getElem? (i := 191) (by decide +kernel)
theorem dg1_77 : Cond.eq (.elem (.static "java/lang/Integer" "DigitTens" "[B") (.int (Int32.ofNat 77))) (.int (Int32.ofNat (48 + 77 / 10))) ∈ flatC (Jvm.Cond.and given_1 narrow_1) := List.mem_of_getElem? (i := 192) (by decide +kernel)
theorem dg1_78 : Cond.eq (.elem (.static "java/lang/Integer" "DigitTens" "[B") (.int (Int32.ofNat 78))) (.int (Int32.ofNat (48 + 78 / 10))) ∈ flatC (Jvm.Cond.and given_1 narrow_1) := List.mem_of_getElem? (i := 193) (by decide +kernel)
theorem dg1_79 : Cond.eq (.elem (.static "java/lang/Integer" "DigitTens" "[B") (.int (Int32.ofNat 79))) (.int (Int32.ofNat (48 + 79 / 10))) ∈ flatC (Jvm.Cond.and given_1 narrow_1) := List.mem_of_getElem? (i := 194) (by decide +kernel)
theorem dg1_80 : Cond.eq (.elem (.static "java/lang/Integer" "DigitTens" "[B") (.int (Int32.ofNat 80))) (.int (Int32.ofNat (48 + 80 / 10))) ∈ flatC (Jvm.Cond.and given_1 narrow_1) := List.mem_of_getElem? (i := 195) (by decide +kernel)
theorem dg1_81 : Cond.eq (.elem (.static "java/lang/Integer" "DigitTens" "[B") (.int (Int32.ofNat 81))) (.int (Int32.ofNat (48 + 81 / 10))) ∈ flatC (Jvm.Cond.and given_1 narrow_1) := List.mem_of_getElem? (i := 196) (by decide +kernel)
theorem dg1_82 : Cond.eq (.elem (.static "java/lang/Integer" "DigitTens" "[B") (.int (Int32.ofNat 82))) (.int (Int32.ofNat (48 + 82 / 10))) ∈ flatC (Jvm.Cond.and given_1 narrow_1) := List.mem_of_getElem? (i := 197) (by decide +kernel)
theorem dg1_83 : Cond.eq (.elem (.static "java/lang/Integer" "DigitTens" "[B") (.int (Int32.ofNat 83))) (.int (Int32.ofNat (48 + 83 / 10))) ∈ flatC (Jvm.Cond.and given_1 narrow_1) := List.mem_of_getElem? (i := 198) (by decide +kernel)
theorem dg1_84 : Cond.eq (.elem (.static "java/lang/Integer" "DigitTens" "[B") (.int (Int32.ofNat 84))) (.int (Int32.ofNat (48 + 84 / 10))) ∈ flatC (Jvm.Cond.and given_1 narrow_1) := List.mem_of_getElem? (i := 199) (by decide +kernel)
theorem dg1_85 : Cond.eq (.elem (.static "java/lang/Integer" "DigitTens" "[B") (.int (Int32.ofNat 85))) (.int (Int32.ofNat (48 + 85 / 10))) ∈ flatC (Jvm.Cond.and given_1 narrow_1) := List.mem_of_getElem? (i := 200) (by decide +kernel)
theorem dg1_86 : Cond.eq (.elem (.static "java/lang/Integer" "DigitTens" "[B") (.int (Int32.ofNat 86))) (.int (Int32.ofNat (48 + 86 / 10))) ∈ flatC (Jvm.Cond.and given_1 narrow_1) := List.mem_of_getElem? (i := 201) (by decide +kernel)
theorem dg1_87 : Cond.eq (.elem (.static "java/lang/Integer" "DigitTens" "[B") (.int (Int32.ofNat 87))) (.int (Int32.ofNat (48 + 87 / 10))) ∈ flatC (Jvm.Cond.and given_1 narrow_1) := List.mem_of_getElem? (i := 202) (by decide +kernel)
theorem dg1_88 : Cond.eq (.elem (.static "java/lang/Integer" "DigitTens" "[B") (.int (Int32.ofNat 88))) (.int (Int32.ofNat (48 + 88 / 10))) ∈ flatC (Jvm.Cond.and given_1 narrow_1) := List.mem_of_getElem? (i := 203) (by decide +kernel)
theorem dg1_89 : Cond.eq (.elem (.static "java/lang/Integer" "DigitTens" "[B") (.int (Int32.ofNat 89))) (.int (Int32.ofNat (48 + 89 / 10))) ∈ flatC (Jvm.Cond.and given_1 narrow_1) := List.mem_of_getElem? (i := 204) (by decide +kernel)
theorem dg1_90 : Cond.eq (.elem (.static "java/lang/Integer" "DigitTens" "[B") (.int (Int32.ofNat 90))) (.int (Int32.ofNat (48 + 90 / 10))) ∈ flatC (Jvm.Cond.and given_1 narrow_1) := List.mem_of_getElem? (i := 205) (by decide +kernel)
theorem dg1_91 : Cond.eq (.elem (.static "java/lang/Integer" "DigitTens" "[B") (.int (Int32.ofNat 91))) (.int (Int32.ofNat (48 + 91 / 10))) ∈ flatC (Jvm.Cond.and given_1 narrow_1) := List.mem_of_getElem? (i := 206) (by decide +kernel)
theorem dg1_92 : Cond.eq (.elem (.static "java/lang/Integer" "DigitTens" "[B") (.int (Int32.ofNat 92))) (.int (Int32.ofNat (48 + 92 / 10))) ∈ flatC (Jvm.Cond.and given_1 narrow_1) := List.mem_of_getElem? (i := 207) (by decide +kernel)
theorem dg1_93 : Cond.eq (.elem (.static "java/lang/Integer" "DigitTens" "[B") (.int (Int32.ofNat 93))) (.int (Int32.ofNat (48 + 93 / 10))) ∈ flatC (Jvm.Cond.and given_1 narrow_1) := List.mem_of_getElem? (i := 208) (by decide +kernel)
theorem dg1_94 : Cond.eq (.elem (.static "java/lang/Integer" "DigitTens" "[B") (.int (Int32.ofNat 94))) (.int (Int32.ofNat (48 + 94 / 10))) ∈ flatC (Jvm.Cond.and given_1 narrow_1) := List.mem_of_getElem? (i := 209) (by decide +kernel)
theorem dg1_95 : Cond.eq (.elem (.static "java/lang/Integer" "DigitTens" "[B") (.int (Int32.ofNat 95))) (.int (Int32.ofNat (48 + 95 / 10))) ∈ flatC (Jvm.Cond.and given_1 narrow_1) := List.mem_of_getElem? (i := 210) (by decide +kernel)
theorem dg1_96 : Cond.eq (.elem (.static "java/lang/Integer" "DigitTens" "[B") (.int (Int32.ofNat 96))) (.int (Int32.ofNat (48 + 96 / 10))) ∈ flatC (Jvm.Cond.and given_1 narrow_1) := List.mem_of_getElem? (i := 211) (by decide +kernel)
theorem dg1_97 : Cond.eq (.elem (.static "java/lang/Integer" "DigitTens" "[B") (.int (Int32.ofNat 97))) (.int (Int32.ofNat (48 + 97 / 10))) ∈ flatC (Jvm.Cond.and given_1 narrow_1) := List.mem_of_getElem? (i := 212) (by decide +kernel)
theorem dg1_98 : Cond.eq (.elem (.static "java/lang/Integer" "DigitTens" "[B") (.int (Int32.ofNat 98))) (.int (Int32.ofNat (48 + 98 / 10))) ∈ flatC (Jvm.Cond.and given_1 narrow_1) := List.mem_of_getElem? (i := 213) (by decide +kernel)
theorem dg1_99 : Cond.eq (.elem (.static "java/lang/Integer" "DigitTens" "[B") (.int (Int32.ofNat 99))) (.int (Int32.ofNat (48 + 99 / 10))) ∈ flatC (Jvm.Cond.and given_1 narrow_1) := List.mem_of_getElem? (i := 214) (by decide +kernel)
theorem dg_el1 : ∀ j, j < 100 → Cond.eq (.elem (.static "java/lang/Integer" "DigitTens" "[B") (.int (Int32.ofNat j))) (.int (Int32.ofNat (48 + j / 10))) ∈ flatC (Jvm.Cond.and given_1 narrow_1) := fun j hj => by
  match j, hj with
  | 0, _ => exact dg1_0
  | 1, _ => exact dg1_1
  | 2, _ => exact dg1_2
  | 3, _ => exact dg1_3
  | 4, _ => exact dg1_4
  | 5, _ => exact dg1_5
  | 6, _ => exact dg1_6
  | 7, _ => exact dg1_7
  | 8, _ => exact dg1_8
  | 9, _ => exact dg1_9
  | 10, _ => exact dg1_10
  | 11, _ => exact dg1_11
  | 12, _ => exact dg1_12
  | 13, _ => exact dg1_13
  | 14, _ => exact dg1_14
  | 15, _ => exact dg1_15
  | 16, _ => exact dg1_16
  | 17, _ => exact dg1_17
  | 18, _ => exact dg1_18
  | 19, _ => exact dg1_19
  | 20, _ => exact dg1_20
  | 21, _ => exact dg1_21
  | 22, _ => exact dg1_22
  | 23, _ => exact dg1_23
  | 24, _ => exact dg1_24
  | 25, _ => exact dg1_25
  | 26, _ => exact dg1_26
  | 27, _ => exact dg1_27
  | 28, _ => exact dg1_28
  | 29, _ => exact dg1_29
  | 30, _ => exact dg1_30
  | 31, _ => exact dg1_31
  | 32, _ => exact dg1_32
  | 33, _ => exact dg1_33
  | 34, _ => exact dg1_34
  | 35, _ => exact dg1_35
  | 36, _ => exact dg1_36
  | 37, _ => exact dg1_37
  | 38, _ => exact dg1_38
  | 39, _ => exact dg1_39
  | 40, _ => exact dg1_40
  | 41, _ => exact dg1_41
  | 42, _ => exact dg1_42
  | 43, _ => exact dg1_43
  | 44, _ => exact dg1_44
  | 45, _ => exact dg1_45
  | 46, _ => exact dg1_46
  | 47, _ => exact dg1_47
  | 48, _ => exact dg1_48
  | 49, _ => exact dg1_49
  | 50, _ => exact dg1_50
  | 51, _ => exact dg1_51
  | 52, _ => exact dg1_52
  | 53, _ => exact dg1_53
  | 54, _ => exact dg1_54
  | 55, _ => exact dg1_55
  | 56, _ => exact dg1_56
  | 57, _ => exact dg1_57
  | 58, _ => exact dg1_58
  | 59, _ => exact dg1_59
  | 60, _ => exact dg1_60
  | 61, _ => exact dg1_61
  | 62, _ => exact dg1_62
  | 63, _ => exact dg1_63
  | 64, _ => exact dg1_64
  | 65, _ => exact dg1_65
  | 66, _ => exact dg1_66
  | 67, _ => exact dg1_67
  | 68, _ => exact dg1_68
  | 69, _ => exact dg1_69
  | 70, _ => exact dg1_70
  | 71, _ => exact dg1_71
  | 72, _ => exact dg1_72
  | 73, _ => exact dg1_73
  | 74, _ => exact dg1_74
  | 75, _ => exact dg1_75
  | 76, _ => exact dg1_76
  | 77, _ => exact dg1_77
  | 78, _ => exact dg1_78
  | 79, _ => exact dg1_79
  | 80, _ => exact dg1_80
  | 81, _ => exact dg1_81
  | 82, _ => exact dg1_82
  | 83, _ => exact dg1_83
  | 84, _ => exact dg1_84
  | 85, _ => exact dg1_85
  | 86, _ => exact dg1_86
  | 87, _ => exact dg1_87
  | 88, _ => exact dg1_88
  | 89, _ => exact dg1_89
  | 90, _ => exact dg1_90
  | 91, _ => exact dg1_91
  | 92, _ => exact dg1_92
  | 93, _ => exact dg1_93
  | 94, _ => exact dg1_94
  | 95, _ => exact dg1_95
  | 96, _ => exact dg1_96
  | 97, _ => exact dg1_97
  | 98, _ => exact dg1_98
  | 99, _ => exact dg1_99
  | j + 100, h => exact absurd h (by omega)
