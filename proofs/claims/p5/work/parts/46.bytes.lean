theorem dL_law_0 : decode cL_law 0 = .ok (.new 8, 3) := by decide +kernel
theorem dL_law_3 : decode cL_law 3 = .ok (.dup, 1) := by decide +kernel
theorem dL_law_4 : decode cL_law 4 = .ok (.invokespecial 15, 3) := by decide +kernel
theorem dL_law_7 : decode cL_law 7 = .ok (.astore_n 1, 1) := by decide +kernel
theorem dL_law_8 : decode cL_law 8 = .ok (.new 16, 3) := by decide +kernel
theorem dL_law_11 : decode cL_law 11 = .ok (.dup, 1) := by decide +kernel
theorem dL_law_12 : decode cL_law 12 = .ok (.invokespecial 18, 3) := by decide +kernel
theorem dL_law_15 : decode cL_law 15 = .ok (.astore_n 2, 1) := by decide +kernel
theorem dL_law_16 : decode cL_law 16 = .ok (.iconst 1, 1) := by decide +kernel
theorem dL_law_17 : decode cL_law 17 = .ok (.newarray .long, 2) := by decide +kernel
theorem dL_law_19 : decode cL_law 19 = .ok (.astore_n 3, 1) := by decide +kernel
theorem dL_law_20 : decode cL_law 20 = .ok (.iconst 0, 1) := by decide +kernel
theorem dL_law_21 : decode cL_law 21 = .ok (.istore 4, 2) := by decide +kernel
theorem dL_law_23 : decode cL_law 23 = .ok (.iload 4, 2) := by decide +kernel
theorem dL_law_25 : decode cL_law 25 = .ok (.aload_n 0, 1) := by decide +kernel
theorem dL_law_26 : decode cL_law 26 = .ok (.arraylength, 1) := by decide +kernel
theorem dL_law_27 : decode cL_law 27 = .ok (.bipush 6, 2) := by decide +kernel
theorem dL_law_29 : decode cL_law 29 = .ok (.isub, 1) := by decide +kernel
theorem dL_law_30 : decode cL_law 30 = .ok (.if_icmp .gt 1404, 3) := by decide +kernel
theorem dL_law_33 : decode cL_law 33 = .ok (.aload_n 0, 1) := by decide +kernel
theorem dL_law_34 : decode cL_law 34 = .ok (.iload 4, 2) := by decide +kernel
theorem dL_law_36 : decode cL_law 36 = .ok (.iaload, 1) := by decide +kernel
theorem dL_law_37 : decode cL_law 37 = .ok (.bipush 63, 2) := by decide +kernel
theorem dL_law_39 : decode cL_law 39 = .ok (.iand, 1) := by decide +kernel
theorem dL_law_40 : decode cL_law 40 = .ok (.tableswitch 1388 0 40 #[180, 253, 278, 291, 304, 344, 381, 418, 455, 480, 517, 554, 579, 616, 665, 690, 739, 788, 813, 838, 851, 876, 913, 938, 951, 964, 989, 1026, 1051, 1076, 1089, 1114, 1139, 1176, 1225, 1250, 1275, 1288, 1313, 1338, 1363], 180) := by decide +kernel
theorem dL_law_1434 : decode cL_law 1434 = .ok (.iconst 1, 1) := by decide +kernel
theorem dL_law_1435 : decode cL_law 1435 = .ok (.ireturn, 1) := by decide +kernel
theorem t29 : Cond.classLink RL 8 RX10 ∈ GW := gw_mem 143 (by decide +kernel) (by decide +kernel)
theorem t30 : Cond.instantiable RX10 17 ∈ GW := gw_mem 144 (by decide +kernel) (by decide +kernel)
theorem t1433 : Cond.classLink RL 16 RX11 ∈ GW := gw_mem 1547 (by decide +kernel) (by decide +kernel)
theorem t1427 : Cond.instantiable RX11 47 ∈ GW := gw_mem 1541 (by decide +kernel) (by decide +kernel)
theorem dfX10 : ∀ j, j < 17 → defaultValue (tyX10 j) = vp_V [.null, .null, .null, .null, .null, .null, .null, .null, .null, .null, .null, .null, .null, .int 0, .int 0, .int 0, .int 0] j := fun j hj => by
  match j, hj with
  | 0, _ => rfl
  | 1, _ => rfl
  | 2, _ => rfl
  | 3, _ => rfl
  | 4, _ => rfl
  | 5, _ => rfl
  | 6, _ => rfl
  | 7, _ => rfl
  | 8, _ => rfl
  | 9, _ => rfl
  | 10, _ => rfl
  | 11, _ => rfl
  | 12, _ => rfl
  | 13, _ => rfl
  | 14, _ => rfl
  | 15, _ => rfl
  | 16, _ => rfl
  | j + 17, h => exact absurd h (by omega)
theorem dfX11 : ∀ j, j < 47 → defaultValue (tyX11 j) = vp_V [.int 0, .null, .int 0, .int 0, .int 0, .int 0, .int 0, .int 0, .int 0, .int 0, .int 0, .int 0, .long 0, .int 0, .null, .null, .null, .null, .null, .null, .null, .null, .null, .null, .int 0, .int 0, .null, .null, .null, .int 0, .null, .null, .int 0, .int 0, .int 0, .null, .int 0, .int 0, .null, .null, .int 0, .int 0, .null, .int 0, .int 0, .int 0, .int 0] j := fun j hj => by
  match j, hj with
  | 0, _ => rfl
  | 1, _ => rfl
  | 2, _ => rfl
  | 3, _ => rfl
  | 4, _ => rfl
  | 5, _ => rfl
  | 6, _ => rfl
  | 7, _ => rfl
  | 8, _ => rfl
  | 9, _ => rfl
  | 10, _ => rfl
  | 11, _ => rfl
  | 12, _ => rfl
  | 13, _ => rfl
  | 14, _ => rfl
  | 15, _ => rfl
  | 16, _ => rfl
  | 17, _ => rfl
  | 18, _ => rfl
  | 19, _ => rfl
  | 20, _ => rfl
  | 21, _ => rfl
  | 22, _ => rfl
  | 23, _ => rfl
  | 24, _ => rfl
  | 25, _ => rfl
  | 26, _ => rfl
  | 27, _ => rfl
  | 28, _ => rfl
  | 29, _ => rfl
  | 30, _ => rfl
  | 31, _ => rfl
  | 32, _ => rfl
  | 33, _ => rfl
  | 34, _ => rfl
  | 35, _ => rfl
  | 36, _ => rfl
  | 37, _ => rfl
  | 38, _ => rfl
  | 39, _ => rfl
  | 40, _ => rfl
  | 41, _ => rfl
  | 42, _ => rfl
  | 43, _ => rfl
  | 44, _ => rfl
  | 45, _ => rfl
  | 46, _ => rfl
  | j + 47, h => exact absurd h (by omega)
theorem t31 : Cond.methodLink RL 15 yX10_init ∈ GW := gw_mem 145 (by decide +kernel) (by decide +kernel)
theorem t32 : Cond.instanceMethod yX10_init ∈ GW := gw_mem 146 (by decide +kernel) (by decide +kernel)
theorem cw_L_15 {R : Room} {s : State} {args : Array Value} {rm : Room} {mc ms : Nat} (hts : ∀ w ∈ GW, w.before args s = true) (hrc : rm.cells = mc) (hrs : rm.slots = ms) (hR : rm.frames + 1 ≤ R.frames ∧ 8 + (2 + 11) + rm.locals ≤ R.locals) : CallB R s args RL 15 yX10_init cX10_init 2 none (wl yX10_init cX10_init 2 none) rm mc ms 0 ∧ yX10_init.name = "<init>" ∧ (Cond.instanceMethod yX10_init).before args s = true := cwI 0 hts (gi_of t33) rfl hrc hrs (hts _ t1) (hts _ t31) (hts _ t32) rfl (by decide +kernel) hR
theorem t1434 : Cond.methodLink RL 18 yX11_init ∈ GW := gw_mem 1548 (by decide +kernel) (by decide +kernel)
theorem t1435 : Cond.instanceMethod yX11_init ∈ GW := gw_mem 1549 (by decide +kernel) (by decide +kernel)
theorem cw_L_18 {R : Room} {s : State} {args : Array Value} {rm : Room} {mc ms : Nat} (hts : ∀ w ∈ GW, w.before args s = true) (hrc : rm.cells = mc) (hrs : rm.slots = ms) (hR : rm.frames + 1 ≤ R.frames ∧ 8 + (1 + 11) + rm.locals ≤ R.locals) : CallB R s args RL 18 yX11_init cX11_init 1 none (wl yX11_init cX11_init 1 none) rm mc ms 0 ∧ yX11_init.name = "<init>" ∧ (Cond.instanceMethod yX11_init).before args s = true := cwI 0 hts (gi_of t1436) rfl hrc hrs (hts _ t18) (hts _ t1434) (hts _ t1435) rfl (by decide +kernel) hR
theorem se_0 : Cond.eq (.elem (.field (.string "LikenessPound$Tape" 19) "java/lang/String" "value" "[B") (.int (Int32.ofNat 0))) (.int (strB.getD 0 0)) ∈ flatC (Jvm.Cond.and given_1 narrow_1) := List.mem_of_getElem? (i := 264) (by decide +kernel)
theorem se_1 : Cond.eq (.elem (.field (.string "LikenessPound$Tape" 19) "java/lang/String" "value" "[B") (.int (Int32.ofNat 1))) (.int (strB.getD 1 0)) ∈ flatC (Jvm.Cond.and given_1 narrow_1) := List.mem_of_getElem? (i := 265) (by decide +kernel)
theorem se_2 : Cond.eq (.elem (.field (.string "LikenessPound$Tape" 19) "java/lang/String" "value" "[B") (.int (Int32.ofNat 2))) (.int (strB.getD 2 0)) ∈ flatC (Jvm.Cond.and given_1 narrow_1) := List.mem_of_getElem? (i := 266) (by decide +kernel)
theorem se_3 : Cond.eq (.elem (.field (.string "LikenessPound$Tape" 19) "java/lang/String" "value" "[B") (.int (Int32.ofNat 3))) (.int (strB.getD 3 0)) ∈ flatC (Jvm.Cond.and given_1 narrow_1) := List.mem_of_getElem? (i := 267) (by decide +kernel)
theorem se_4 : Cond.eq (.elem (.field (.string "LikenessPound$Tape" 19) "java/lang/String" "value" "[B") (.int (Int32.ofNat 4))) (.int (strB.getD 4 0)) ∈ flatC (Jvm.Cond.and given_1 narrow_1) := List.mem_of_getElem? (i := 268) (by decide +kernel)
theorem se_5 : Cond.eq (.elem (.field (.string "LikenessPound$Tape" 19) "java/lang/String" "value" "[B") (.int (Int32.ofNat 5))) (.int (strB.getD 5 0)) ∈ flatC (Jvm.Cond.and given_1 narrow_1) := List.mem_of_getElem? (i := 269) (by decide +kernel)
theorem se_6 : Cond.eq (.elem (.field (.string "LikenessPound$Tape" 19) "java/lang/String" "value" "[B") (.int (Int32.ofNat 6))) (.int (strB.getD 6 0)) ∈ flatC (Jvm.Cond.and given_1 narrow_1) := List.mem_of_getElem? (i := 270) (by decide +kernel)
theorem se_7 : Cond.eq (.elem (.field (.string "LikenessPound$Tape" 19) "java/lang/String" "value" "[B") (.int (Int32.ofNat 7))) (.int (strB.getD 7 0)) ∈ flatC (Jvm.Cond.and given_1 narrow_1) := List.mem_of_getElem? (i := 271) (by decide +kernel)
theorem se_8 : Cond.eq (.elem (.field (.string "LikenessPound$Tape" 19) "java/lang/String" "value" "[B") (.int (Int32.ofNat 8))) (.int (strB.getD 8 0)) ∈ flatC (Jvm.Cond.and given_1 narrow_1) := List.mem_of_getElem? (i := 272) (by decide +kernel)
theorem se_9 : Cond.eq (.elem (.field (.string "LikenessPound$Tape" 19) "java/lang/String" "value" "[B") (.int (Int32.ofNat 9))) (.int (strB.getD 9 0)) ∈ flatC (Jvm.Cond.and given_1 narrow_1) := List.mem_of_getElem? (i := 273) (by decide +kernel)
theorem se_10 : Cond.eq (.elem (.field (.string "LikenessPound$Tape" 19) "java/lang/String" "value" "[B") (.int (Int32.ofNat 10))) (.int (strB.getD 10 0)) ∈ flatC (Jvm.Cond.and given_1 narrow_1) := List.mem_of_getElem? (i := 274) (by decide +kernel)
theorem se_11 : Cond.eq (.elem (.field (.string "LikenessPound$Tape" 19) "java/lang/String" "value" "[B") (.int (Int32.ofNat 11))) (.int (strB.getD 11 0)) ∈ flatC (Jvm.Cond.and given_1 narrow_1) := List.mem_of_getElem? (i := 275) (by decide +kernel)
theorem se_12 : Cond.eq (.elem (.field (.string "LikenessPound$Tape" 19) "java/lang/String" "value" "[B") (.int (Int32.ofNat 12))) (.int (strB.getD 12 0)) ∈ flatC (Jvm.Cond.and given_1 narrow_1) := List.mem_of_getElem? (i := 276) (by decide +kernel)
theorem se_13 : Cond.eq (.elem (.field (.string "LikenessPound$Tape" 19) "java/lang/String" "value" "[B") (.int (Int32.ofNat 13))) (.int (strB.getD 13 0)) ∈ flatC (Jvm.Cond.and given_1 narrow_1) := List.mem_of_getElem? (i := 277) (by decide +kernel)
theorem se_14 : Cond.eq (.elem (.field (.string "LikenessPound$Tape" 19) "java/lang/String" "value" "[B") (.int (Int32.ofNat 14))) (.int (strB.getD 14 0)) ∈ flatC (Jvm.Cond.and given_1 narrow_1) := List.mem_of_getElem? (i := 278) (by decide +kernel)
theorem se_15 : Cond.eq (.elem (.field (.string "LikenessPound$Tape" 19) "java/lang/String" "value" "[B") (.int (Int32.ofNat 15))) (.int (strB.getD 15 0)) ∈ flatC (Jvm.Cond.and given_1 narrow_1) := List.mem_of_getElem? (i := 279) (by decide +kernel)
theorem se_16 : Cond.eq (.elem (.field (.string "LikenessPound$Tape" 19) "java/lang/String" "value" "[B") (.int (Int32.ofNat 16))) (.int (strB.getD 16 0)) ∈ flatC (Jvm.Cond.and given_1 narrow_1) := List.mem_of_getElem? (i := 280) (by decide +kernel)
theorem se_17 : Cond.eq (.elem (.field (.string "LikenessPound$Tape" 19) "java/lang/String" "value" "[B") (.int (Int32.ofNat 17))) (.int (strB.getD 17 0)) ∈ flatC (Jvm.Cond.and given_1 narrow_1) := List.mem_of_getElem? (i := 281) (by decide +kernel)
theorem se_18 : Cond.eq (.elem (.field (.string "LikenessPound$Tape" 19) "java/lang/String" "value" "[B") (.int (Int32.ofNat 18))) (.int (strB.getD 18 0)) ∈ flatC (Jvm.Cond.and given_1 narrow_1) := List.mem_of_getElem? (i := 282) (by decide +kernel)
theorem se_19 : Cond.eq (.elem (.field (.string "LikenessPound$Tape" 19) "java/lang/String" "value" "[B") (.int (Int32.ofNat 19))) (.int (strB.getD 19 0)) ∈ flatC (Jvm.Cond.and given_1 narrow_1) := List.mem_of_getElem? (i := 283) (by decide +kernel)
theorem se_20 : Cond.eq (.elem (.field (.string "LikenessPound$Tape" 19) "java/lang/String" "value" "[B") (.int (Int32.ofNat 20))) (.int (strB.getD 20 0)) ∈ flatC (Jvm.Cond.and given_1 narrow_1) := List.mem_of_getElem? (i := 284) (by decide +kernel)
theorem se_21 : Cond.eq (.elem (.field (.string "LikenessPound$Tape" 19) "java/lang/String" "value" "[B") (.int (Int32.ofNat 21))) (.int (strB.getD 21 0)) ∈ flatC (Jvm.Cond.and given_1 narrow_1) := List.mem_of_getElem? (i := 285) (by decide +kernel)
theorem se_22 : Cond.eq (.elem (.field (.string "LikenessPound$Tape" 19) "java/lang/String" "value" "[B") (.int (Int32.ofNat 22))) (.int (strB.getD 22 0)) ∈ flatC (Jvm.Cond.and given_1 narrow_1) := List.mem_of_getElem? (i := 286) (by decide +kernel)
theorem se_23 : Cond.eq (.elem (.field (.string "LikenessPound$Tape" 19) "java/lang/String" "value" "[B") (.int (Int32.ofNat 23))) (.int (strB.getD 23 0)) ∈ flatC (Jvm.Cond.and given_1 narrow_1) := List.mem_of_getElem? (i := 287) (by decide +kernel)
theorem se_24 : Cond.eq (.elem (.field (.string "LikenessPound$Tape" 19) "java/lang/String" "value" "[B") (.int (Int32.ofNat 24))) (.int (strB.getD 24 0)) ∈ flatC (Jvm.Cond.and given_1 narrow_1) := List.mem_of_getElem? (i := 288) (by decide +kernel)
theorem se_25 : Cond.eq (.elem (.field (.string "LikenessPound$Tape" 19) "java/lang/String" "value" "[B") (.int (Int32.ofNat 25))) (.int (strB.getD 25 0)) ∈ flatC (Jvm.Cond.and given_1 narrow_1) := List.mem_of_getElem? (i := 289) (by decide +kernel)
theorem se_26 : Cond.eq (.elem (.field (.string "LikenessPound$Tape" 19) "java/lang/String" "value" "[B") (.int (Int32.ofNat 26))) (.int (strB.getD 26 0)) ∈ flatC (Jvm.Cond.and given_1 narrow_1) := List.mem_of_getElem? (i := 290) (by decide +kernel)
theorem se_27 : Cond.eq (.elem (.field (.string "LikenessPound$Tape" 19) "java/lang/String" "value" "[B") (.int (Int32.ofNat 27))) (.int (strB.getD 27 0)) ∈ flatC (Jvm.Cond.and given_1 narrow_1) := List.mem_of_getElem? (i := 291) (by decide +kernel)
theorem se_28 : Cond.eq (.elem (.field (.string "LikenessPound$Tape" 19) "java/lang/String" "value" "[B") (.int (Int32.ofNat 28))) (.int (strB.getD 28 0)) ∈ flatC (Jvm.Cond.and given_1 narrow_1) := List.mem_of_getElem? (i := 292) (by decide +kernel)
theorem se_29 : Cond.eq (.elem (.field (.string "LikenessPound$Tape" 19) "java/lang/String" "value" "[B") (.int (Int32.ofNat 29))) (.int (strB.getD 29 0)) ∈ flatC (Jvm.Cond.and given_1 narrow_1) := List.mem_of_getElem? (i := 293) (by decide +kernel)
theorem se_30 : Cond.eq (.elem (.field (.string "LikenessPound$Tape" 19) "java/lang/String" "value" "[B") (.int (Int32.ofNat 30))) (.int (strB.getD 30 0)) ∈ flatC (Jvm.Cond.and given_1 narrow_1) := List.mem_of_getElem? (i := 294) (by decide +kernel)
theorem se_31 : Cond.eq (.elem (.field (.string "LikenessPound$Tape" 19) "java/lang/String" "value" "[B") (.int (Int32.ofNat 31))) (.int (strB.getD 31 0)) ∈ flatC (Jvm.Cond.and given_1 narrow_1) := List.mem_of_getElem? (i := 295) (by decide +kernel)
theorem se_32 : Cond.eq (.elem (.field (.string "LikenessPound$Tape" 19) "java/lang/String" "value" "[B") (.int (Int32.ofNat 32))) (.int (strB.getD 32 0)) ∈ flatC (Jvm.Cond.and given_1 narrow_1) := List.mem_of_getElem? (i := 296) (by decide +kernel)
theorem se_33 : Cond.eq (.elem (.field (.string "LikenessPound$Tape" 19) "java/lang/String" "value" "[B") (.int (Int32.ofNat 33))) (.int (strB.getD 33 0)) ∈ flatC (Jvm.Cond.and given_1 narrow_1) := List.mem_of_getElem? (i := 297) (by decide +kernel)
theorem se_34 : Cond.eq (.elem (.field (.string "LikenessPound$Tape" 19) "java/lang/String" "value" "[B") (.int (Int32.ofNat 34))) (.int (strB.getD 34 0)) ∈ flatC (Jvm.Cond.and given_1 narrow_1) := List.mem_of_getElem? (i := 298) (by decide +kernel)
theorem se_35 : Cond.eq (.elem (.field (.string "LikenessPound$Tape" 19) "java/lang/String" "value" "[B") (.int (Int32.ofNat 35))) (.int (strB.getD 35 0)) ∈ flatC (Jvm.Cond.and given_1 narrow_1) := List.mem_of_getElem? (i := 299) (by decide +kernel)
theorem se_36 : Cond.eq (.elem (.field (.string "LikenessPound$Tape" 19) "java/lang/String" "value" "[B") (.int (Int32.ofNat 36))) (.int (strB.getD 36 0)) ∈ flatC (Jvm.Cond.and given_1 narrow_1) := List.mem_of_getElem? (i := 300) (by decide +kernel)
theorem se_37 : Cond.eq (.elem (.field (.string "LikenessPound$Tape" 19) "java/lang/String" "value" "[B") (.int (Int32.ofNat 37))) (.int (strB.getD 37 0)) ∈ flatC (Jvm.Cond.and given_1 narrow_1) := List.mem_of_getElem? (i := 301) (by decide +kernel)
theorem se_38 : Cond.eq (.elem (.field (.string "LikenessPound$Tape" 19) "java/lang/String" "value" "[B") (.int (Int32.ofNat 38))) (.int (strB.getD 38 0)) ∈ flatC (Jvm.Cond.and given_1 narrow_1) := List.mem_of_getElem? (i := 302) (by decide +kernel)
theorem se_39 : Cond.eq (.elem (.field (.string "LikenessPound$Tape" 19) "java/lang/String" "value" "[B") (.int (Int32.ofNat 39))) (.int (strB.getD 39 0)) ∈ flatC (Jvm.Cond.and given_1 narrow_1) := List.mem_of_getElem? (i := 303) (by decide +kernel)
theorem se_40 : Cond.eq (.elem (.field (.string "LikenessPound$Tape" 19) "java/lang/String" "value" "[B") (.int (Int32.ofNat 40))) (.int (strB.getD 40 0)) ∈ flatC (Jvm.Cond.and given_1 narrow_1) := List.mem_of_getElem? (i := 304) (by decide +kernel)
theorem se_41 : Cond.eq (.elem (.field (.string "LikenessPound$Tape" 19) "java/lang/String" "value" "[B") (.int (Int32.ofNat 41))) (.int (strB.getD 41 0)) ∈ flatC (Jvm.Cond.and given_1 narrow_1) := List.mem_of_getElem? (i := 305) (by decide +kernel)
theorem se_42 : Cond.eq (.elem (.field (.string "LikenessPound$Tape" 19) "java/lang/String" "value" "[B") (.int (Int32.ofNat 42))) (.int (strB.getD 42 0)) ∈ flatC (Jvm.Cond.and given_1 narrow_1) := List.mem_of_getElem? (i := 306) (by decide +kernel)
theorem se_43 : Cond.eq (.elem (.field (.string "LikenessPound$Tape" 19) "java/lang/String" "value" "[B") (.int (Int32.ofNat 43))) (.int (strB.getD 43 0)) ∈ flatC (Jvm.Cond.and given_1 narrow_1) := List.mem_of_getElem? (i := 307) (by decide +kernel)
theorem se_44 : Cond.eq (.elem (.field (.string "LikenessPound$Tape" 19) "java/lang/String" "value" "[B") (.int (Int32.ofNat 44))) (.int (strB.getD 44 0)) ∈ flatC (Jvm.Cond.and given_1 narrow_1) := List.mem_of_getElem? (i := 308) (by decide +kernel)
theorem se_45 : Cond.eq (.elem (.field (.string "LikenessPound$Tape" 19) "java/lang/String" "value" "[B") (.int (Int32.ofNat 45))) (.int (strB.getD 45 0)) ∈ flatC (Jvm.Cond.and given_1 narrow_1) := List.mem_of_getElem? (i := 309) (by decide +kernel)
theorem se_46 : Cond.eq (.elem (.field (.string "LikenessPound$Tape" 19) "java/lang/String" "value" "[B") (.int (Int32.ofNat 46))) (.int (strB.getD 46 0)) ∈ flatC (Jvm.Cond.and given_1 narrow_1) := List.mem_of_getElem? (i := 310) (by decide +kernel)
theorem se_47 : Cond.eq (.elem (.field (.string "LikenessPound$Tape" 19) "java/lang/String" "value" "[B") (.int (Int32.ofNat 47))) (.int (strB.getD 47 0)) ∈ flatC (Jvm.Cond.and given_1 narrow_1) := List.mem_of_getElem? (i := 311) (by decide +kernel)
theorem se_48 : Cond.eq (.elem (.field (.string "LikenessPound$Tape" 19) "java/lang/String" "value" "[B") (.int (Int32.ofNat 48))) (.int (strB.getD 48 0)) ∈ flatC (Jvm.Cond.and given_1 narrow_1) := List.mem_of_getElem? (i := 312) (by decide +kernel)
theorem se_49 : Cond.eq (.elem (.field (.string "LikenessPound$Tape" 19) "java/lang/String" "value" "[B") (.int (Int32.ofNat 49))) (.int (strB.getD 49 0)) ∈ flatC (Jvm.Cond.and given_1 narrow_1) := List.mem_of_getElem? (i := 313) (by decide +kernel)
theorem se_50 : Cond.eq (.elem (.field (.string "LikenessPound$Tape" 19) "java/lang/String" "value" "[B") (.int (Int32.ofNat 50))) (.int (strB.getD 50 0)) ∈ flatC (Jvm.Cond.and given_1 narrow_1) := List.mem_of_getElem? (i := 314) (by decide +kernel)
theorem se_51 : Cond.eq (.elem (.field (.string "LikenessPound$Tape" 19) "java/lang/String" "value" "[B") (.int (Int32.ofNat 51))) (.int (strB.getD 51 0)) ∈ flatC (Jvm.Cond.and given_1 narrow_1) := List.mem_of_getElem? (i := 315) (by decide +kernel)
theorem se_52 : Cond.eq (.elem (.field (.string "LikenessPound$Tape" 19) "java/lang/String" "value" "[B") (.int (Int32.ofNat 52))) (.int (strB.getD 52 0)) ∈ flatC (Jvm.Cond.and given_1 narrow_1) := List.mem_of_getElem? (i := 316) (by decide +kernel)
theorem se_53 : Cond.eq (.elem (.field (.string "LikenessPound$Tape" 19) "java/lang/String" "value" "[B") (.int (Int32.ofNat 53))) (.int (strB.getD 53 0)) ∈ flatC (Jvm.Cond.and given_1 narrow_1) := List.mem_of_getElem? (i := 317) (by decide +kernel)
theorem se_54 : Cond.eq (.elem (.field (.string "LikenessPound$Tape" 19) "java/lang/String" "value" "[B") (.int (Int32.ofNat 54))) (.int (strB.getD 54 0)) ∈ flatC (Jvm.Cond.and given_1 narrow_1) := List.mem_of_getElem? (i := 318) (by decide +kernel)
theorem se_55 : Cond.eq (.elem (.field (.string "LikenessPound$Tape" 19) "java/lang/String" "value" "[B") (.int (Int32.ofNat 55))) (.int (strB.getD 55 0)) ∈ flatC (Jvm.Cond.and given_1 narrow_1) := List.mem_of_getElem? (i := 319) (by decide +kernel)
theorem se_56 : Cond.eq (.elem (.field (.string "LikenessPound$Tape" 19) "java/lang/String" "value" "[B") (.int (Int32.ofNat 56))) (.int (strB.getD 56 0)) ∈ flatC (Jvm.Cond.and given_1 narrow_1) := List.mem_of_getElem? (i := 320) (by decide +kernel)
theorem se_57 : Cond.eq (.elem (.field (.string "LikenessPound$Tape" 19) "java/lang/String" "value" "[B") (.int (Int32.ofNat 57))) (.int (strB.getD 57 0)) ∈ flatC (Jvm.Cond.and given_1 narrow_1) := List.mem_of_getElem? (i := 321) (by decide +kernel)
theorem se_58 : Cond.eq (.elem (.field (.string "LikenessPound$Tape" 19) "java/lang/String" "value" "[B") (.int (Int32.ofNat 58))) (.int (strB.getD 58 0)) ∈ flatC (Jvm.Cond.and given_1 narrow_1) := List.mem_of_getElem? (i := 322) (by decide +kernel)
theorem se_59 : Cond.eq (.elem (.field (.string "LikenessPound$Tape" 19) "java/lang/String" "value" "[B") (.int (Int32.ofNat 59))) (.int (strB.getD 59 0)) ∈ flatC (Jvm.Cond.and given_1 narrow_1) := List.mem_of_getElem? (i := 323) (by decide +kernel)
theorem se_60 : Cond.eq (.elem (.field (.string "LikenessPound$Tape" 19) "java/lang/String" "value" "[B") (.int (Int32.ofNat 60))) (.int (strB.getD 60 0)) ∈ flatC (Jvm.Cond.and given_1 narrow_1) := List.mem_of_getElem? (i := 324) (by decide +kernel)
theorem se_61 : Cond.eq (.elem (.field (.string "LikenessPound$Tape" 19) "java/lang/String" "value" "[B") (.int (Int32.ofNat 61))) (.int (strB.getD 61 0)) ∈ flatC (Jvm.Cond.and given_1 narrow_1) := List.mem_of_getElem? (i := 325) (by decide +kernel)
theorem se_62 : Cond.eq (.elem (.field (.string "LikenessPound$Tape" 19) "java/lang/String" "value" "[B") (.int (Int32.ofNat 62))) (.int (strB.getD 62 0)) ∈ flatC (Jvm.Cond.and given_1 narrow_1) := List.mem_of_getElem? (i := 326) (by decide +kernel)
theorem se_63 : Cond.eq (.elem (.field (.string "LikenessPound$Tape" 19) "java/lang/String" "value" "[B") (.int (Int32.ofNat 63))) (.int (strB.getD 63 0)) ∈ flatC (Jvm.Cond.and given_1 narrow_1) := List.mem_of_getElem? (i := 327) (by decide +kernel)
theorem se_64 : Cond.eq (.elem (.field (.string "LikenessPound$Tape" 19) "java/lang/String" "value" "[B") (.int (Int32.ofNat 64))) (.int (strB.getD 64 0)) ∈ flatC (Jvm.Cond.and given_1 narrow_1) := List.mem_of_getElem? (i := 328) (by decide +kernel)
theorem se_65 : Cond.eq (.elem (.field (.string "LikenessPound$Tape" 19) "java/lang/String" "value" "[B") (.int (Int32.ofNat 65))) (.int (strB.getD 65 0)) ∈ flatC (Jvm.Cond.and given_1 narrow_1) := List.mem_of_getElem? (i := 329) (by decide +kernel)
theorem se_66 : Cond.eq (.elem (.field (.string "LikenessPound$Tape" 19) "java/lang/String" "value" "[B") (.int (Int32.ofNat 66))) (.int (strB.getD 66 0)) ∈ flatC (Jvm.Cond.and given_1 narrow_1) := List.mem_of_getElem? (i := 330) (by decide +kernel)
theorem se_67 : Cond.eq (.elem (.field (.string "LikenessPound$Tape" 19) "java/lang/String" "value" "[B") (.int (Int32.ofNat 67))) (.int (strB.getD 67 0)) ∈ flatC (Jvm.Cond.and given_1 narrow_1) := List.mem_of_getElem? (i := 331) (by decide +kernel)
theorem se_68 : Cond.eq (.elem (.field (.string "LikenessPound$Tape" 19) "java/lang/String" "value" "[B") (.int (Int32.ofNat 68))) (.int (strB.getD 68 0)) ∈ flatC (Jvm.Cond.and given_1 narrow_1) := List.mem_of_getElem? (i := 332) (by decide +kernel)
theorem se_69 : Cond.eq (.elem (.field (.string "LikenessPound$Tape" 19) "java/lang/String" "value" "[B") (.int (Int32.ofNat 69))) (.int (strB.getD 69 0)) ∈ flatC (Jvm.Cond.and given_1 narrow_1) := List.mem_of_getElem? (i := 333) (by decide +kernel)
theorem se_70 : Cond.eq (.elem (.field (.string "LikenessPound$Tape" 19) "java/lang/String" "value" "[B") (.int (Int32.ofNat 70))) (.int (strB.getD 70 0)) ∈ flatC (Jvm.Cond.and given_1 narrow_1) := List.mem_of_getElem? (i := 334) (by decide +kernel)
theorem se_71 : Cond.eq (.elem (.field (.string "LikenessPound$Tape" 19) "java/lang/String" "value" "[B") (.int (Int32.ofNat 71))) (.int (strB.getD 71 0)) ∈ flatC (Jvm.Cond.and given_1 narrow_1) := List.mem_of_getElem? (i := 335) (by decide +kernel)
theorem se_72 : Cond.eq (.elem (.field (.string "LikenessPound$Tape" 19) "java/lang/String" "value" "[B") (.int (Int32.ofNat 72))) (.int (strB.getD 72 0)) ∈ flatC (Jvm.Cond.and given_1 narrow_1) := List.mem_of_getElem? (i := 336) (by decide +kernel)
theorem se_73 : Cond.eq (.elem (.field (.string "LikenessPound$Tape" 19) "java/lang/String" "value" "[B") (.int (Int32.ofNat 73))) (.int (strB.getD 73 0)) ∈ flatC (Jvm.Cond.and given_1 narrow_1) := List.mem_of_getElem? (i := 337) (by decide +kernel)
theorem se_74 : Cond.eq (.elem (.field (.string "LikenessPound$Tape" 19) "java/lang/String" "value" "[B") (.int (Int32.ofNat 74))) (.int (strB.getD 74 0)) ∈ flatC (Jvm.Cond.and given_1 narrow_1) := List.mem_of_getElem? (i := 338) (by decide +kernel)
theorem se_75 : Cond.eq (.elem (.field (.string "LikenessPound$Tape" 19) "java/lang/String" "value" "[B") (.int (Int32.ofNat 75))) (.int (strB.getD 75 0)) ∈ flatC (Jvm.Cond.and given_1 narrow_1) := List.mem_of_getElem? (i := 339) (by decide +kernel)
theorem se_76 : Cond.eq (.elem (.field (.string "LikenessPound$Tape" 19) "java/lang/String" "value" "[B") (.int (Int32.ofNat 76))) (.int (strB.getD 76 0)) ∈ flatC (Jvm.Cond.and given_1 narrow_1) := List.mem_of_getElem? (i := 340) (by decide +kernel)
theorem se_77 : Cond.eq (.elem (.field (.string "LikenessPound$Tape" 19) "java/lang/String" "value" "[B") (.int (Int32.ofNat 77))) (.int (strB.getD 77 0)) ∈ flatC (Jvm.Cond.and given_1 narrow_1) := List.mem_of_getElem? (i := 341) (by decide +kernel)
theorem se_78 : Cond.eq (.elem (.field (.string "LikenessPound$Tape" 19) "java/lang/String" "value" "[B") (.int (Int32.ofNat 78))) (.int (strB.getD 78 0)) ∈ flatC (Jvm.Cond.and given_1 narrow_1) := List.mem_of_getElem? (i := 342) (by decide +kernel)
theorem se_79 : Cond.eq (.elem (.field (.string "LikenessPound$Tape" 19) "java/lang/String" "value" "[B") (.int (Int32.ofNat 79))) (.int (strB.getD 79 0)) ∈ flatC (Jvm.Cond.and given_1 narrow_1) := List.mem_of_getElem? (i := 343) (by decide +kernel)
theorem se_80 : Cond.eq (.elem (.field (.string "LikenessPound$Tape" 19) "java/lang/String" "value" "[B") (.int (Int32.ofNat 80))) (.int (strB.getD 80 0)) ∈ flatC (Jvm.Cond.and given_1 narrow_1) := List.mem_of_getElem? (i := 344) (by decide +kernel)
theorem se_81 : Cond.eq (.elem (.field (.string "LikenessPound$Tape" 19) "java/lang/String" "value" "[B") (.int (Int32.ofNat 81))) (.int (strB.getD 81 0)) ∈ flatC (Jvm.Cond.and given_1 narrow_1) := List.mem_of_getElem? (i := 345) (by decide +kernel)
theorem se_82 : Cond.eq (.elem (.field (.string "LikenessPound$Tape" 19) "java/lang/String" "value" "[B") (.int (Int32.ofNat 82))) (.int (strB.getD 82 0)) ∈ flatC (Jvm.Cond.and given_1 narrow_1) := List.mem_of_getElem? (i := 346) (by decide +kernel)
theorem se_83 : Cond.eq (.elem (.field (.string "LikenessPound$Tape" 19) "java/lang/String" "value" "[B") (.int (Int32.ofNat 83))) (.int (strB.getD 83 0)) ∈ flatC (Jvm.Cond.and given_1 narrow_1) := List.mem_of_getElem? (i := 347) (by decide +kernel)
theorem se_84 : Cond.eq (.elem (.field (.string "LikenessPound$Tape" 19) "java/lang/String" "value" "[B") (.int (Int32.ofNat 84))) (.int (strB.getD 84 0)) ∈ flatC (Jvm.Cond.and given_1 narrow_1) := List.mem_of_getElem? (i := 348) (by decide +kernel)
theorem se_85 : Cond.eq (.elem (.field (.string "LikenessPound$Tape" 19) "java/lang/String" "value" "[B") (.int (Int32.ofNat 85))) (.int (strB.getD 85 0)) ∈ flatC (Jvm.Cond.and given_1 narrow_1) := List.mem_of_getElem? (i := 349) (by decide +kernel)
theorem se_86 : Cond.eq (.elem (.field (.string "LikenessPound$Tape" 19) "java/lang/String" "value" "[B") (.int (Int32.ofNat 86))) (.int (strB.getD 86 0)) ∈ flatC (Jvm.Cond.and given_1 narrow_1) := List.mem_of_getElem? (i := 350) (by decide +kernel)
theorem se_87 : Cond.eq (.elem (.field (.string "LikenessPound$Tape" 19) "java/lang/String" "value" "[B") (.int (Int32.ofNat 87))) (.int (strB.getD 87 0)) ∈ flatC (Jvm.Cond.and given_1 narrow_1) := List.mem_of_getElem? (i := 351) (by decide +kernel)
theorem se_88 : Cond.eq (.elem (.field (.string "LikenessPound$Tape" 19) "java/lang/String" "value" "[B") (.int (Int32.ofNat 88))) (.int (strB.getD 88 0)) ∈ flatC (Jvm.Cond.and given_1 narrow_1) := List.mem_of_getElem? (i := 352) (by decide +kernel)
theorem se_89 : Cond.eq (.elem (.field (.string "LikenessPound$Tape" 19) "java/lang/String" "value" "[B") (.int (Int32.ofNat 89))) (.int (strB.getD 89 0)) ∈ flatC (Jvm.Cond.and given_1 narrow_1) := List.mem_of_getElem? (i := 353) (by decide +kernel)
theorem se_90 : Cond.eq (.elem (.field (.string "LikenessPound$Tape" 19) "java/lang/String" "value" "[B") (.int (Int32.ofNat 90))) (.int (strB.getD 90 0)) ∈ flatC (Jvm.Cond.and given_1 narrow_1) := List.mem_of_getElem? (i := 354) (by decide +kernel)
theorem se_91 : Cond.eq (.elem (.field (.string "LikenessPound$Tape" 19) "java/lang/String" "value" "[B") (.int (Int32.ofNat 91))) (.int (strB.getD 91 0)) ∈ flatC (Jvm.Cond.and given_1 narrow_1) := List.mem_of_getElem? (i := 355) (by decide +kernel)
theorem se_92 : Cond.eq (.elem (.field (.string "LikenessPound$Tape" 19) "java/lang/String" "value" "[B") (.int (Int32.ofNat 92))) (.int (strB.getD 92 0)) ∈ flatC (Jvm.Cond.and given_1 narrow_1) := List.mem_of_getElem? (i := 356) (by decide +kernel)
theorem se_93 : Cond.eq (.elem (.field (.string "LikenessPound$Tape" 19) "java/lang/String" "value" "[B") (.int (Int32.ofNat 93))) (.int (strB.getD 93 0)) ∈ flatC (Jvm.Cond.and given_1 narrow_1) := List.mem_of_getElem? (i := 357) (by decide +kernel)
theorem se_94 : Cond.eq (.elem (.field (.string "LikenessPound$Tape" 19) "java/lang/String" "value" "[B") (.int (Int32.ofNat 94))) (.int (strB.getD 94 0)) ∈ flatC (Jvm.Cond.and given_1 narrow_1) := List.mem_of_getElem? (i := 358) (by decide +kernel)
theorem se_95 : Cond.eq (.elem (.field (.string "LikenessPound$Tape" 19) "java/lang/String" "value" "[B") (.int (Int32.ofNat 95))) (.int (strB.getD 95 0)) ∈ flatC (Jvm.Cond.and given_1 narrow_1) := List.mem_of_getElem? (i := 359) (by decide +kernel)
theorem se_96 : Cond.eq (.elem (.field (.string "LikenessPound$Tape" 19) "java/lang/String" "value" "[B") (.int (Int32.ofNat 96))) (.int (strB.getD 96 0)) ∈ flatC (Jvm.Cond.and given_1 narrow_1) := List.mem_of_getElem? (i := 360) (by decide +kernel)
theorem se_97 : Cond.eq (.elem (.field (.string "LikenessPound$Tape" 19) "java/lang/String" "value" "[B") (.int (Int32.ofNat 97))) (.int (strB.getD 97 0)) ∈ flatC (Jvm.Cond.and given_1 narrow_1) := List.mem_of_getElem? (i := 361) (by decide +kernel)
theorem se_98 : Cond.eq (.elem (.field (.string "LikenessPound$Tape" 19) "java/lang/String" "value" "[B") (.int (Int32.ofNat 98))) (.int (strB.getD 98 0)) ∈ flatC (Jvm.Cond.and given_1 narrow_1) := List.mem_of_getElem? (i := 362) (by decide +kernel)
theorem se_99 : Cond.eq (.elem (.field (.string "LikenessPound$Tape" 19) "java/lang/String" "value" "[B") (.int (Int32.ofNat 99))) (.int (strB.getD 99 0)) ∈ flatC (Jvm.Cond.and given_1 narrow_1) := List.mem_of_getElem? (i := 363) (by decide +kernel)
theorem se_100 : Cond.eq (.elem (.field (.string "LikenessPound$Tape" 19) "java/lang/String" "value" "[B") (.int (Int32.ofNat 100))) (.int (strB.getD 100 0)) ∈ flatC (Jvm.Cond.and given_1 narrow_1) := List.mem_of_getElem? (i := 364) (by decide +kernel)
theorem se_101 : Cond.eq (.elem (.field (.string "LikenessPound$Tape" 19) "java/lang/String" "value" "[B") (.int (Int32.ofNat 101))) (.int (strB.getD 101 0)) ∈ flatC (Jvm.Cond.and given_1 narrow_1) := List.mem_of_getElem? (i := 365) (by decide +kernel)
theorem se_102 : Cond.eq (.elem (.field (.string "LikenessPound$Tape" 19) "java/lang/String" "value" "[B") (.int (Int32.ofNat 102))) (.int (strB.getD 102 0)) ∈ flatC (Jvm.Cond.and given_1 narrow_1) := List.mem_of_getElem? (i := 366) (by decide +kernel)
theorem se_103 : Cond.eq (.elem (.field (.string "LikenessPound$Tape" 19) "java/lang/String" "value" "[B") (.int (Int32.ofNat 103))) (.int (strB.getD 103 0)) ∈ flatC (Jvm.Cond.and given_1 narrow_1) := List.mem_of_getElem? (i := 367) (by decide +kernel)
theorem se_104 : Cond.eq (.elem (.field (.string "LikenessPound$Tape" 19) "java/lang/String" "value" "[B") (.int (Int32.ofNat 104))) (.int (strB.getD 104 0)) ∈ flatC (Jvm.Cond.and given_1 narrow_1) := List.mem_of_getElem? (i := 368) (by decide +kernel)
theorem se_105 : Cond.eq (.elem (.field (.string "LikenessPound$Tape" 19) "java/lang/String" "value" "[B") (.int (Int32.ofNat 105))) (.int (strB.getD 105 0)) ∈ flatC (Jvm.Cond.and given_1 narrow_1) := List.mem_of_getElem? (i := 369) (by decide +kernel)
theorem se_106 : Cond.eq (.elem (.field (.string "LikenessPound$Tape" 19) "java/lang/String" "value" "[B") (.int (Int32.ofNat 106))) (.int (strB.getD 106 0)) ∈ flatC (Jvm.Cond.and given_1 narrow_1) := List.mem_of_getElem? (i := 370) (by decide +kernel)
theorem se_107 : Cond.eq (.elem (.field (.string "LikenessPound$Tape" 19) "java/lang/String" "value" "[B") (.int (Int32.ofNat 107))) (.int (strB.getD 107 0)) ∈ flatC (Jvm.Cond.and given_1 narrow_1) := List.mem_of_getElem? (i := 371) (by decide +kernel)
theorem se_108 : Cond.eq (.elem (.field (.string "LikenessPound$Tape" 19) "java/lang/String" "value" "[B") (.int (Int32.ofNat 108))) (.int (strB.getD 108 0)) ∈ flatC (Jvm.Cond.and given_1 narrow_1) := List.mem_of_getElem? (i := 372) (by decide +kernel)
theorem se_109 : Cond.eq (.elem (.field (.string "LikenessPound$Tape" 19) "java/lang/String" "value" "[B") (.int (Int32.ofNat 109))) (.int (strB.getD 109 0)) ∈ flatC (Jvm.Cond.and given_1 narrow_1) := List.mem_of_getElem? (i := 373) (by decide +kernel)
theorem se_110 : Cond.eq (.elem (.field (.string "LikenessPound$Tape" 19) "java/lang/String" "value" "[B") (.int (Int32.ofNat 110))) (.int (strB.getD 110 0)) ∈ flatC (Jvm.Cond.and given_1 narrow_1) := List.mem_of_getElem? (i := 374) (by decide +kernel)
theorem se_111 : Cond.eq (.elem (.field (.string "LikenessPound$Tape" 19) "java/lang/String" "value" "[B") (.int (Int32.ofNat 111))) (.int (strB.getD 111 0)) ∈ flatC (Jvm.Cond.and given_1 narrow_1) := List.mem_of_getElem? (i := 375) (by decide +kernel)
theorem se_112 : Cond.eq (.elem (.field (.string "LikenessPound$Tape" 19) "java/lang/String" "value" "[B") (.int (Int32.ofNat 112))) (.int (strB.getD 112 0)) ∈ flatC (Jvm.Cond.and given_1 narrow_1) := List.mem_of_getElem? (i := 376) (by decide +kernel)
theorem se_113 : Cond.eq (.elem (.field (.string "LikenessPound$Tape" 19) "java/lang/String" "value" "[B") (.int (Int32.ofNat 113))) (.int (strB.getD 113 0)) ∈ flatC (Jvm.Cond.and given_1 narrow_1) := List.mem_of_getElem? (i := 377) (by decide +kernel)
theorem se_114 : Cond.eq (.elem (.field (.string "LikenessPound$Tape" 19) "java/lang/String" "value" "[B") (.int (Int32.ofNat 114))) (.int (strB.getD 114 0)) ∈ flatC (Jvm.Cond.and given_1 narrow_1) := List.mem_of_getElem? (i := 378) (by decide +kernel)
theorem se_115 : Cond.eq (.elem (.field (.string "LikenessPound$Tape" 19) "java/lang/String" "value" "[B") (.int (Int32.ofNat 115))) (.int (strB.getD 115 0)) ∈ flatC (Jvm.Cond.and given_1 narrow_1) := List.mem_of_getElem? (i := 379) (by decide +kernel)
theorem se_116 : Cond.eq (.elem (.field (.string "LikenessPound$Tape" 19) "java/lang/String" "value" "[B") (.int (Int32.ofNat 116))) (.int (strB.getD 116 0)) ∈ flatC (Jvm.Cond.and given_1 narrow_1) := List.mem_of_getElem? (i := 380) (by decide +kernel)
theorem se_117 : Cond.eq (.elem (.field (.string "LikenessPound$Tape" 19) "java/lang/String" "value" "[B") (.int (Int32.ofNat 117))) (.int (strB.getD 117 0)) ∈ flatC (Jvm.Cond.and given_1 narrow_1) := List.mem_of_getElem? (i := 381) (by decide +kernel)
theorem se_118 : Cond.eq (.elem (.field (.string "LikenessPound$Tape" 19) "java/lang/String" "value" "[B") (.int (Int32.ofNat 118))) (.int (strB.getD 118 0)) ∈ flatC (Jvm.Cond.and given_1 narrow_1) := List.mem_of_getElem? (i := 382) (by decide +kernel)
theorem se_119 : Cond.eq (.elem (.field (.string "LikenessPound$Tape" 19) "java/lang/String" "value" "[B") (.int (Int32.ofNat 119))) (.int (strB.getD 119 0)) ∈ flatC (Jvm.Cond.and given_1 narrow_1) := List.mem_of_getElem? (i := 383) (by decide +kernel)
theorem se_120 : Cond.eq (.elem (.field (.string "LikenessPound$Tape" 19) "java/lang/String" "value" "[B") (.int (Int32.ofNat 120))) (.int (strB.getD 120 0)) ∈ flatC (Jvm.Cond.and given_1 narrow_1) := List.mem_of_getElem? (i := 384) (by decide +kernel)
theorem se_121 : Cond.eq (.elem (.field (.string "LikenessPound$Tape" 19) "java/lang/String" "value" "[B") (.int (Int32.ofNat 121))) (.int (strB.getD 121 0)) ∈ flatC (Jvm.Cond.and given_1 narrow_1) := List.mem_of_getElem? (i := 385) (by decide +kernel)
theorem se_122 : Cond.eq (.elem (.field (.string "LikenessPound$Tape" 19) "java/lang/String" "value" "[B") (.int (Int32.ofNat 122))) (.int (strB.getD 122 0)) ∈ flatC (Jvm.Cond.and given_1 narrow_1) := List.mem_of_getElem? (i := 386) (by decide +kernel)
theorem se_123 : Cond.eq (.elem (.field (.string "LikenessPound$Tape" 19) "java/lang/String" "value" "[B") (.int (Int32.ofNat 123))) (.int (strB.getD 123 0)) ∈ flatC (Jvm.Cond.and given_1 narrow_1) := List.mem_of_getElem? (i := 387) (by decide +kernel)
theorem se_124 : Cond.eq (.elem (.field (.string "LikenessPound$Tape" 19) "java/lang/String" "value" "[B") (.int (Int32.ofNat 124))) (.int (strB.getD 124 0)) ∈ flatC (Jvm.Cond.and given_1 narrow_1) := List.mem_of_getElem? (i := 388) (by decide +kernel)
theorem se_125 : Cond.eq (.elem (.field (.string "LikenessPound$Tape" 19) "java/lang/String" "value" "[B") (.int (Int32.ofNat 125))) (.int (strB.getD 125 0)) ∈ flatC (Jvm.Cond.and given_1 narrow_1) := List.mem_of_getElem? (i := 389) (by decide +kernel)
theorem se_126 : Cond.eq (.elem (.field (.string "LikenessPound$Tape" 19) "java/lang/String" "value" "[B") (.int (Int32.ofNat 126))) (.int (strB.getD 126 0)) ∈ flatC (Jvm.Cond.and given_1 narrow_1) := List.mem_of_getElem? (i := 390) (by decide +kernel)
theorem se_127 : Cond.eq (.elem (.field (.string "LikenessPound$Tape" 19) "java/lang/String" "value" "[B") (.int (Int32.ofNat 127))) (.int (strB.getD 127 0)) ∈ flatC (Jvm.Cond.and given_1 narrow_1) := List.mem_of_getElem? (i := 391) (by decide +kernel)
theorem se_128 : Cond.eq (.elem (.field (.string "LikenessPound$Tape" 19) "java/lang/String" "value" "[B") (.int (Int32.ofNat 128))) (.int (strB.getD 128 0)) ∈ flatC (Jvm.Cond.and given_1 narrow_1) := List.mem_of_getElem? (i := 392) (by decide +kernel)
theorem se_129 : Cond.eq (.elem (.field (.string "LikenessPound$Tape" 19) "java/lang/String" "value" "[B") (.int (Int32.ofNat 129))) (.int (strB.getD 129 0)) ∈ flatC (Jvm.Cond.and given_1 narrow_1) := List.mem_of_getElem? (i := 393) (by decide +kernel)
theorem se_130 : Cond.eq (.elem (.field (.string "LikenessPound$Tape" 19) "java/lang/String" "value" "[B") (.int (Int32.ofNat 130))) (.int (strB.getD 130 0)) ∈ flatC (Jvm.Cond.and given_1 narrow_1) := List.mem_of_getElem? (i := 394) (by decide +kernel)
theorem se_131 : Cond.eq (.elem (.field (.string "LikenessPound$Tape" 19) "java/lang/String" "value" "[B") (.int (Int32.ofNat 131))) (.int (strB.getD 131 0)) ∈ flatC (Jvm.Cond.and given_1 narrow_1) := List.mem_of_getElem? (i := 395) (by decide +kernel)
theorem se_132 : Cond.eq (.elem (.field (.string "LikenessPound$Tape" 19) "java/lang/String" "value" "[B") (.int (Int32.ofNat 132))) (.int (strB.getD 132 0)) ∈ flatC (Jvm.Cond.and given_1 narrow_1) := List.mem_of_getElem? (i := 396) (by decide +kernel)
theorem se_133 : Cond.eq (.elem (.field (.string "LikenessPound$Tape" 19) "java/lang/String" "value" "[B") (.int (Int32.ofNat 133))) (.int (strB.getD 133 0)) ∈ flatC (Jvm.Cond.and given_1 narrow_1) := List.mem_of_getElem? (i := 397) (by decide +kernel)
theorem se_134 : Cond.eq (.elem (.field (.string "LikenessPound$Tape" 19) "java/lang/String" "value" "[B") (.int (Int32.ofNat 134))) (.int (strB.getD 134 0)) ∈ flatC (Jvm.Cond.and given_1 narrow_1) := List.mem_of_getElem? (i := 398) (by decide +kernel)
theorem se_135 : Cond.eq (.elem (.field (.string "LikenessPound$Tape" 19) "java/lang/String" "value" "[B") (.int (Int32.ofNat 135))) (.int (strB.getD 135 0)) ∈ flatC (Jvm.Cond.and given_1 narrow_1) := List.mem_of_getElem? (i := 399) (by decide +kernel)
theorem se_136 : Cond.eq (.elem (.field (.string "LikenessPound$Tape" 19) "java/lang/String" "value" "[B") (.int (Int32.ofNat 136))) (.int (strB.getD 136 0)) ∈ flatC (Jvm.Cond.and given_1 narrow_1) := List.mem_of_getElem? (i := 400) (by decide +kernel)
theorem se_137 : Cond.eq (.elem (.field (.string "LikenessPound$Tape" 19) "java/lang/String" "value" "[B") (.int (Int32.ofNat 137))) (.int (strB.getD 137 0)) ∈ flatC (Jvm.Cond.and given_1 narrow_1) := List.mem_of_getElem? (i := 401) (by decide +kernel)
theorem se_138 : Cond.eq (.elem (.field (.string "LikenessPound$Tape" 19) "java/lang/String" "value" "[B") (.int (Int32.ofNat 138))) (.int (strB.getD 138 0)) ∈ flatC (Jvm.Cond.and given_1 narrow_1) := List.mem_of_getElem? (i := 402) (by decide +kernel)
theorem se_139 : Cond.eq (.elem (.field (.string "LikenessPound$Tape" 19) "java/lang/String" "value" "[B") (.int (Int32.ofNat 139))) (.int (strB.getD 139 0)) ∈ flatC (Jvm.Cond.and given_1 narrow_1) := List.mem_of_getElem? (i := 403) (by decide +kernel)
theorem se_140 : Cond.eq (.elem (.field (.string "LikenessPound$Tape" 19) "java/lang/String" "value" "[B") (.int (Int32.ofNat 140))) (.int (strB.getD 140 0)) ∈ flatC (Jvm.Cond.and given_1 narrow_1) := List.mem_of_getElem? (i := 404) (by decide +kernel)
theorem se_141 : Cond.eq (.elem (.field (.string "LikenessPound$Tape" 19) "java/lang/String" "value" "[B") (.int (Int32.ofNat 141))) (.int (strB.getD 141 0)) ∈ flatC (Jvm.Cond.and given_1 narrow_1) := List.mem_of_getElem? (i := 405) (by decide +kernel)
theorem se_142 : Cond.eq (.elem (.field (.string "LikenessPound$Tape" 19) "java/lang/String" "value" "[B") (.int (Int32.ofNat 142))) (.int (strB.getD 142 0)) ∈ flatC (Jvm.Cond.and given_1 narrow_1) := List.mem_of_getElem? (i := 406) (by decide +kernel)
theorem se_143 : Cond.eq (.elem (.field (.string "LikenessPound$Tape" 19) "java/lang/String" "value" "[B") (.int (Int32.ofNat 143))) (.int (strB.getD 143 0)) ∈ flatC (Jvm.Cond.and given_1 narrow_1) := List.mem_of_getElem? (i := 407) (by decide +kernel)
theorem se_144 : Cond.eq (.elem (.field (.string "LikenessPound$Tape" 19) "java/lang/String" "value" "[B") (.int (Int32.ofNat 144))) (.int (strB.getD 144 0)) ∈ flatC (Jvm.Cond.and given_1 narrow_1) := List.mem_of_getElem? (i := 408) (by decide +kernel)
theorem se_145 : Cond.eq (.elem (.field (.string "LikenessPound$Tape" 19) "java/lang/String" "value" "[B") (.int (Int32.ofNat 145))) (.int (strB.getD 145 0)) ∈ flatC (Jvm.Cond.and given_1 narrow_1) := List.mem_of_getElem? (i := 409) (by decide +kernel)
theorem se_146 : Cond.eq (.elem (.field (.string "LikenessPound$Tape" 19) "java/lang/String" "value" "[B") (.int (Int32.ofNat 146))) (.int (strB.getD 146 0)) ∈ flatC (Jvm.Cond.and given_1 narrow_1) := List.mem_of_getElem? (i := 410) (by decide +kernel)
theorem se_147 : Cond.eq (.elem (.field (.string "LikenessPound$Tape" 19) "java/lang/String" "value" "[B") (.int (Int32.ofNat 147))) (.int (strB.getD 147 0)) ∈ flatC (Jvm.Cond.and given_1 narrow_1) := List.mem_of_getElem? (i := 411) (by decide +kernel)
theorem se_148 : Cond.eq (.elem (.field (.string "LikenessPound$Tape" 19) "java/lang/String" "value" "[B") (.int (Int32.ofNat 148))) (.int (strB.getD 148 0)) ∈ flatC (Jvm.Cond.and given_1 narrow_1) := List.mem_of_getElem? (i := 412) (by decide +kernel)
theorem se_149 : Cond.eq (.elem (.field (.string "LikenessPound$Tape" 19) "java/lang/String" "value" "[B") (.int (Int32.ofNat 149))) (.int (strB.getD 149 0)) ∈ flatC (Jvm.Cond.and given_1 narrow_1) := List.mem_of_getElem? (i := 413) (by decide +kernel)
theorem se_150 : Cond.eq (.elem (.field (.string "LikenessPound$Tape" 19) "java/lang/String" "value" "[B") (.int (Int32.ofNat 150))) (.int (strB.getD 150 0)) ∈ flatC (Jvm.Cond.and given_1 narrow_1) := List.mem_of_getElem? (i := 414) (by decide +kernel)
theorem se_151 : Cond.eq (.elem (.field (.string "LikenessPound$Tape" 19) "java/lang/String" "value" "[B") (.int (Int32.ofNat 151))) (.int (strB.getD 151 0)) ∈ flatC (Jvm.Cond.and given_1 narrow_1) := List.mem_of_getElem? (i := 415) (by decide +kernel)
theorem se_152 : Cond.eq (.elem (.field (.string "LikenessPound$Tape" 19) "java/lang/String" "value" "[B") (.int (Int32.ofNat 152))) (.int (strB.getD 152 0)) ∈ flatC (Jvm.Cond.and given_1 narrow_1) := List.mem_of_getElem? (i := 416) (by decide +kernel)
theorem str_el : ∀ j, j < 153 → Cond.eq (.elem (.field (.string "LikenessPound$Tape" 19) "java/lang/String" "value" "[B") (.int (Int32.ofNat j))) (.int (strB.getD j 0)) ∈ flatC (Jvm.Cond.and given_1 narrow_1) := fun j hj => by
  match j, hj with
  | 0, _ => exact se_0
  | 1, _ => exact se_1
  | 2, _ => exact se_2
  | 3, _ => exact se_3
  | 4, _ => exact se_4
  | 5, _ => exact se_5
  | 6, _ => exact se_6
  | 7, _ => exact se_7
  | 8, _ => exact se_8
  | 9, _ => exact se_9
  | 10, _ => exact se_10
  | 11, _ => exact se_11
  | 12, _ => exact se_12
  | 13, _ => exact se_13
  | 14, _ => exact se_14
  | 15, _ => exact se_15
  | 16, _ => exact se_16
  | 17, _ => exact se_17
  | 18, _ => exact se_18
  | 19, _ => exact se_19
  | 20, _ => exact se_20
  | 21, _ => exact se_21
  | 22, _ => exact se_22
  | 23, _ => exact se_23
  | 24, _ => exact se_24
  | 25, _ => exact se_25
  | 26, _ => exact se_26
  | 27, _ => exact se_27
  | 28, _ => exact se_28
  | 29, _ => exact se_29
  | 30, _ => exact se_30
  | 31, _ => exact se_31
  | 32, _ => exact se_32
  | 33, _ => exact se_33
  | 34, _ => exact se_34
  | 35, _ => exact se_35
  | 36, _ => exact se_36
  | 37, _ => exact se_37
  | 38, _ => exact se_38
  | 39, _ => exact se_39
  | 40, _ => exact se_40
  | 41, _ => exact se_41
  | 42, _ => exact se_42
  | 43, _ => exact se_43
  | 44, _ => exact se_44
  | 45, _ => exact se_45
  | 46, _ => exact se_46
  | 47, _ => exact se_47
  | 48, _ => exact se_48
  | 49, _ => exact se_49
  | 50, _ => exact se_50
  | 51, _ => exact se_51
  | 52, _ => exact se_52
  | 53, _ => exact se_53
  | 54, _ => exact se_54
  | 55, _ => exact se_55
  | 56, _ => exact se_56
  | 57, _ => exact se_57
  | 58, _ => exact se_58
  | 59, _ => exact se_59
  | 60, _ => exact se_60
  | 61, _ => exact se_61
  | 62, _ => exact se_62
  | 63, _ => exact se_63
  | 64, _ => exact se_64
  | 65, _ => exact se_65
  | 66, _ => exact se_66
  | 67, _ => exact se_67
  | 68, _ => exact se_68
  | 69, _ => exact se_69
  | 70, _ => exact se_70
  | 71, _ => exact se_71
  | 72, _ => exact se_72
  | 73, _ => exact se_73
  | 74, _ => exact se_74
  | 75, _ => exact se_75
  | 76, _ => exact se_76
  | 77, _ => exact se_77
  | 78, _ => exact se_78
  | 79, _ => exact se_79
  | 80, _ => exact se_80
  | 81, _ => exact se_81
  | 82, _ => exact se_82
  | 83, _ => exact se_83
  | 84, _ => exact se_84
  | 85, _ => exact se_85
  | 86, _ => exact se_86
  | 87, _ => exact se_87
  | 88, _ => exact se_88
  | 89, _ => exact se_89
  | 90, _ => exact se_90
  | 91, _ => exact se_91
  | 92, _ => exact se_92
  | 93, _ => exact se_93
  | 94, _ => exact se_94
  | 95, _ => exact se_95
  | 96, _ => exact se_96
  | 97, _ => exact se_97
  | 98, _ => exact se_98
  | 99, _ => exact se_99
  | 100, _ => exact se_100
  | 101, _ => exact se_101
  | 102, _ => exact se_102
  | 103, _ => exact se_103
  | 104, _ => exact se_104
  | 105, _ => exact se_105
  | 106, _ => exact se_106
  | 107, _ => exact se_107
  | 108, _ => exact se_108
  | 109, _ => exact se_109
  | 110, _ => exact se_110
  | 111, _ => exact se_111
  | 112, _ => exact se_112
  | 113, _ => exact se_113
  | 114, _ => exact se_114
  | 115, _ => exact se_115
  | 116, _ => exact se_116
  | 117, _ => exact se_117
  | 118, _ => exact se_118
  | 119, _ => exact se_119
  | 120, _ => exact se_120
  | 121, _ => exact se_121
  | 122, _ => exact se_122
  | 123, _ => exact se_123
  | 124, _ => exact se_124
  | 125, _ => exact se_125
  | 126, _ => exact se_126
  | 127, _ => exact se_127
  | 128, _ => exact se_128
  | 129, _ => exact se_129
  | 130, _ => exact se_130
  | 131, _ => exact se_131
  | 132, _ => exact se_132
  | 133, _ => exact se_133
  | 134, _ => exact se_134
  | 135, _ => exact se_135
  | 136, _ => exact se_136
  | 137, _ => exact se_137
  | 138, _ => exact se_138
  | 139, _ => exact se_139
  | 140, _ => exact se_140
  | 141, _ => exact se_141
  | 142, _ => exact se_142
  | 143, _ => exact se_143
  | 144, _ => exact se_144
  | 145, _ => exact se_145
  | 146, _ => exact se_146
  | 147, _ => exact se_147
  | 148, _ => exact se_148
  | 149, _ => exact se_149
  | 150, _ => exact se_150
  | 151, _ => exact se_151
  | 152, _ => exact se_152
  | j + 153, h => exact absurd h (by omega)
