theorem dL_law_0 : decode cL_law 0 = .ok (.new 8, 3) := by decide +kernel
theorem dL_law_3 : decode cL_law 3 = .ok (.dup, 1) := by decide +kernel
theorem dL_law_4 : decode cL_law 4 = .ok (.invokespecial 15, 3) := by decide +kernel
theorem dL_law_7 : decode cL_law 7 = .ok (.astore_n 1, 1) := by decide +kernel
theorem dL_law_8 : decode cL_law 8 = .ok (.new 16, 3) := by decide +kernel
theorem dL_law_11 : decode cL_law 11 = .ok (.dup, 1) := by decide +kernel
theorem dL_law_12 : decode cL_law 12 = .ok (.invokespecial 18, 3) := by decide +kernel
theorem dL_law_15 : decode cL_law 15 = .ok (.astore_n 2, 1) := by decide +kernel
theorem dL_law_16 : decode cL_law 16 = .ok (.iconst 1, 1) := by decide +kernel
theorem dL_law_17 : decode cL_law 17 = .ok (.newarray .long, 2) := by decide +kernel
theorem dL_law_19 : decode cL_law 19 = .ok (.astore_n 3, 1) := by decide +kernel
theorem dL_law_20 : decode cL_law 20 = .ok (.iconst 0, 1) := by decide +kernel
theorem dL_law_21 : decode cL_law 21 = .ok (.istore 4, 2) := by decide +kernel
theorem dL_law_33 : decode cL_law 33 = .ok (.aload_n 0, 1) := by decide +kernel
theorem dL_law_34 : decode cL_law 34 = .ok (.iload 4, 2) := by decide +kernel
theorem dL_law_36 : decode cL_law 36 = .ok (.iaload, 1) := by decide +kernel
theorem dL_law_37 : decode cL_law 37 = .ok (.bipush 63, 2) := by decide +kernel
theorem dL_law_39 : decode cL_law 39 = .ok (.iand, 1) := by decide +kernel
theorem dL_law_40 : decode cL_law 40 = .ok (.tableswitch 1417 0 40 #[180, 253, 278, 291, 304, 372, 409, 446, 483, 508, 545, 582, 607, 644, 693, 718, 767, 816, 841, 866, 879, 904, 941, 966, 979, 993, 1018, 1055, 1080, 1105, 1118, 1143, 1168, 1205, 1254, 1279, 1304, 1317, 1342, 1367, 1392], 180) := by decide +kernel
theorem t29 : Cond.classLink RL 8 RX10 ∈ GW := gw_mem 143 (by decide +kernel) (by decide +kernel)
theorem t30 : Cond.instantiable RX10 17 ∈ GW := gw_mem 144 (by decide +kernel) (by decide +kernel)
theorem t1437 : Cond.classLink RL 16 RX11 ∈ GW := gw_mem 1551 (by decide +kernel) (by decide +kernel)
theorem t1431 : Cond.instantiable RX11 47 ∈ GW := gw_mem 1545 (by decide +kernel) (by decide +kernel)
theorem dfX10 : ∀ j, j < 17 → defaultValue (tyX10 j) = vp_V [.null, .null, .null, .null, .null, .null, .null, .null, .null, .null, .null, .null, .null, .int 0, .int 0, .int 0, .int 0] j := fun j hj => by
  match j, hj with
  | 0, _ => rfl
  | 1, _ => rfl
  | 2, _ => rfl
  | 3, _ => rfl
  | 4, _ => rfl
  | 5, _ => rfl
  | 6, _ => rfl
  | 7, _ => rfl
  | 8, _ => rfl
  | 9, _ => rfl
  | 10, _ => rfl
  | 11, _ => rfl
  | 12, _ => rfl
  | 13, _ => rfl
  | 14, _ => rfl
  | 15, _ => rfl
  | 16, _ => rfl
  | j + 17, h => exact absurd h (by omega)
theorem dfX11 : ∀ j, j < 47 → defaultValue (tyX11 j) = vp_V [.int 0, .null, .int 0, .int 0, .int 0, .int 0, .int 0, .int 0, .int 0, .int 0, .int 0, .int 0, .long 0, .int 0, .null, .null, .null, .null, .null, .null, .null, .null, .null, .null, .int 0, .int 0, .null, .null, .null, .int 0, .null, .null, .int 0, .int 0, .int 0, .null, .int 0, .int 0, .null, .null, .int 0, .int 0, .null, .int 0, .int 0, .int 0, .int 0] j := fun j hj => by
  match j, hj with
  | 0, _ => rfl
  | 1, _ => rfl
  | 2, _ => rfl
  | 3, _ => rfl
  | 4, _ => rfl
  | 5, _ => rfl
  | 6, _ => rfl
  | 7, _ => rfl
  | 8, _ => rfl
  | 9, _ => rfl
  | 10, _ => rfl
  | 11, _ => rfl
  | 12, _ => rfl
  | 13, _ => rfl
  | 14, _ => rfl
  | 15, _ => rfl
  | 16, _ => rfl
  | 17, _ => rfl
  | 18, _ => rfl
  | 19, _ => rfl
  | 20, _ => rfl
  | 21, _ => rfl
  | 22, _ => rfl
  | 23, _ => rfl
  | 24, _ => rfl
  | 25, _ => rfl
  | 26, _ => rfl
  | 27, _ => rfl
  | 28, _ => rfl
  | 29, _ => rfl
  | 30, _ => rfl
  | 31, _ => rfl
  | 32, _ => rfl
  | 33, _ => rfl
  | 34, _ => rfl
  | 35, _ => rfl
  | 36, _ => rfl
  | 37, _ => rfl
  | 38, _ => rfl
  | 39, _ => rfl
  | 40, _ => rfl
  | 41, _ => rfl
  | 42, _ => rfl
  | 43, _ => rfl
  | 44, _ => rfl
  | 45, _ => rfl
  | 46, _ => rfl
  | j + 47, h => exact absurd h (by omega)
theorem t31 : Cond.methodLink RL 15 yX10_init ∈ GW := gw_mem 145 (by decide +kernel) (by decide +kernel)
theorem t32 : Cond.instanceMethod yX10_init ∈ GW := gw_mem 146 (by decide +kernel) (by decide +kernel)
theorem cw_L_15 {R : Room} {s : State} {args : Array Value} {rm : Room} {mc ms : Nat} (hts : ∀ w ∈ GW, w.before args s = true) (hrc : rm.cells = mc) (hrs : rm.slots = ms) (hR : rm.frames + 1 ≤ R.frames ∧ 8 + (2 + 11) + rm.locals ≤ R.locals) : CallB R s args RL 15 yX10_init cX10_init 2 none (wl yX10_init cX10_init 2 none) rm mc ms 0 ∧ yX10_init.name = "<init>" ∧ (Cond.instanceMethod yX10_init).before args s = true := cwI 0 hts (gi_of t33) rfl hrc hrs (hts _ t1) (hts _ t31) (hts _ t32) rfl (by decide +kernel) hR
theorem t1438 : Cond.methodLink RL 18 yX11_init ∈ GW := gw_mem 1552 (by decide +kernel) (by decide +kernel)
theorem t1439 : Cond.instanceMethod yX11_init ∈ GW := gw_mem 1553 (by decide +kernel) (by decide +kernel)
theorem cw_L_18 {R : Room} {s : State} {args : Array Value} {rm : Room} {mc ms : Nat} (hts : ∀ w ∈ GW, w.before args s = true) (hrc : rm.cells = mc) (hrs : rm.slots = ms) (hR : rm.frames + 1 ≤ R.frames ∧ 8 + (1 + 11) + rm.locals ≤ R.locals) : CallB R s args RL 18 yX11_init cX11_init 1 none (wl yX11_init cX11_init 1 none) rm mc ms 0 ∧ yX11_init.name = "<init>" ∧ (Cond.instanceMethod yX11_init).before args s = true := cwI 0 hts (gi_of t1440) rfl hrc hrs (hts _ t18) (hts _ t1438) (hts _ t1439) rfl (by decide +kernel) hR

theorem str_el : ∀ j, j < 153 → Cond.eq (.elem (.field (.string "LikenessPound$Tape" 19) "java/lang/String" "value" "[B") (.int (Int32.ofNat j))) (.int (strB.getD j 0)) ∈ flatC (Jvm.Cond.and given_1 narrow_1) := by decide +kernel
theorem env_c {s : State} {b : Nat} (hts : ∀ w ∈ lw_tbl, w.before #[Value.ref b] s = true) (hgv : (Jvm.Cond.and given_1 narrow_1).before #[Value.ref b] s = true) : ∃ kS vS : Nat → Nat, EnvC (FA s) kS vS s := by
  have hs := flat_of_before _ hgv
  have hA : ∀ a : Nat, a < s.heap.size → ¬ FA s a := fun a h => Nat.not_le.mpr h
  obtain ⟨kS, vS, h1, h2⟩ := vk_Sof (args := #[Value.ref b]) (s := s) (N := 1) (tm := fun _ => Term.string "LikenessPound$Tape" 19) (len := [153]) (byt := [strB]) (A := FA s)
    (fun i hi => by obtain rfl : i = 0 := by omega
                    decide)
    (fun i hi => hs _ (by decide +kernel)) (fun i hi => hs _ (by decide +kernel)) (fun i hi => hs _ (by decide +kernel))
    (fun i hi => by obtain rfl : i = 0 := by omega
                    exact hs _ (by decide +kernel))
    (fun i hi j hj => by obtain rfl : i = 0 := by omega
                         exact hs _ (str_el j hj))
    (fun i j hi hj hne => absurd (by omega) hne) hA
  exact ⟨kS, vS, vk_R.of (hts _ (List.mem_of_getElem? (i := 157) (by decide +kernel))) (h2 0 (by decide)), h1,
    va_Zof (hts _ (List.mem_of_getElem? (i := 167) (by decide +kernel))) (hts _ (List.mem_of_getElem? (i := 117) (by decide +kernel))) (va_eqi (hs _ (by decide +kernel))) hA,
    va_Zqof (hts _ (List.mem_of_getElem? (i := 183) (by decide +kernel))) (hts _ (List.mem_of_getElem? (i := 119) (by decide +kernel))) (hs _ (by decide +kernel)) hA,
    va_AO.of (hts _ (List.mem_of_getElem? (i := 332) (by decide +kernel))), va_AO.of (hts _ (List.mem_of_getElem? (i := 475) (by decide +kernel))),
    va_Nw.of rfl (hts _ (List.mem_of_getElem? (i := 262) (by decide +kernel))), va_Nw.of rfl (hts _ (List.mem_of_getElem? (i := 285) (by decide +kernel))), va_Nw.of rfl (hts _ (List.mem_of_getElem? (i := 419) (by decide +kernel))), va_Nw.of rfl (hts _ (List.mem_of_getElem? (i := 429) (by decide +kernel))), va_Nw.of rfl (hts _ (List.mem_of_getElem? (i := 477) (by decide +kernel))), va_Nw.of rfl (hts _ (List.mem_of_getElem? (i := 483) (by decide +kernel))), va_Nw.of rfl (hts _ (List.mem_of_getElem? (i := 549) (by decide +kernel)))⟩
theorem env_x {s : State} {b : Nat} (hts : ∀ w ∈ lw_tbl, w.before #[Value.ref b] s = true) (hgv : (Jvm.Cond.and given_1 narrow_1).before #[Value.ref b] s = true) : EnvX (FA s) s := by
  have hs := flat_of_before _ hgv
  have hA : ∀ a : Nat, a < s.heap.size → ¬ FA s a := fun a h => Nat.not_le.mpr h
  exact ⟨vx_Zqof (hts _ (List.mem_of_getElem? (i := 1499) (by decide +kernel))) (hts _ (List.mem_of_getElem? (i := 133) (by decide +kernel))) (hs _ (by decide +kernel)) hA,
    vx_Zqof (hts _ (List.mem_of_getElem? (i := 1501) (by decide +kernel))) (hts _ (List.mem_of_getElem? (i := 133) (by decide +kernel))) (hs _ (by decide +kernel)) hA,
    va_Nw.of rfl (hts _ (List.mem_of_getElem? (i := 1475) (by decide +kernel))), va_Nw.of rfl (hts _ (List.mem_of_getElem? (i := 1477) (by decide +kernel))), va_Nw.of rfl (hts _ (List.mem_of_getElem? (i := 1479) (by decide +kernel))), va_Nw.of rfl (hts _ (List.mem_of_getElem? (i := 1474) (by decide +kernel)))⟩
