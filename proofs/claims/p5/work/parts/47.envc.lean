theorem env_b {s : State} {b : Nat} (hts : ∀ w ∈ lw_tbl, w.before #[Value.ref b] s = true) (hgv : (Jvm.Cond.and given_1 narrow_1).before #[Value.ref b] s = true) : ∃ kS vS : Nat → Nat, EnvB (FA s) kS vS s := by
  have hs := flat_of_before _ hgv
  have hA : ∀ a : Nat, a < s.heap.size → ¬ FA s a := fun a h => Nat.not_le.mpr h
  obtain ⟨kS, vS, h1, h2⟩ := vk_Sof (args := #[Value.ref b]) (s := s) (N := 4) (tm := fun i => Term.string "LikenessPound" (([330, 342, 344, 349] : List Nat).getD i 0)) (len := [7, 9, 7, 6]) (byt := sbB) (A := FA s)
    (fun i hi => by
      match i, hi with
      | 0, _ => exact (by decide)
      | 1, _ => exact (by decide)
      | 2, _ => exact (by decide)
      | 3, _ => exact (by decide)
      | i + 4, h => exact absurd h (by omega))
    (fun i hi => by
      match i, hi with
      | 0, _ => exact (hs _ (by decide +kernel))
      | 1, _ => exact (hs _ (by decide +kernel))
      | 2, _ => exact (hs _ (by decide +kernel))
      | 3, _ => exact (hs _ (by decide +kernel))
      | i + 4, h => exact absurd h (by omega)) (fun i hi => by
      match i, hi with
      | 0, _ => exact (hs _ (by decide +kernel))
      | 1, _ => exact (hs _ (by decide +kernel))
      | 2, _ => exact (hs _ (by decide +kernel))
      | 3, _ => exact (hs _ (by decide +kernel))
      | i + 4, h => exact absurd h (by omega)) (fun i hi => by
      match i, hi with
      | 0, _ => exact (hs _ (by decide +kernel))
      | 1, _ => exact (hs _ (by decide +kernel))
      | 2, _ => exact (hs _ (by decide +kernel))
      | 3, _ => exact (hs _ (by decide +kernel))
      | i + 4, h => exact absurd h (by omega))
    (fun i hi => by
      match i, hi with
      | 0, _ => exact (hs _ (by decide +kernel))
      | 1, _ => exact (hs _ (by decide +kernel))
      | 2, _ => exact (hs _ (by decide +kernel))
      | 3, _ => exact (hs _ (by decide +kernel))
      | i + 4, h => exact absurd h (by omega))
    (fun i hi j hj => by
      match i, hi, hj with
      | 0, _, hj => exact hs _ (sb_el0 j hj)
      | 1, _, hj => exact hs _ (sb_el1 j hj)
      | 2, _, hj => exact hs _ (sb_el2 j hj)
      | 3, _, hj => exact hs _ (sb_el3 j hj)
      | i + 4, h, _ => exact absurd h (by omega))
    (fun i j hi hj hne => by
      match i, j, hi, hj, hne with
      | 0, 1, _, _, _ => exact Or.inl (hs _ (by decide +kernel))
      | 0, 2, _, _, _ => exact Or.inl (hs _ (by decide +kernel))
      | 0, 3, _, _, _ => exact Or.inl (hs _ (by decide +kernel))
      | 1, 0, _, _, _ => exact Or.inr (hs _ (by decide +kernel))
      | 1, 2, _, _, _ => exact Or.inl (hs _ (by decide +kernel))
      | 1, 3, _, _, _ => exact Or.inl (hs _ (by decide +kernel))
      | 2, 0, _, _, _ => exact Or.inr (hs _ (by decide +kernel))
      | 2, 1, _, _, _ => exact Or.inr (hs _ (by decide +kernel))
      | 2, 3, _, _, _ => exact Or.inl (hs _ (by decide +kernel))
      | 3, 0, _, _, _ => exact Or.inr (hs _ (by decide +kernel))
      | 3, 1, _, _, _ => exact Or.inr (hs _ (by decide +kernel))
      | 3, 2, _, _, _ => exact Or.inr (hs _ (by decide +kernel))
      | 0, 0, _, _, h => exact absurd rfl h
      | 1, 1, _, _, h => exact absurd rfl h
      | 2, 2, _, _, h => exact absurd rfl h
      | 3, 3, _, _, h => exact absurd rfl h
      | i + 4, _, h, _, _ => exact absurd h (by omega)
      | 0, j + 4, _, h, _ => exact absurd h (by omega)
      | 1, j + 4, _, h, _ => exact absurd h (by omega)
      | 2, j + 4, _, h, _ => exact absurd h (by omega)
      | 3, j + 4, _, h, _ => exact absurd h (by omega)) hA
  obtain ⟨d1, hv1, hT1⟩ := va_Tof (args := #[Value.ref b]) (s := s) (tm := Term.static "java/lang/Integer" "DigitOnes" "[B") (ty := .byte) (N := 100) (f := dg1) (A := FA s) (by decide) (hs _ (by decide +kernel)) (va_eqt (hs _ (by decide +kernel))) (fun j hj => va_eqt (hs _ (dg_el0 j hj))) hA
  obtain ⟨d2, hv2, hT2⟩ := va_Tof (args := #[Value.ref b]) (s := s) (tm := Term.static "java/lang/Integer" "DigitTens" "[B") (ty := .byte) (N := 100) (f := dg2) (A := FA s) (by decide) (hs _ (by decide +kernel)) (va_eqt (hs _ (by decide +kernel))) (fun j hj => va_eqt (hs _ (dg_el1 j hj))) hA
  refine ⟨kS, fun i => if i = 4 then d1 else if i = 5 then d2 else vS i, vk_R.of (hts _ (List.mem_of_getElem? (i := 1148) (by decide +kernel))) (h2 0 (by decide)), vk_R.of (hts _ (List.mem_of_getElem? (i := 1235) (by decide +kernel))) (h2 1 (by decide)), vk_R.of (hts _ (List.mem_of_getElem? (i := 1236) (by decide +kernel))) (h2 2 (by decide)), vk_R.of (hts _ (List.mem_of_getElem? (i := 1262) (by decide +kernel))) (h2 3 (by decide)), ⟨fun i hi => ?_, h1.2⟩,
    va_Zof (hts _ (List.mem_of_getElem? (i := 167) (by decide +kernel))) (hts _ (List.mem_of_getElem? (i := 117) (by decide +kernel))) (va_eqi (hs _ (by decide +kernel))) hA,
    va_Zqof (hts _ (List.mem_of_getElem? (i := 183) (by decide +kernel))) (hts _ (List.mem_of_getElem? (i := 119) (by decide +kernel))) (hs _ (by decide +kernel)) hA,
    va_Zref (hts _ (List.mem_of_getElem? (i := 1251) (by decide +kernel))) (hts _ (List.mem_of_getElem? (i := 140) (by decide +kernel))) hv1 hA, hT1,
    va_Zref (hts _ (List.mem_of_getElem? (i := 1253) (by decide +kernel))) (hts _ (List.mem_of_getElem? (i := 140) (by decide +kernel))) hv2 hA, hT2, va_tabs rfl rfl (vb_sel (y := yp0) (z := ⟨"java/lang/AbstractStringBuilder", "isLatin1", "()Z"⟩) ⟨by decide, by decide⟩ (hts _ (List.mem_of_getElem? (i := 1099) (by decide +kernel))) (hts _ (List.mem_of_getElem? (i := 1100) (by decide +kernel))) (hts _ (List.mem_of_getElem? (i := 1132) (by decide +kernel))) rfl), va_tabs rfl rfl (vb_sel (y := yp1) (z := ⟨"java/lang/AbstractStringBuilder", "isLatin1", "()Z"⟩) ⟨by decide, by decide⟩ (hts _ (List.mem_of_getElem? (i := 1103) (by decide +kernel))) (hts _ (List.mem_of_getElem? (i := 1104) (by decide +kernel))) (hts _ (List.mem_of_getElem? (i := 1132) (by decide +kernel))) rfl), va_tabs rfl rfl (vb_sel (y := yp2) (z := ⟨"java/lang/AbstractStringBuilder", "isLatin1", "()Z"⟩) ⟨by decide, by decide⟩ (hts _ (List.mem_of_getElem? (i := 1177) (by decide +kernel))) (hts _ (List.mem_of_getElem? (i := 1178) (by decide +kernel))) (hts _ (List.mem_of_getElem? (i := 1132) (by decide +kernel))) rfl), va_tabs rfl rfl (vb_sel (y := yp3) (z := ⟨"java/lang/AbstractStringBuilder", "isLatin1", "()Z"⟩) ⟨by decide, by decide⟩ (hts _ (List.mem_of_getElem? (i := 1181) (by decide +kernel))) (hts _ (List.mem_of_getElem? (i := 1182) (by decide +kernel))) (hts _ (List.mem_of_getElem? (i := 1132) (by decide +kernel))) rfl)⟩
  have e4 : (if i = 4 then d1 else if i = 5 then d2 else vS i) = vS i := by rw [if_neg (by omega), if_neg (by omega)]
  simp only [e4]
  exact h1.1 i hi
