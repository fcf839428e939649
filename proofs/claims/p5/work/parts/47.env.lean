theorem env_c {s : State} {b : Nat} (hts : ∀ w ∈ lw_tbl, w.before #[Value.ref b] s = true) (hgv : (Jvm.Cond.and given_1 narrow_1).before #[Value.ref b] s = true) : ∃ kS vS : Nat → Nat, EnvC (FA s) kS vS s := by
  have hs := flat_of_before _ hgv
  have hA : ∀ a : Nat, a < s.heap.size → ¬ FA s a := fun a h => Nat.not_le.mpr h
  obtain ⟨kS, vS, h1, h2⟩ := vk_Sof (args := #[Value.ref b]) (s := s) (N := 1) (tm := fun _ => Term.string "LikenessPound$Tape" 19) (len := [153]) (byt := [strB]) (A := FA s)
    (fun i hi => by obtain rfl : i = 0 := by omega
                    decide)
    (fun i hi => hs _ (by decide +kernel)) (fun i hi => hs _ (by decide +kernel)) (fun i hi => hs _ (by decide +kernel))
    (fun i hi => by obtain rfl : i = 0 := by omega
                    exact hs _ (by decide +kernel))
    (fun i hi j hj => by obtain rfl : i = 0 := by omega
                         exact hs _ (str_el j hj))
    (fun i j hi hj hne => absurd (by omega) hne) hA
  exact ⟨kS, vS, vk_R.of (hts _ (List.mem_of_getElem? (i := 157) (by decide +kernel))) (h2 0 (by decide)), h1,
    va_Zof (hts _ (List.mem_of_getElem? (i := 167) (by decide +kernel))) (hts _ (List.mem_of_getElem? (i := 117) (by decide +kernel))) (va_eqi (hs _ (by decide +kernel))) hA,
    va_Zqof (hts _ (List.mem_of_getElem? (i := 183) (by decide +kernel))) (hts _ (List.mem_of_getElem? (i := 119) (by decide +kernel))) (hs _ (by decide +kernel)) hA,
    va_AO.of (hts _ (List.mem_of_getElem? (i := 332) (by decide +kernel))), va_AO.of (hts _ (List.mem_of_getElem? (i := 475) (by decide +kernel))),
    va_Nw.of rfl (hts _ (List.mem_of_getElem? (i := 262) (by decide +kernel))), va_Nw.of rfl (hts _ (List.mem_of_getElem? (i := 285) (by decide +kernel))), va_Nw.of rfl (hts _ (List.mem_of_getElem? (i := 419) (by decide +kernel))), va_Nw.of rfl (hts _ (List.mem_of_getElem? (i := 429) (by decide +kernel))), va_Nw.of rfl (hts _ (List.mem_of_getElem? (i := 477) (by decide +kernel))), va_Nw.of rfl (hts _ (List.mem_of_getElem? (i := 483) (by decide +kernel))), va_Nw.of rfl (hts _ (List.mem_of_getElem? (i := 549) (by decide +kernel)))⟩
theorem env_x {s : State} {b : Nat} (hts : ∀ w ∈ lw_tbl, w.before #[Value.ref b] s = true) (hgv : (Jvm.Cond.and given_1 narrow_1).before #[Value.ref b] s = true) : EnvX (FA s) s := by
  have hs := flat_of_before _ hgv
  have hA : ∀ a : Nat, a < s.heap.size → ¬ FA s a := fun a h => Nat.not_le.mpr h
  exact ⟨vx_Zqof (hts _ (List.mem_of_getElem? (i := 1499) (by decide +kernel))) (hts _ (List.mem_of_getElem? (i := 133) (by decide +kernel))) (hs _ (by decide +kernel)) hA,
    vx_Zqof (hts _ (List.mem_of_getElem? (i := 1501) (by decide +kernel))) (hts _ (List.mem_of_getElem? (i := 133) (by decide +kernel))) (hs _ (by decide +kernel)) hA,
    va_Nw.of rfl (hts _ (List.mem_of_getElem? (i := 1475) (by decide +kernel))), va_Nw.of rfl (hts _ (List.mem_of_getElem? (i := 1477) (by decide +kernel))), va_Nw.of rfl (hts _ (List.mem_of_getElem? (i := 1479) (by decide +kernel))), va_Nw.of rfl (hts _ (List.mem_of_getElem? (i := 1474) (by decide +kernel)))⟩
