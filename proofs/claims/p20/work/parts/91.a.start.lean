/-! PART 91: what the tables give at the law's entry -/
theorem arr_of {t : FieldType} {s : State} {args : Array Value} (h : (Cond.arrayClass t).before args s = true) : ∃ cA : ClassId, ArrOfT s cA t ∧ s.vm.findClass ("[" ++ t.toString) = some cA := by
  obtain ⟨cA, k, comp, h1, h2, h3⟩ := Cond.arrayClass_spec h
  exact ⟨cA, fun n z => ⟨fun q hq => (by cases hq), k, h2, comp, h3⟩, h1⟩
theorem obj_of {C : String} {s : State} {args : Array Value} (h : (Cond.arrayOver (.object C)).before args s = true) : va_AO C s ∧ ∃ cA : ClassId, ArrOfT s cA (.object C) ∧ va_RA s cA (.object C) := by
  refine ⟨va_AO.of h, ?_⟩
  obtain ⟨comp, c, k, h1, h2, h3, h4, h5⟩ := Cond.arrayOver_spec h
  exact ⟨c, fun n z => ⟨(fun q hq => by cases hq), k, h3, comp, h4⟩, k, comp, h3, h4, h1, h5⟩
set_option maxHeartbeats 4000000 in
set_option maxRecDepth 100000 in
theorem lw_QK {s : State} {b : Nat} (hts0 : ∀ w ∈ lw_tbl, w.before #[Value.ref b] s = true) : ∃ (D : va_G) (cI cR cA cB : ClassId), ∀ (n : Nat) (ad : Nat → Nat), QK (D, cI, cR, (cA, cB), n, ad) s := by
  have hin0 : ∀ w ∈ u_ws RX0 TX0 5, w ∈ lw_tbl := lwin_X00
  have hin1 : ∀ w ∈ u_ws RX1 TX1 2, w ∈ lw_tbl := lwin_X10
  have hin2 : ∀ w ∈ u_ws RX2 TX2 9, w ∈ lw_tbl := lwin_X20
  have hin3 : ∀ w ∈ u_ws RX3 TX3 3, w ∈ lw_tbl := lwin_X30
  have hin4 : ∀ w ∈ u_ws RX4 TX4 8, w ∈ lw_tbl := lwin_X40
  obtain ⟨c0, i0, k0⟩ := u_known (C := RX0) (T := TX0) (N := 5) (n := 5) hts0 hin0 (hts0 (.instantiable RX0 5) (by decide +kernel))
  obtain ⟨c1, i1, k1⟩ := u_known (C := RX1) (T := TX1) (N := 2) (n := 2) hts0 hin1 (hts0 (.instantiable RX1 2) (by decide +kernel))
  obtain ⟨c2, i2, k2⟩ := u_known (C := RX2) (T := TX2) (N := 9) (n := 9) hts0 hin2 (hts0 (.instantiable RX2 9) (by decide +kernel))
  obtain ⟨c3, i3, k3⟩ := u_known (C := RX3) (T := TX3) (N := 3) (n := 3) hts0 hin3 (hts0 (.instantiable RX3 3) (by decide +kernel))
  obtain ⟨c4, i4, k4⟩ := u_known (C := RX4) (T := TX4) (N := 8) (n := 8) hts0 hin4 (hts0 (.instantiable RX4 8) (by decide +kernel))
  obtain ⟨cI, a1, n1⟩ := arr_of (hts0 (.arrayClass .int) (by decide +kernel))
  obtain ⟨v4, cA, a3, n3⟩ := obj_of (hts0 (.arrayOver (.object RX4)) (by decide +kernel))
  obtain ⟨v2, cB, a4, n4⟩ := obj_of (hts0 (.arrayOver (.object RX2)) (by decide +kernel))
  have ho : (Cond.arrayOver (.array .int)).before #[Value.ref b] s = true := hts0 _ (by decide +kernel)
  obtain ⟨comp, cR, kR, o1, o2, o3, o4, o5⟩ := arrayOverA_spec ho
  refine ⟨(fun k => if k = 0 then c0 else if k = 1 then c1 else if k = 2 then c2 else if k = 3 then c3 else c4, fun k => if k = 0 then i0 else if k = 1 then i1 else if k = 2 then i2 else if k = 3 then i3 else i4), cI, cR, cA, cB, fun n ad => ⟨⟨?_, ?_⟩, ho, trivial, ⟨v4, v2⟩, va_Nw.of rfl (hts0 (.methodLinkNest RX3 33 yX4_init RL) (by decide +kernel)), va_Nw.of rfl (hts0 (.methodLinkNest RX3 43 yX2_init RL) (by decide +kernel)), va_Nw.of rfl (hts0 (.methodLinkNest RL 77 yX3_init RL) (by decide +kernel))⟩⟩
  · intro k q hq
    match k, hq with
    | 0, hq => cases hq; exact k0
    | 1, hq => cases hq; exact k1
    | 2, hq => cases hq; exact k2
    | 3, hq => cases hq; exact k3
    | 4, hq => cases hq; exact k4
    | k + 5, hq => simp [vwCl] at hq
  · intro k q hq
    match k, hq with
    | 0, hq => cases hq; exact ⟨a1, n1⟩
    | 1, hq => cases hq; exact ⟨fun n z => ⟨fun q hq => (by cases hq), kR, o3, comp, o4⟩, o5⟩
    | 2, hq => cases hq; exact ⟨a3, n3⟩
    | 3, hq => cases hq; exact ⟨a4, n4⟩
    | k + 4, hq => simp [zT] at hq
