/-! PART 78: what the tables and the Statement give at the law's entry -/
theorem arr_of {t : FieldType} {s : State} {args : Array Value} (h : (Cond.arrayClass t).before args s = true) : ∃ cA : ClassId, ArrOfT s cA t ∧ s.vm.findClass ("[" ++ t.toString) = some cA := by
  obtain ⟨cA, k, comp, h1, h2, h3⟩ := Cond.arrayClass_spec h
  exact ⟨cA, fun n z => ⟨fun q hq => (by cases hq), k, h2, comp, h3⟩, h1⟩
theorem str_of {s : State} {b k : Nat} {tx : String} (h1 : (Cond.stringRef RX1 k tx).before #[Value.ref b] s = true) (h2 : (Cond.exactly (Term.string RX1 k) "java/lang/String").before #[Value.ref b] s = true) : ∃ a, vk_R RX1 k tx a s := by
  obtain ⟨a, c, cell, kk, h, -⟩ := Cond.exactly_spec h2
  exact ⟨a, vk_R.of h1 h⟩
set_option maxHeartbeats 4000000 in
set_option maxRecDepth 100000 in
theorem lw_QK {s : State} {b : Nat} (hts0 : ∀ w ∈ lw_tbl, w.before #[Value.ref b] s = true) (hgv : (Jvm.Cond.and given_1 narrow_1).before #[Value.ref b] s = true) : ∃ (D : va_G) (cI cR cL : ClassId), ∀ (n : Nat) (ad : Nat → Nat), QK (D, cI, cR, cL, n, ad) s := by
  have hs := flat_of_before _ hgv
  have hin0 : ∀ w ∈ u_ws RX0 TX0 5, w ∈ lw_tbl := lwin_X0
  have hin1 : ∀ w ∈ u_ws RX1 TX1 2, w ∈ lw_tbl := lwin_X1
  have hin2 : ∀ w ∈ u_ws RX2 TX2 6, w ∈ lw_tbl := lwin_X2
  obtain ⟨c0, i0, k0⟩ := u_known (C := RX0) (T := TX0) (N := 5) (n := 5) hts0 hin0 (hts0 (.instantiable RX0 5) (by decide +kernel))
  obtain ⟨c1, i1, k1⟩ := u_known (C := RX1) (T := TX1) (N := 2) (n := 2) hts0 hin1 (hts0 (.instantiable RX1 2) (by decide +kernel))
  obtain ⟨c2, i2, k2⟩ := u_known (C := RX2) (T := TX2) (N := 6) (n := 6) hts0 hin2 (hts0 (.instantiable RX2 6) (by decide +kernel))
  obtain ⟨cI, a1, n1⟩ := arr_of (hts0 (.arrayClass .int) (by decide +kernel))
  obtain ⟨cL, a3, n3⟩ := arr_of (hts0 (.arrayClass .long) (by decide +kernel))
  have ho : (Cond.arrayOver (.array .int)).before #[Value.ref b] s = true := hts0 _ (by decide +kernel)
  obtain ⟨comp, cR, kR, o1, o2, o3, o4, o5⟩ := arrayOverA_spec ho
  refine ⟨(fun k => if k = 0 then c0 else if k = 1 then c1 else c2, fun k => if k = 0 then i0 else if k = 1 then i1 else i2), cI, cR, cL, fun n ad => ⟨⟨?_, ?_⟩, ho, va_Nw.of rfl (hts0 (.castable "[I" "java/lang/Cloneable") (by decide +kernel)), ?_⟩⟩
  · intro k q hq
    match k, hq with
    | 0, hq => cases hq; exact k0
    | 1, hq => cases hq; exact k1
    | 2, hq => cases hq; exact k2
    | k + 3, hq => simp [vwCl] at hq
  · intro k q hq
    match k, hq with
    | 0, hq => cases hq; exact ⟨a1, n1⟩
    | 1, hq => cases hq; exact ⟨fun n z => ⟨fun q hq => (by cases hq), kR, o3, comp, o4⟩, o5⟩
    | 2, hq => cases hq; exact ⟨a3, n3⟩
    | k + 3, hq => simp [zT] at hq
  · exact ⟨str_of (hts0 _ (by decide +kernel)) (hs _ (by decide +kernel)), str_of (hts0 _ (by decide +kernel)) (hs _ (by decide +kernel)), str_of (hts0 _ (by decide +kernel)) (hs _ (by decide +kernel)), str_of (hts0 _ (by decide +kernel)) (hs _ (by decide +kernel)),
      ⟨va_Nw.of rfl (hts0 (.castable eA eA) (by decide +kernel)), va_Nw.of rfl (hts0 (.castable eS eS) (by decide +kernel)), va_Nw.of rfl (hts0 (.castable eB eB) (by decide +kernel))⟩,
      va_Nc.of (hs (.not (.castable eA eB)) (by decide +kernel)), va_Nc.of (hs (.not (.castable eS eB)) (by decide +kernel)), va_Nc.of (hs (.not (.castable eS eA)) (by decide +kernel)), va_Nc.of (hs (.not (.castable eB eA)) (by decide +kernel))⟩
set_option maxHeartbeats 4000000 in
set_option maxRecDepth 100000 in
theorem lw_TZ {s : State} {b : Nat} {z : QZ} (hts0 : ∀ w ∈ lw_tbl, w.before #[Value.ref b] s = true) (hgv : (Jvm.Cond.and given_1 narrow_1).before #[Value.ref b] s = true) (hge : ∀ k, k < zn z → s.heap.size ≤ za z k) : TZ z s := by
  have hs := flat_of_before _ hgv
  have hn : ∀ a : Nat, a < s.heap.size → ¬ qA (zn z) (za z) s.heap.size a := fun a ha => L_nb ha hge
  exact ⟨vx_Zqof (hts0 (.laysStatic Bundle.tN "UNASSIGNED_STACK" Bundle.steD) (by decide +kernel)) (hts0 (.initialized Bundle.tN) (by decide +kernel)) (hs (.isRef (.static Bundle.tN "UNASSIGNED_STACK" Bundle.steD)) (by decide +kernel)) hn,
    vx_Zqof (hts0 (.laysStatic Bundle.tN "SUPPRESSED_SENTINEL" Bundle.listD) (by decide +kernel)) (hts0 (.initialized Bundle.tN) (by decide +kernel)) (hs (.isRef (.static Bundle.tN "SUPPRESSED_SENTINEL" Bundle.listD)) (by decide +kernel)) hn,
    va_Nw.of rfl (hts0 (.declares (Bundle.initS "java/lang/RuntimeException")) (by decide +kernel)), va_Nw.of rfl (hts0 (.declares (Bundle.initS "java/lang/Exception")) (by decide +kernel)), va_Nw.of rfl (hts0 (.declares (Bundle.initS Bundle.tN)) (by decide +kernel))⟩
