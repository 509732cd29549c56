/-! PART 82: isSame -/
abbrev RMsame : Room := { frames := 4, cells := 25, slots := 215, locals := 90 }
set_option maxHeartbeats 8000000 in
set_option maxRecDepth 100000 in
theorem c_X3_isSame {l : Launch} {z : QZ} {ix : Nat → Nat} {X Y : QLs} {f : Nat → Nat × (Nat → Int32)} {D : Nat} (hI : Inv D X) : ∀ ct sz, qI (zn z) (za z) → NPre z ix (X, Y, X, f) ct → Met l yX3_isSame wsX3_isSame RMsame (va_Pc [.ref (za z 55), .ref (za z 0)] (QPre z ct sz)) (va_Qi (fun (r : Int32) (_ : Unit) => r = 1) (fun (_ : Unit) (_ : State) => True) (qA (zn z) (za z) sz)) 25 215 (qA (zn z) (za z) sz) := by
  intro ct sz hq9 hat
  refine n_entry (cc := cX3_isSame) (maxL := 11) (ret := (some .boolean)) (by decide) rfl (Nat.le_of_ble_eq_true rfl) hq9 hat ?_
  intro p e s m below meth c ls C0 hK hsz h hl
  subst hsz
  obtain ⟨hx, hb, hr, hml, hown, hts, hlocks⟩ := id C0
  have hk := hI.ok
  have hk1 := hk.1
  have hk2 := hk.2.1
  have hB := hI.bd
  have hin2 : ∀ w ∈ u_ws RX2 TX2 9, w ∈ wsX3_isSame := by decide +kernel
  have hin3 : ∀ w ∈ u_ws RX3 TX3 3, w ∈ wsX3_isSame := by decide +kernel
  have hin4 : ∀ w ∈ u_ws RX4 TX4 8, w ∈ wsX3_isSame := by decide +kernel
  have hX := XZ.rf (sz := s.heap.size) hq9
  have hl : lv_has ls 11 [(0, .ref (za z 55)), (1, .ref (za z 0))] := hl
  have L376 : ∀ (su : Int32) (z1 : QZ) (f1 : Nat → Nat × (Nat → Int32)) (c1 : Nat → va_E) (H : Heap) (locs : List Loc) (ls : Array Slot), XZ s.heap.size z z1 → QK z1 s → SUp X (qp X) 0 su → GN z1 ix s.heap c1 (X, Y, X, f1) H locs → lv_has ls 11 [(7, .int (nI 0 - 1)), (6, .int su), (2, .int (qsum (fun j => qT X j 4) (qt X))), (3, .int (qsum (fun j => qT X j 6) (qt X))), (4, .int (qsum (fun j => qT X j 7) (qt X))), (5, .int (qthc X (qt X))), (0, .ref (za z1 55)), (1, .ref (za z1 0))] → W p l e RMsame s m ([Value.ref (za z 55), .ref (za z 0)] : List Value).toArray below meth c H locs 24 206 (MQ below (va_Qi (fun (r : Int32) (_ : Unit) => r = 1) (fun (_ : Unit) (_ : State) => True) (qA (zn z) (za z) s.heap.size)) ([Value.ref (za z 55), .ref (za z 0)] : List Value).toArray s 25 215 (qA (zn z) (za z) s.heap.size)) (F0 m 376 ls []) := by
    intro su z1 f1 c1 H locs ls hX hK hSU h hl
    have h56 : 56 ≤ zn z1 := (gw_ix h).1.1.2.2
    obtain ⟨b, hb9⟩ : ∃ b, b = zn z1 := ⟨_, rfl⟩
    have h : GW z1 (UAt z1 ix (qt X) (qp X) b 0) 0 (b + 0) s.heap c1 (X, Y, X, f1) H locs := by rw [hb9]; exact h
    refine lv_bipush (v := 9) hx hb dX3_isSame_376 (by decide) ?_
    refine U_ni2 C0 hK h (show zn z1 = b + 0 by omega) (by decide +kernel) (len := 9) rfl (by omega) (Nat.le_of_ble_eq_true rfl) (Nat.le_of_ble_eq_true rfl) dX3_isSame_378 (fun zq1 cq2 H fq3 hX9 hznzq1 hK hfq3 hofq3 h => ?_)
    have ea4 := hX9.2.2.1 55 (by omega)
    have ea5 := hX9.2.2.1 0 (by omega)
    rw [← ea4, ← ea5] at hl
    have hXzq1 := hX.tr hX9 (Nat.le_refl _)
    refine lv_dup hx hb dX3_isSame_380 rfl ?_
    refine lv_iconst (v := 0) hx hb dX3_isSame_381 (by decide) ?_
    refine lv_aload_n hx hb dX3_isSame_382 rfl (lv_at hl 6 rfl) ?_
    refine U_gO C0 hK h hin3 2 (by decide) (by decide +kernel) rfl dX3_isSame_383 ?_
    refine U_is2 C0 hK h (j := 0) (i := 0) (by omega) hfq3 rfl (by omega) (by omega) dX3_isSame_386 (fun H locs fs6 hfs6 hofs6 h => ?_)
    refine lv_dup hx hb dX3_isSame_387 rfl ?_
    refine lv_iconst (v := 1) hx hb dX3_isSame_388 (by decide) ?_
    refine lv_aload_n hx hb dX3_isSame_389 rfl (lv_at hl 6 rfl) ?_
    refine U_gO C0 hK h hin3 0 (by decide) (by decide +kernel) rfl dX3_isSame_390 ?_
    refine U_lT C0 hK h dX3_isSame_393 ?_
    refine U_is2 C0 hK h (j := 0) (i := 1) (by omega) hfs6 rfl (by omega) (by omega) dX3_isSame_394 (fun H locs fs7 hfs7 hofs7 h => ?_)
    refine lv_dup hx hb dX3_isSame_395 rfl ?_
    refine lv_iconst (v := 2) hx hb dX3_isSame_396 (by decide) ?_
    refine lv_aload_n hx hb dX3_isSame_397 rfl (lv_at hl 6 rfl) ?_
    refine U_gO C0 hK h hin3 1 (by decide) (by decide +kernel) rfl dX3_isSame_398 ?_
    refine U_lP C0 hK h dX3_isSame_401 ?_
    refine U_is2 C0 hK h (j := 0) (i := 2) (by omega) hfs7 rfl (by omega) (by omega) dX3_isSame_402 (fun H locs fs8 hfs8 hofs8 h => ?_)
    refine lv_dup hx hb dX3_isSame_403 rfl ?_
    refine lv_iconst (v := 3) hx hb dX3_isSame_404 (by decide) ?_
    refine lv_aload_n hx hb dX3_isSame_405 rfl (lv_at hl 6 rfl) ?_
    refine S_callVi C0 hK h (c_X3_water) (cwV 0 hts gX3_isSame_X3_water rfl rfl rfl (by decide +kernel) ⟨Nat.le_of_ble_eq_true rfl, Nat.le_of_ble_eq_true rfl⟩) (k := 55) (ci := 3) (by omega) (fun ct hA => hA.2.1.2.2.2.1) rfl rfl rfl hl.1 (rest := [.int 3, .ref (za zq1 (b + 0)), .ref (za zq1 (b + 0))]) rfl (Nat.le_of_ble_eq_true rfl) ⟨Nat.le_of_ble_eq_true rfl, Nat.le_of_ble_eq_true rfl⟩ dX3_isSame_406 (fun r u H locs hp h => ?_)
    obtain ⟨rfl, hu9⟩ := hp
    rw [hu9] at h
    refine U_is2 C0 hK h (j := 0) (i := 3) (by omega) hfs8 rfl (by omega) (by omega) dX3_isSame_409 (fun H locs fs9 hfs9 hofs9 h => ?_)
    refine lv_dup hx hb dX3_isSame_410 rfl ?_
    refine lv_iconst (v := 4) hx hb dX3_isSame_411 (by decide) ?_
    refine lv_iload_n hx hb dX3_isSame_412 rfl (lv_at hl 2 rfl) ?_
    refine U_is2 C0 hK h (j := 0) (i := 4) (by omega) hfs9 rfl (by omega) (by omega) dX3_isSame_413 (fun H locs fs10 hfs10 hofs10 h => ?_)
    refine lv_dup hx hb dX3_isSame_414 rfl ?_
    refine lv_iconst (v := 5) hx hb dX3_isSame_415 (by decide) ?_
    refine lv_iload_n hx hb dX3_isSame_416 rfl (lv_at hl 3 rfl) ?_
    refine U_is2 C0 hK h (j := 0) (i := 5) (by omega) hfs10 rfl (by omega) (by omega) dX3_isSame_417 (fun H locs fs11 hfs11 hofs11 h => ?_)
    refine lv_dup hx hb dX3_isSame_418 rfl ?_
    refine lv_bipush (v := 6) hx hb dX3_isSame_419 (by decide) ?_
    refine lv_aload_n hx hb dX3_isSame_421 rfl (lv_at hl 6 rfl) ?_
    refine S_callVi C0 hK h (c_X3_lost) (cwV 0 hts gX3_isSame_X3_lost rfl rfl rfl (by decide +kernel) ⟨Nat.le_of_ble_eq_true rfl, Nat.le_of_ble_eq_true rfl⟩) (k := 55) (ci := 3) (by omega) (fun ct hA => hA.2.1.2.2.2.1) rfl rfl rfl hl.1 (rest := [.int 6, .ref (za zq1 (b + 0)), .ref (za zq1 (b + 0))]) rfl (Nat.le_of_ble_eq_true rfl) ⟨Nat.le_of_ble_eq_true rfl, Nat.le_of_ble_eq_true rfl⟩ dX3_isSame_422 (fun r u H locs hp h => ?_)
    obtain ⟨rfl, hu9⟩ := hp
    rw [hu9] at h
    refine U_is2 C0 hK h (j := 0) (i := 6) (by omega) hfs11 rfl (by omega) (by omega) dX3_isSame_425 (fun H locs fs12 hfs12 hofs12 h => ?_)
    refine lv_dup hx hb dX3_isSame_426 rfl ?_
    refine lv_bipush (v := 7) hx hb dX3_isSame_427 (by decide) ?_
    refine lv_iload hx hb dX3_isSame_429 (lv_at hl 4 rfl) ?_
    refine U_is2 C0 hK h (j := 0) (i := 7) (by omega) hfs12 rfl (by omega) (by omega) dX3_isSame_431 (fun H locs fs13 hfs13 hofs13 h => ?_)
    refine lv_dup hx hb dX3_isSame_432 rfl ?_
    refine lv_bipush (v := 8) hx hb dX3_isSame_433 (by decide) ?_
    refine lv_iload hx hb dX3_isSame_435 (lv_at hl 5 rfl) ?_
    refine U_is2 C0 hK h (j := 0) (i := 8) (by omega) hfs13 rfl (by omega) (by omega) dX3_isSame_437 (fun H locs fs14 hfs14 hofs14 h => ?_)
    obtain ⟨ga, ega⟩ : ∃ ga, ga = (upd (upd (upd (upd (upd (upd (upd (upd (upd (fun _ => 0) 0 (qD X)) 1 (nI (qt X))) 2 (nI (qp X))) 3 (sumT X 3)) 4 (qsum (fun j => qT X j 4) (qt X))) 5 (qsum (fun j => qT X j 6) (qt X))) 6 (sumP X 7)) 7 (qsum (fun j => qT X j 7) (qt X))) 8 (qthc X (qt X))) := ⟨_, rfl⟩
    rw [← ega] at hfs14
    have hga : ∀ k, k < 9 → ga k = ofAllL X k := fun k hk9 => by rw [ega]; rcases (show k = 0 ∨ k = 1 ∨ k = 2 ∨ k = 3 ∨ k = 4 ∨ k = 5 ∨ k = 6 ∨ k = 7 ∨ k = 8 by omega) with rfl | rfl | rfl | rfl | rfl | rfl | rfl | rfl | rfl <;> rfl
    have L443 : ∀ (d i : Nat), i + d = 9 → ∀ (H : Heap) (locs : List Loc) (ls : Array Slot), GW zq1 (UAt zq1 ix (qt X) (qp X) b (0 + 1)) 0 (b + (0 + 1)) s.heap cq2 (X, Y, X, fs14) H locs → lv_has ls 11 [(8, .int (nI i)), (7, .ref (za zq1 (b + 0))), (6, .int su), (2, .int (qsum (fun j => qT X j 4) (qt X))), (3, .int (qsum (fun j => qT X j 6) (qt X))), (4, .int (qsum (fun j => qT X j 7) (qt X))), (5, .int (qthc X (qt X))), (0, .ref (za zq1 55)), (1, .ref (za zq1 0))] → W p l e RMsame s m ([Value.ref (za z 55), .ref (za z 0)] : List Value).toArray below meth c H locs (24 + 1) (206 + 9) (MQ below (va_Qi (fun (r : Int32) (_ : Unit) => r = 1) (fun (_ : Unit) (_ : State) => True) (qA (zn z) (za z) s.heap.size)) ([Value.ref (za z 55), .ref (za z 0)] : List Value).toArray s 25 215 (qA (zn z) (za z) s.heap.size)) (F0 m 443 ls []) := by
      intro  d
      induction d with
      | zero =>
        intro i hdi H locs ls h hl
        have hEi : i = 9 := by omega
        refine lv_iload hx hb dX3_isSame_443 (lv_at hl 0 rfl) ?_
        refine lv_bipush (v := 9) hx hb dX3_isSame_445 (by decide) ?_
        refine lv_icmp_ge (tgt := 472) hx hb dX3_isSame_447 (by decide) (fun _ => ?_) (fun q9 => absurd (show (9 : Int32) ≤ nI i from nI_le (a := 9) (b := i) (by omega) (by omega)) q9)
        refine lv_aload_n hx hb dX3_isSame_472 rfl (lv_at hl 8 rfl) ?_
        refine S_callVi C0 hK h (k_suspect hk) (cwV 0 hts gX3_isSame_X1_suspect rfl rfl rfl (by decide +kernel) ⟨Nat.le_of_ble_eq_true rfl, Nat.le_of_ble_eq_true rfl⟩) (k := 0) (ci := 1) (by omega) (fun ct hA => hA.1.1) rfl rfl rfl hl.1 (rest := []) rfl (Nat.le_of_ble_eq_true rfl) ⟨Nat.le_of_ble_eq_true rfl, Nat.le_of_ble_eq_true rfl⟩ dX3_isSame_473 (fun r u H locs hp h => ?_)
        obtain ⟨rfl, hu9⟩ := hp
        rw [hu9] at h
        refine lv_iload hx hb dX3_isSame_476 (lv_at hl 2 rfl) ?_
        refine lv_icmp_ne (tgt := 512) hx hb dX3_isSame_478 (by decide) (fun q9 => absurd (hSU.eq (by omega)) q9) (fun _ => ?_)
        refine lv_aload_n hx hb dX3_isSame_481 rfl (lv_at hl 8 rfl) ?_
        refine S_callVd C0 hK h (k_mean hk) (cwV 0 hts gX3_isSame_X1_mean rfl rfl rfl (by decide +kernel) ⟨Nat.le_of_ble_eq_true rfl, Nat.le_of_ble_eq_true rfl⟩) (k := 0) (ci := 1) (by omega) (fun ct hA => hA.1.1) rfl rfl rfl hl.1 (rest := []) rfl (Nat.le_of_ble_eq_true rfl) ⟨Nat.le_of_ble_eq_true rfl, Nat.le_of_ble_eq_true rfl⟩ dX3_isSame_482 (fun r u H locs hp h => ?_)
        obtain ⟨rfl, hu9⟩ := hp
        rw [hu9] at h
        refine lv_aload_n hx hb dX3_isSame_485 rfl (lv_at hl 7 rfl) ?_
        refine U_gO C0 hK h hin3 2 (by decide) (by decide +kernel) rfl dX3_isSame_486 ?_
        refine lv_if_ne (tgt := 496) hx hb dX3_isSame_489 (by decide) (fun c_489 => ?_) (fun c_489 => ?_)
        · refine lv_iload_n hx hb dX3_isSame_496 rfl (lv_at hl 4 rfl) ?_
          refine lv_i2d hx hb dX3_isSame_497 ?_
          refine lv_aload_n hx hb dX3_isSame_498 rfl (lv_at hl 7 rfl) ?_
          refine U_gO C0 hK h hin3 2 (by decide) (by decide +kernel) rfl dX3_isSame_499 ?_
          refine lv_i2d hx hb dX3_isSame_502 ?_
          refine lv_ddiv hx hb dX3_isSame_503 (q_ddiv c_489) ?_
          refine lv_dcmp hx hb dX3_isSame_504 ?_
          have em9 : Op.cmpValue (FP.dcmp (qmean X) (FP.ddiv (FP.i2d (qsum (fun j => qT X j 6) (qt X))) (FP.i2d (qD X)))) .l = 0 := (mean_same (X := X) .l).2 c_489
          rw [em9]
          refine lv_if_ne (tgt := 512) hx hb dX3_isSame_505 (by decide) (fun q9 => absurd (by decide) q9) (fun _ => ?_)
          refine lv_iconst (v := 1) hx hb dX3_isSame_508 (by decide) ?_
          refine lv_goto (tgt := 513) hx hb dX3_isSame_509 (by decide) ?_
          have hS : va_S (qA (zn z) (za z) s.heap.size) s.heap H locs := by obtain ⟨ct9, hP9, hS9, -⟩ := h; exact vaS_iff (fun x => (hXzq1.A (Nat.le_refl _) x).symm) hS9
          refine W.widen (k := 25) (n := 215) (Nat.le_of_ble_eq_true rfl) (Nat.le_of_ble_eq_true rfl) ?_
          exact W.zret hx hb hr (by rfl) (fun t ht hW => ⟨⟨1, (), rfl, rfl, trivial⟩, hS.F ht⟩) hS.2.2 dX3_isSame_513 hlocks
        · refine lv_dconst0 hx hb dX3_isSame_492 ?_
          refine lv_goto (tgt := 504) hx hb dX3_isSame_493 (by decide) ?_
          refine lv_dcmp hx hb dX3_isSame_504 ?_
          have em9 : Op.cmpValue (FP.dcmp (qmean X) (FP.dconst0)) .l = 0 := (mean_same (X := X) .l).1 c_489
          rw [em9]
          refine lv_if_ne (tgt := 512) hx hb dX3_isSame_505 (by decide) (fun q9 => absurd (by decide) q9) (fun _ => ?_)
          refine lv_iconst (v := 1) hx hb dX3_isSame_508 (by decide) ?_
          refine lv_goto (tgt := 513) hx hb dX3_isSame_509 (by decide) ?_
          have hS : va_S (qA (zn z) (za z) s.heap.size) s.heap H locs := by obtain ⟨ct9, hP9, hS9, -⟩ := h; exact vaS_iff (fun x => (hXzq1.A (Nat.le_refl _) x).symm) hS9
          refine W.widen (k := 25) (n := 215) (Nat.le_of_ble_eq_true rfl) (Nat.le_of_ble_eq_true rfl) ?_
          exact W.zret hx hb hr (by rfl) (fun t ht hW => ⟨⟨1, (), rfl, rfl, trivial⟩, hS.F ht⟩) hS.2.2 dX3_isSame_513 hlocks
      | succ d ihL443 =>
        intro i hdi H locs ls h hl
        have hEi : i < 9 := by omega
        refine lv_iload hx hb dX3_isSame_443 (lv_at hl 0 rfl) ?_
        refine lv_bipush (v := 9) hx hb dX3_isSame_445 (by decide) ?_
        refine lv_icmp_ge (tgt := 472) hx hb dX3_isSame_447 (by decide) (fun q9 => absurd q9 (show ¬ (9 : Int32) ≤ nI i from nI_ge (a := i) (b := 9) (by omega) (by decide))) (fun _ => ?_)
        refine lv_aload_n hx hb dX3_isSame_450 rfl (lv_at hl 8 rfl) ?_
        refine lv_iload hx hb dX3_isSame_451 (lv_at hl 0 rfl) ?_
        refine S_callVi C0 hK h (k_count hk i (by omega)) (cwV 1 hts gX3_isSame_X1_count rfl rfl rfl (by decide +kernel) ⟨Nat.le_of_ble_eq_true rfl, Nat.le_of_ble_eq_true rfl⟩) (k := 0) (ci := 1) (by omega) (fun ct hA => hA.1.1) rfl rfl rfl hl.1 (rest := []) rfl (Nat.le_of_ble_eq_true rfl) ⟨Nat.le_of_ble_eq_true rfl, Nat.le_of_ble_eq_true rfl⟩ dX3_isSame_453 (fun r u H locs hp h => ?_)
        obtain ⟨rfl, hu9⟩ := hp
        rw [hu9] at h
        refine lv_aload hx hb dX3_isSame_456 (lv_at hl 1 rfl) ?_
        refine lv_iload hx hb dX3_isSame_458 (lv_at hl 0 rfl) ?_
        refine U_il2 C0 hK h (j := 0) (i := i) (by omega) hfs14 rfl (by omega) (by omega) dX3_isSame_460 ?_
        refine lv_icmp_eq (tgt := 466) hx hb dX3_isSame_461 (by decide) (fun _ => ?_) (fun q9 => absurd (hga i (by omega)).symm q9)
        refine lv_iinc (v := nI (i + 1)) (lv' := [(8, .int (nI (i + 1))), (7, .ref (za zq1 (b + 0))), (6, .int su), (2, .int (qsum (fun j => qT X j 4) (qt X))), (3, .int (qsum (fun j => qT X j 6) (qt X))), (4, .int (qsum (fun j => qT X j 7) (qt X))), (5, .int (qthc X (qt X))), (0, .ref (za zq1 55)), (1, .ref (za zq1 0))]) hx hb dX3_isSame_466 hl (k := 0) rfl (q_inc i 1) (by decide) rfl (fun ls hl => ?_)
        refine lv_goto (tgt := 443) hx hb dX3_isSame_469 (by decide) ?_
        exact ihL443 (i + 1) (by omega) _ _ _ h (lv_sub hl [0, 1, 2, 3, 4, 5, 6, 7, 8] rfl)
    refine lv_astore (lv' := [(7, .ref (za zq1 (b + 0))), (6, .int su), (2, .int (qsum (fun j => qT X j 4) (qt X))), (3, .int (qsum (fun j => qT X j 6) (qt X))), (4, .int (qsum (fun j => qT X j 7) (qt X))), (5, .int (qthc X (qt X))), (0, .ref (za zq1 55)), (1, .ref (za zq1 0))]) hx hb dX3_isSame_438 hl (by decide) rfl (fun ls hl => ?_)
    refine lv_iconst (v := 0) hx hb dX3_isSame_440 (by decide) ?_
    refine lv_istore (lv' := [(8, .int 0), (7, .ref (za zq1 (b + 0))), (6, .int su), (2, .int (qsum (fun j => qT X j 4) (qt X))), (3, .int (qsum (fun j => qT X j 6) (qt X))), (4, .int (qsum (fun j => qT X j 7) (qt X))), (5, .int (qthc X (qt X))), (0, .ref (za zq1 55)), (1, .ref (za zq1 0))]) hx hb dX3_isSame_441 hl (by decide) rfl (fun ls hl => ?_)
    exact L443 (9) 0 (by omega) _ _ _ h (lv_sub hl [0, 1, 2, 3, 4, 5, 6, 7, 8] rfl)
  have L205 : ∀ k, k ≤ qp X → ∀ (su : Int32) (z1 : QZ) (f1 : Nat → Nat × (Nat → Int32)) (c1 : Nat → va_E) (H : Heap) (locs : List Loc) (ls : Array Slot), XZ s.heap.size z z1 → QK z1 s → SUp X (qp X) k su → GN z1 ix s.heap c1 (X, Y, X, f1) H locs → lv_has ls 11 [(7, .int (nI k - 1)), (6, .int su), (2, .int (qsum (fun j => qT X j 4) (qt X))), (3, .int (qsum (fun j => qT X j 6) (qt X))), (4, .int (qsum (fun j => qT X j 7) (qt X))), (5, .int (qthc X (qt X))), (0, .ref (za z1 55)), (1, .ref (za z1 0))] → W p l e RMsame s m ([Value.ref (za z 55), .ref (za z 0)] : List Value).toArray below meth c H locs (24 - k) (206 - 9 * k) (MQ below (va_Qi (fun (r : Int32) (_ : Unit) => r = 1) (fun (_ : Unit) (_ : State) => True) (qA (zn z) (za z) s.heap.size)) ([Value.ref (za z 55), .ref (za z 0)] : List Value).toArray s 25 215 (qA (zn z) (za z) s.heap.size)) (F0 m 205 ls []) := by
    intro k
    induction k with
    | zero =>
      intro hk0 su z1 f1 c1 H locs ls hX hK hSU h hl
      refine lv_iload hx hb dX3_isSame_205 (lv_at hl 0 rfl) ?_
      refine lv_if_lt (tgt := 376) hx hb dX3_isSame_207 (by decide) (fun _ => ?_) (fun q9 => absurd (by decide) q9)
      exact L376 su z1 f1 c1 H locs ls hX hK hSU h hl
    | succ k ih =>
      intro hk0 su z1 f1 c1 H locs ls hX hK hSU h hl
      rw [nI_pred] at hl
      have h56 : 56 ≤ zn z1 := (gw_ix h).1.1.2.2
      obtain ⟨b, hb9⟩ : ∃ b, b = zn z1 := ⟨_, rfl⟩
      have h : GW z1 (UAt z1 ix (qt X) (qp X) b 0) 0 (b + 0) s.heap c1 (X, Y, X, f1) H locs := by rw [hb9]; exact h
      refine lv_iload hx hb dX3_isSame_205 (lv_at hl 0 rfl) ?_
      refine lv_if_lt (tgt := 376) hx hb dX3_isSame_207 (by decide) (fun q9 => absurd q9 (fun q9 => nI_pos (by omega) q9)) (fun _ => ?_)
      refine lv_aload_n hx hb dX3_isSame_210 rfl (lv_at hl 6 rfl) ?_
      refine U_gO C0 hK h hin3 1 (by decide) (by decide +kernel) rfl dX3_isSame_211 ?_
      refine lv_iload hx hb dX3_isSame_214 (lv_at hl 0 rfl) ?_
      refine U_aP C0 hK h (i := k) rfl (by omega) dX3_isSame_216 ?_
      refine lv_astore (lv' := [(8, .ref (za z1 (ix (12 + k)))), (7, .int (nI k)), (6, .int su), (2, .int (qsum (fun j => qT X j 4) (qt X))), (3, .int (qsum (fun j => qT X j 6) (qt X))), (4, .int (qsum (fun j => qT X j 7) (qt X))), (5, .int (qthc X (qt X))), (0, .ref (za z1 55)), (1, .ref (za z1 0))]) hx hb dX3_isSame_217 hl (by decide) rfl (fun ls hl => ?_)
      refine lv_bipush (v := 9) hx hb dX3_isSame_219 (by decide) ?_
      refine U_ni2 C0 hK h (show zn z1 = b + 0 by omega) (by decide +kernel) (len := 9) rfl (by omega) (by show 24 - (k + 1) + 1 ≤ 25; omega) (by show 206 - 9 * (k + 1) + 9 ≤ 215; omega) dX3_isSame_221 (fun zq1 cq2 H fq3 hX9 hznzq1 hK hfq3 hofq3 h => ?_)
      have ea4 := hX9.2.2.1 (ix (12 + k)) (by have := (gw_ix h).1.2.1 _ (suP (show k < qp X by omega)); omega)
      have ea5 := hX9.2.2.1 55 (by omega)
      have ea6 := hX9.2.2.1 0 (by omega)
      rw [← ea4, ← ea5, ← ea6] at hl
      have hXzq1 := hX.tr hX9 (Nat.le_refl _)
      refine lv_dup hx hb dX3_isSame_223 rfl ?_
      refine lv_iconst (v := 0) hx hb dX3_isSame_224 (by decide) ?_
      refine lv_aload hx hb dX3_isSame_225 (lv_at hl 0 rfl) ?_
      refine U_gP C0 hK h hin2 (by omega) 0 (by decide) (k9 := 0) rfl (by decide +kernel) dX3_isSame_227 ?_
      refine U_is2 C0 hK h (j := 0) (i := 0) (by omega) hfq3 rfl (by omega) (by omega) dX3_isSame_230 (fun H locs fs7 hfs7 hofs7 h => ?_)
      refine lv_dup hx hb dX3_isSame_231 rfl ?_
      refine lv_iconst (v := 1) hx hb dX3_isSame_232 (by decide) ?_
      refine lv_aload hx hb dX3_isSame_233 (lv_at hl 0 rfl) ?_
      refine U_gP C0 hK h hin2 (by omega) 1 (by decide) (k9 := 1) rfl (by decide +kernel) dX3_isSame_235 ?_
      refine U_is2 C0 hK h (j := 0) (i := 1) (by omega) hfs7 rfl (by omega) (by omega) dX3_isSame_238 (fun H locs fs8 hfs8 hofs8 h => ?_)
      refine lv_dup hx hb dX3_isSame_239 rfl ?_
      refine lv_iconst (v := 2) hx hb dX3_isSame_240 (by decide) ?_
      refine lv_aload hx hb dX3_isSame_241 (lv_at hl 0 rfl) ?_
      refine U_gP C0 hK h hin2 (by omega) 2 (by decide) (k9 := 2) rfl (by decide +kernel) dX3_isSame_243 ?_
      refine U_is2 C0 hK h (j := 0) (i := 2) (by omega) hfs8 rfl (by omega) (by omega) dX3_isSame_246 (fun H locs fs9 hfs9 hofs9 h => ?_)
      refine lv_dup hx hb dX3_isSame_247 rfl ?_
      refine lv_iconst (v := 3) hx hb dX3_isSame_248 (by decide) ?_
      refine lv_aload hx hb dX3_isSame_249 (lv_at hl 0 rfl) ?_
      refine U_gP C0 hK h hin2 (by omega) 3 (by decide) (k9 := 3) rfl (by decide +kernel) dX3_isSame_251 ?_
      refine U_is2 C0 hK h (j := 0) (i := 3) (by omega) hfs9 rfl (by omega) (by omega) dX3_isSame_254 (fun H locs fs10 hfs10 hofs10 h => ?_)
      refine lv_dup hx hb dX3_isSame_255 rfl ?_
      refine lv_iconst (v := 4) hx hb dX3_isSame_256 (by decide) ?_
      refine lv_aload hx hb dX3_isSame_257 (lv_at hl 0 rfl) ?_
      refine U_gP C0 hK h hin2 (by omega) 4 (by decide) (k9 := 4) rfl (by decide +kernel) dX3_isSame_259 ?_
      refine U_is2 C0 hK h (j := 0) (i := 4) (by omega) hfs10 rfl (by omega) (by omega) dX3_isSame_262 (fun H locs fs11 hfs11 hofs11 h => ?_)
      refine lv_dup hx hb dX3_isSame_263 rfl ?_
      refine lv_iconst (v := 5) hx hb dX3_isSame_264 (by decide) ?_
      refine lv_aload hx hb dX3_isSame_265 (lv_at hl 0 rfl) ?_
      refine U_gP C0 hK h hin2 (by omega) 6 (by decide) (k9 := 5) rfl (by decide +kernel) dX3_isSame_267 ?_
      refine U_is2 C0 hK h (j := 0) (i := 5) (by omega) hfs11 rfl (by omega) (by omega) dX3_isSame_270 (fun H locs fs12 hfs12 hofs12 h => ?_)
      refine lv_dup hx hb dX3_isSame_271 rfl ?_
      refine lv_bipush (v := 6) hx hb dX3_isSame_272 (by decide) ?_
      refine lv_aload hx hb dX3_isSame_274 (lv_at hl 0 rfl) ?_
      refine U_gP C0 hK h hin2 (by omega) 7 (by decide) (k9 := 6) rfl (by decide +kernel) dX3_isSame_276 ?_
      refine U_is2 C0 hK h (j := 0) (i := 6) (by omega) hfs12 rfl (by omega) (by omega) dX3_isSame_279 (fun H locs fs13 hfs13 hofs13 h => ?_)
      refine lv_dup hx hb dX3_isSame_280 rfl ?_
      refine lv_bipush (v := 7) hx hb dX3_isSame_281 (by decide) ?_
      refine lv_aload hx hb dX3_isSame_283 (lv_at hl 0 rfl) ?_
      refine U_gP C0 hK h hin2 (by omega) 8 (by decide) (k9 := 7) rfl (by decide +kernel) dX3_isSame_285 ?_
      refine U_is2 C0 hK h (j := 0) (i := 7) (by omega) hfs13 rfl (by omega) (by omega) dX3_isSame_288 (fun H locs fs14 hfs14 hofs14 h => ?_)
      refine lv_dup hx hb dX3_isSame_289 rfl ?_
      refine lv_bipush (v := 8) hx hb dX3_isSame_290 (by decide) ?_
      refine lv_aload_n hx hb dX3_isSame_292 rfl (lv_at hl 7 rfl) ?_
      refine lv_aload hx hb dX3_isSame_293 (lv_at hl 0 rfl) ?_
      refine S_callVi C0 hK h (c_X3_flows hk k (by omega)) (cwV 1 hts gX3_isSame_X3_flows rfl rfl rfl (by decide +kernel) ⟨Nat.le_of_ble_eq_true rfl, Nat.le_of_ble_eq_true rfl⟩) (k := 55) (ci := 3) (by omega) (fun ct hA => hA.2.1.2.2.2.1) rfl rfl rfl hl.1 (rest := [.int 8, .ref (za zq1 (b + 0)), .ref (za zq1 (b + 0))]) rfl (Nat.le_of_ble_eq_true rfl) ⟨by show 24 - (k + 1) + 1 + 0 ≤ 25; omega, by show 206 - 9 * (k + 1) + 9 + 0 ≤ 215; omega⟩ dX3_isSame_295 (fun r u H locs hp h => ?_)
      obtain ⟨rfl, hu9⟩ := hp
      rw [hu9] at h
      refine U_is2 C0 hK h (j := 0) (i := 8) (by omega) hfs14 rfl (by omega) (by omega) dX3_isSame_298 (fun H locs fs15 hfs15 hofs15 h => ?_)
      obtain ⟨ga, ega⟩ : ∃ ga, ga = (upd (upd (upd (upd (upd (upd (upd (upd (upd (fun _ => 0) 0 (qP X k 0)) 1 (qP X k 1)) 2 (qP X k 2)) 3 (qP X k 3)) 4 (qP X k 4)) 5 (qP X k 5)) 6 (qP X k 6)) 7 (qP X k 7)) 8 (simF X k)) := ⟨_, rfl⟩
      rw [← ega] at hfs15
      have hga : ∀ k9, k9 < 9 → ga k9 = ofPipeL X k k9 := fun k9 hk9 => by rw [ega, simF_eq hB (by omega)]; rcases (show k9 = 0 ∨ k9 = 1 ∨ k9 = 2 ∨ k9 = 3 ∨ k9 = 4 ∨ k9 = 5 ∨ k9 = 6 ∨ k9 = 7 ∨ k9 = 8 by omega) with rfl | rfl | rfl | rfl | rfl | rfl | rfl | rfl | rfl <;> rfl
      have L304 : ∀ (d i : Nat), i + d = 9 → ∀ (H : Heap) (locs : List Loc) (ls : Array Slot), GW zq1 (UAt zq1 ix (qt X) (qp X) b (0 + 1)) 0 (b + (0 + 1)) s.heap cq2 (X, Y, X, fs15) H locs → lv_has ls 11 [(10, .int (nI i)), (9, .ref (za zq1 (b + 0))), (8, .ref (za zq1 (ix (12 + k)))), (7, .int (nI k)), (6, .int su), (2, .int (qsum (fun j => qT X j 4) (qt X))), (3, .int (qsum (fun j => qT X j 6) (qt X))), (4, .int (qsum (fun j => qT X j 7) (qt X))), (5, .int (qthc X (qt X))), (0, .ref (za zq1 55)), (1, .ref (za zq1 0))] → W p l e RMsame s m ([Value.ref (za z 55), .ref (za z 0)] : List Value).toArray below meth c H locs (24 - (k + 1) + 1) (206 - 9 * (k + 1) + 9) (MQ below (va_Qi (fun (r : Int32) (_ : Unit) => r = 1) (fun (_ : Unit) (_ : State) => True) (qA (zn z) (za z) s.heap.size)) ([Value.ref (za z 55), .ref (za z 0)] : List Value).toArray s 25 215 (qA (zn z) (za z) s.heap.size)) (F0 m 304 ls []) := by
        intro  d
        induction d with
        | zero =>
          intro i hdi H locs ls h hl
          have hEi : i = 9 := by omega
          refine lv_iload hx hb dX3_isSame_304 (lv_at hl 0 rfl) ?_
          refine lv_bipush (v := 9) hx hb dX3_isSame_306 (by decide) ?_
          refine lv_icmp_ge (tgt := 335) hx hb dX3_isSame_308 (by decide) (fun _ => ?_) (fun q9 => absurd (show (9 : Int32) ≤ nI i from nI_le (a := 9) (b := i) (by omega) (by omega)) q9)
          refine lv_aload hx hb dX3_isSame_335 (lv_at hl 2 rfl) ?_
          refine U_gP C0 hK h hin2 (by omega) 7 (by decide) (k9 := 6) rfl (by decide +kernel) dX3_isSame_337 ?_
          refine lv_if_le (tgt := 370) hx hb dX3_isSame_340 (by decide) (fun c_340 => ?_) (fun c_340 => ?_)
          · refine lv_iinc (v := nI k - 1) (lv' := [(7, .int (nI k - 1)), (10, .int (nI i)), (9, .ref (za zq1 (b + 0))), (8, .ref (za zq1 (ix (12 + k)))), (6, .int su), (2, .int (qsum (fun j => qT X j 4) (qt X))), (3, .int (qsum (fun j => qT X j 6) (qt X))), (4, .int (qsum (fun j => qT X j 7) (qt X))), (5, .int (qthc X (qt X))), (0, .ref (za zq1 55)), (1, .ref (za zq1 0))]) hx hb dX3_isSame_370 hl (k := 3) rfl (by rw [Int32.sub_eq_add_neg]; rfl) (by decide) rfl (fun ls hl => ?_)
            refine lv_goto (tgt := 205) hx hb dX3_isSame_373 (by decide) ?_
            have h : GN zq1 ix s.heap cq2 (X, Y, X, fs15) H locs := by show GW zq1 (UAt zq1 ix (qt X) (qp X) (zn zq1) 0) 0 (zn zq1 + 0) _ _ _ _ _; rw [hznzq1]; exact h.imp (fun ct hA => hA.drop (b + (0 + 1)) (by omega))
            refine W.widen (k := 24 - k) (n := 206 - 9 * k) (by omega) (by omega) ?_
            exact ih (by omega) su zq1 fs15 cq2 _ _ _ hXzq1 hK (hSU.low (by omega) c_340) h (lv_sub hl [0, 4, 5, 6, 7, 8, 9, 10] rfl)
          · refine lv_iload hx hb dX3_isSame_343 (lv_at hl 4 rfl) ?_
            refine lv_if_lt (tgt := 366) hx hb dX3_isSame_345 (by decide) (fun c_345 => ?_) (fun c_345 => ?_)
            · refine lv_iload hx hb dX3_isSame_366 (lv_at hl 3 rfl) ?_
              refine lv_istore (lv' := [(6, .int (nI k)), (10, .int (nI i)), (9, .ref (za zq1 (b + 0))), (8, .ref (za zq1 (ix (12 + k)))), (7, .int (nI k)), (2, .int (qsum (fun j => qT X j 4) (qt X))), (3, .int (qsum (fun j => qT X j 6) (qt X))), (4, .int (qsum (fun j => qT X j 7) (qt X))), (5, .int (qthc X (qt X))), (0, .ref (za zq1 55)), (1, .ref (za zq1 0))]) hx hb dX3_isSame_368 hl (by decide) rfl (fun ls hl => ?_)
              refine lv_iinc (v := nI k - 1) (lv' := [(7, .int (nI k - 1)), (6, .int (nI k)), (10, .int (nI i)), (9, .ref (za zq1 (b + 0))), (8, .ref (za zq1 (ix (12 + k)))), (2, .int (qsum (fun j => qT X j 4) (qt X))), (3, .int (qsum (fun j => qT X j 6) (qt X))), (4, .int (qsum (fun j => qT X j 7) (qt X))), (5, .int (qthc X (qt X))), (0, .ref (za zq1 55)), (1, .ref (za zq1 0))]) hx hb dX3_isSame_370 hl (k := 4) rfl (by rw [Int32.sub_eq_add_neg]; rfl) (by decide) rfl (fun ls hl => ?_)
              refine lv_goto (tgt := 205) hx hb dX3_isSame_373 (by decide) ?_
              have h : GN zq1 ix s.heap cq2 (X, Y, X, fs15) H locs := by show GW zq1 (UAt zq1 ix (qt X) (qp X) (zn zq1) 0) 0 (zn zq1 + 0) _ _ _ _ _; rw [hznzq1]; exact h.imp (fun ct hA => hA.drop (b + (0 + 1)) (by omega))
              refine W.widen (k := 24 - k) (n := 206 - 9 * k) (by omega) (by omega) ?_
              exact ih (by omega) (nI k) zq1 fs15 cq2 _ _ _ hXzq1 hK (hSU.new1 (by omega) (by omega) c_340 c_345) h (lv_sub hl [0, 1, 5, 6, 7, 8, 9, 10] rfl)
            · obtain ⟨j9, hj9, ej9, hj0, -, -⟩ := hSU.pos c_345
              refine lv_aload hx hb dX3_isSame_348 (lv_at hl 2 rfl) ?_
              refine U_gP C0 hK h hin2 (by omega) 7 (by decide) (k9 := 6) rfl (by decide +kernel) dX3_isSame_350 ?_
              refine lv_aload_n hx hb dX3_isSame_353 rfl (lv_at hl 9 rfl) ?_
              refine U_gO C0 hK h hin3 1 (by decide) (by decide +kernel) rfl dX3_isSame_354 ?_
              refine lv_iload hx hb dX3_isSame_357 (lv_at hl 4 rfl) ?_
              refine U_aP C0 hK h (i := j9) ej9 (by omega) dX3_isSame_359 ?_
              refine U_gP C0 hK h hin2 (by omega) 7 (by decide) (k9 := 6) rfl (by decide +kernel) dX3_isSame_360 ?_
              refine lv_icmp_lt (tgt := 370) hx hb dX3_isSame_363 (by decide) (fun c_363 => ?_) (fun c_363 => ?_)
              · refine lv_iinc (v := nI k - 1) (lv' := [(7, .int (nI k - 1)), (10, .int (nI i)), (9, .ref (za zq1 (b + 0))), (8, .ref (za zq1 (ix (12 + k)))), (6, .int su), (2, .int (qsum (fun j => qT X j 4) (qt X))), (3, .int (qsum (fun j => qT X j 6) (qt X))), (4, .int (qsum (fun j => qT X j 7) (qt X))), (5, .int (qthc X (qt X))), (0, .ref (za zq1 55)), (1, .ref (za zq1 0))]) hx hb dX3_isSame_370 hl (k := 3) rfl (by rw [Int32.sub_eq_add_neg]; rfl) (by decide) rfl (fun ls hl => ?_)
                refine lv_goto (tgt := 205) hx hb dX3_isSame_373 (by decide) ?_
                have h : GN zq1 ix s.heap cq2 (X, Y, X, fs15) H locs := by show GW zq1 (UAt zq1 ix (qt X) (qp X) (zn zq1) 0) 0 (zn zq1 + 0) _ _ _ _ _; rw [hznzq1]; exact h.imp (fun ct hA => hA.drop (b + (0 + 1)) (by omega))
                refine W.widen (k := 24 - k) (n := 206 - 9 * k) (by omega) (by omega) ?_
                exact ih (by omega) su zq1 fs15 cq2 _ _ _ hXzq1 hK (by rw [ej9] at hSU ⊢; exact hSU.less (by omega) (by omega) c_363) h (lv_sub hl [0, 4, 5, 6, 7, 8, 9, 10] rfl)
              · refine lv_iload hx hb dX3_isSame_366 (lv_at hl 3 rfl) ?_
                refine lv_istore (lv' := [(6, .int (nI k)), (10, .int (nI i)), (9, .ref (za zq1 (b + 0))), (8, .ref (za zq1 (ix (12 + k)))), (7, .int (nI k)), (2, .int (qsum (fun j => qT X j 4) (qt X))), (3, .int (qsum (fun j => qT X j 6) (qt X))), (4, .int (qsum (fun j => qT X j 7) (qt X))), (5, .int (qthc X (qt X))), (0, .ref (za zq1 55)), (1, .ref (za zq1 0))]) hx hb dX3_isSame_368 hl (by decide) rfl (fun ls hl => ?_)
                refine lv_iinc (v := nI k - 1) (lv' := [(7, .int (nI k - 1)), (6, .int (nI k)), (10, .int (nI i)), (9, .ref (za zq1 (b + 0))), (8, .ref (za zq1 (ix (12 + k)))), (2, .int (qsum (fun j => qT X j 4) (qt X))), (3, .int (qsum (fun j => qT X j 6) (qt X))), (4, .int (qsum (fun j => qT X j 7) (qt X))), (5, .int (qthc X (qt X))), (0, .ref (za zq1 55)), (1, .ref (za zq1 0))]) hx hb dX3_isSame_370 hl (k := 4) rfl (by rw [Int32.sub_eq_add_neg]; rfl) (by decide) rfl (fun ls hl => ?_)
                refine lv_goto (tgt := 205) hx hb dX3_isSame_373 (by decide) ?_
                have h : GN zq1 ix s.heap cq2 (X, Y, X, fs15) H locs := by show GW zq1 (UAt zq1 ix (qt X) (qp X) (zn zq1) 0) 0 (zn zq1 + 0) _ _ _ _ _; rw [hznzq1]; exact h.imp (fun ct hA => hA.drop (b + (0 + 1)) (by omega))
                refine W.widen (k := 24 - k) (n := 206 - 9 * k) (by omega) (by omega) ?_
                exact ih (by omega) (nI k) zq1 fs15 cq2 _ _ _ hXzq1 hK (by rw [ej9] at hSU; exact hSU.new2 (by omega) (by omega) (by omega) c_340 c_363) h (lv_sub hl [0, 1, 5, 6, 7, 8, 9, 10] rfl)
        | succ d ihL304 =>
          intro i hdi H locs ls h hl
          have hEi : i < 9 := by omega
          refine lv_iload hx hb dX3_isSame_304 (lv_at hl 0 rfl) ?_
          refine lv_bipush (v := 9) hx hb dX3_isSame_306 (by decide) ?_
          refine lv_icmp_ge (tgt := 335) hx hb dX3_isSame_308 (by decide) (fun q9 => absurd q9 (show ¬ (9 : Int32) ≤ nI i from nI_ge (a := i) (b := 9) (by omega) (by decide))) (fun _ => ?_)
          refine lv_aload_n hx hb dX3_isSame_311 rfl (lv_at hl 10 rfl) ?_
          refine lv_iload hx hb dX3_isSame_312 (lv_at hl 3 rfl) ?_
          refine lv_iload hx hb dX3_isSame_314 (lv_at hl 0 rfl) ?_
          refine S_callVi C0 hK h (k_pipe hk k (by omega) i (by omega)) (cwV 2 hts gX3_isSame_X1_pipe rfl rfl rfl (by decide +kernel) ⟨Nat.le_of_ble_eq_true rfl, Nat.le_of_ble_eq_true rfl⟩) (k := 0) (ci := 1) (by omega) (fun ct hA => hA.1.1) rfl rfl rfl hl.1 (rest := []) rfl (Nat.le_of_ble_eq_true rfl) ⟨by show 24 - (k + 1) + 1 + 0 ≤ 25; omega, by show 206 - 9 * (k + 1) + 9 + 0 ≤ 215; omega⟩ dX3_isSame_316 (fun r u H locs hp h => ?_)
          obtain ⟨rfl, hu9⟩ := hp
          rw [hu9] at h
          refine lv_aload hx hb dX3_isSame_319 (lv_at hl 1 rfl) ?_
          refine lv_iload hx hb dX3_isSame_321 (lv_at hl 0 rfl) ?_
          refine U_il2 C0 hK h (j := 0) (i := i) (by omega) hfs15 rfl (by omega) (by omega) dX3_isSame_323 ?_
          refine lv_icmp_eq (tgt := 329) hx hb dX3_isSame_324 (by decide) (fun _ => ?_) (fun q9 => absurd (hga i (by omega)).symm q9)
          refine lv_iinc (v := nI (i + 1)) (lv' := [(10, .int (nI (i + 1))), (9, .ref (za zq1 (b + 0))), (8, .ref (za zq1 (ix (12 + k)))), (7, .int (nI k)), (6, .int su), (2, .int (qsum (fun j => qT X j 4) (qt X))), (3, .int (qsum (fun j => qT X j 6) (qt X))), (4, .int (qsum (fun j => qT X j 7) (qt X))), (5, .int (qthc X (qt X))), (0, .ref (za zq1 55)), (1, .ref (za zq1 0))]) hx hb dX3_isSame_329 hl (k := 0) rfl (q_inc i 1) (by decide) rfl (fun ls hl => ?_)
          refine lv_goto (tgt := 304) hx hb dX3_isSame_332 (by decide) ?_
          exact ihL304 (i + 1) (by omega) _ _ _ h (lv_sub hl [0, 1, 2, 3, 4, 5, 6, 7, 8, 9, 10] rfl)
      refine lv_astore (lv' := [(9, .ref (za zq1 (b + 0))), (8, .ref (za zq1 (ix (12 + k)))), (7, .int (nI k)), (6, .int su), (2, .int (qsum (fun j => qT X j 4) (qt X))), (3, .int (qsum (fun j => qT X j 6) (qt X))), (4, .int (qsum (fun j => qT X j 7) (qt X))), (5, .int (qthc X (qt X))), (0, .ref (za zq1 55)), (1, .ref (za zq1 0))]) hx hb dX3_isSame_299 hl (by decide) rfl (fun ls hl => ?_)
      refine lv_iconst (v := 0) hx hb dX3_isSame_301 (by decide) ?_
      refine lv_istore (lv' := [(10, .int 0), (9, .ref (za zq1 (b + 0))), (8, .ref (za zq1 (ix (12 + k)))), (7, .int (nI k)), (6, .int su), (2, .int (qsum (fun j => qT X j 4) (qt X))), (3, .int (qsum (fun j => qT X j 6) (qt X))), (4, .int (qsum (fun j => qT X j 7) (qt X))), (5, .int (qthc X (qt X))), (0, .ref (za zq1 55)), (1, .ref (za zq1 0))]) hx hb dX3_isSame_302 hl (by decide) rfl (fun ls hl => ?_)
      exact L304 (9) 0 (by omega) _ _ _ h (lv_sub hl [0, 1, 2, 3, 4, 5, 6, 7, 8, 9, 10] rfl)
  have L13 : ∀ (d k : Nat), k + d = qt X → ∀ (z1 : QZ) (f1 : Nat → Nat × (Nat → Int32)) (c1 : Nat → va_E) (H : Heap) (locs : List Loc) (ls : Array Slot), XZ s.heap.size z z1 → QK z1 s → GN z1 ix s.heap c1 (X, Y, X, f1) H locs → lv_has ls 11 [(6, .int (nI k)), (2, .int (qsum (fun j => qT X j 4) k)), (3, .int (qsum (fun j => qT X j 6) k)), (4, .int (qsum (fun j => qT X j 7) k)), (5, .int (qthc X k)), (0, .ref (za z1 55)), (1, .ref (za z1 0))] → W p l e RMsame s m ([Value.ref (za z 55), .ref (za z 0)] : List Value).toArray below meth c H locs k (8 * k) (MQ below (va_Qi (fun (r : Int32) (_ : Unit) => r = 1) (fun (_ : Unit) (_ : State) => True) (qA (zn z) (za z) s.heap.size)) ([Value.ref (za z 55), .ref (za z 0)] : List Value).toArray s 25 215 (qA (zn z) (za z) s.heap.size)) (F0 m 13 ls []) := by
    intro d
    induction d with
    | zero =>
      intro k hkd z1 f1 c1 H locs ls hX hK h hl
      have hE : k = qt X := by omega
      refine lv_iload hx hb dX3_isSame_13 (lv_at hl 0 rfl) ?_
      refine lv_aload_n hx hb dX3_isSame_15 rfl (lv_at hl 5 rfl) ?_
      refine U_gO C0 hK h hin3 0 (by decide) (by decide +kernel) rfl dX3_isSame_16 ?_
      refine U_lT C0 hK h dX3_isSame_19 ?_
      refine lv_icmp_ge (tgt := 193) hx hb dX3_isSame_20 (by decide) (fun _ => ?_) (fun q9 => absurd (nI_le (a := qt X) (b := k) (by omega) (by omega)) q9)
      refine lv_iconst (v := (-1)) hx hb dX3_isSame_193 (by decide) ?_
      refine lv_istore (lv' := [(6, .int ((-1))), (2, .int (qsum (fun j => qT X j 4) k)), (3, .int (qsum (fun j => qT X j 6) k)), (4, .int (qsum (fun j => qT X j 7) k)), (5, .int (qthc X k)), (0, .ref (za z1 55)), (1, .ref (za z1 0))]) hx hb dX3_isSame_194 hl (by decide) rfl (fun ls hl => ?_)
      refine lv_aload_n hx hb dX3_isSame_196 rfl (lv_at hl 5 rfl) ?_
      refine U_gO C0 hK h hin3 1 (by decide) (by decide +kernel) rfl dX3_isSame_197 ?_
      refine U_lP C0 hK h dX3_isSame_200 ?_
      refine lv_iconst (v := 1) hx hb dX3_isSame_201 (by decide) ?_
      refine lv_isub hx hb dX3_isSame_202 ?_
      refine lv_istore (lv' := [(7, .int ((nI (qp X)) - 1)), (6, .int ((-1))), (2, .int (qsum (fun j => qT X j 4) k)), (3, .int (qsum (fun j => qT X j 6) k)), (4, .int (qsum (fun j => qT X j 7) k)), (5, .int (qthc X k)), (0, .ref (za z1 55)), (1, .ref (za z1 0))]) hx hb dX3_isSame_203 hl (by decide) rfl (fun ls hl => ?_)
      have hkq : k = qt X := hE
      rw [hkq] at hl
      refine W.widen (k := 24 - qp X) (n := 206 - 9 * qp X) (by omega) (by omega) ?_
      exact L205 (qp X) (Nat.le_refl _) (-1) z1 f1 c1 _ _ _ hX hK SUp.st h (lv_sub hl [0, 1, 2, 3, 4, 5, 6, 7] rfl)
    | succ d ih =>
      intro k hkd z1 f1 c1 H locs ls hX hK h hl
      have hE : k < qt X := by omega
      have h56 : 56 ≤ zn z1 := (gw_ix h).1.1.2.2
      obtain ⟨b, hb9⟩ : ∃ b, b = zn z1 := ⟨_, rfl⟩
      have h : GW z1 (UAt z1 ix (qt X) (qp X) b 0) 0 (b + 0) s.heap c1 (X, Y, X, f1) H locs := by rw [hb9]; exact h
      refine lv_iload hx hb dX3_isSame_13 (lv_at hl 0 rfl) ?_
      refine lv_aload_n hx hb dX3_isSame_15 rfl (lv_at hl 5 rfl) ?_
      refine U_gO C0 hK h hin3 0 (by decide) (by decide +kernel) rfl dX3_isSame_16 ?_
      refine U_lT C0 hK h dX3_isSame_19 ?_
      refine lv_icmp_ge (tgt := 193) hx hb dX3_isSame_20 (by decide) (fun q9 => absurd q9 (nI_ge (a := k) (b := qt X) (by omega) (by omega))) (fun _ => ?_)
      refine lv_aload_n hx hb dX3_isSame_23 rfl (lv_at hl 5 rfl) ?_
      refine U_gO C0 hK h hin3 0 (by decide) (by decide +kernel) rfl dX3_isSame_24 ?_
      refine lv_iload hx hb dX3_isSame_27 (lv_at hl 0 rfl) ?_
      refine U_aT C0 hK h (i := k) rfl (by omega) dX3_isSame_29 ?_
      refine lv_astore (lv' := [(7, .ref (za z1 (ix (2 + k)))), (6, .int (nI k)), (2, .int (qsum (fun j => qT X j 4) k)), (3, .int (qsum (fun j => qT X j 6) k)), (4, .int (qsum (fun j => qT X j 7) k)), (5, .int (qthc X k)), (0, .ref (za z1 55)), (1, .ref (za z1 0))]) hx hb dX3_isSame_30 hl (by decide) rfl (fun ls hl => ?_)
      refine lv_bipush (v := 8) hx hb dX3_isSame_32 (by decide) ?_
      refine U_ni2 C0 hK h (show zn z1 = b + 0 by omega) (by decide +kernel) (len := 8) rfl (by omega) (by show k + 1 ≤ 25; omega) (by show 8 * k + 8 ≤ 215; omega) dX3_isSame_34 (fun zq1 cq2 H fq3 hX9 hznzq1 hK hfq3 hofq3 h => ?_)
      have ea4 := hX9.2.2.1 (ix (2 + k)) (by have := (gw_ix h).1.2.1 _ (suT (show k < qt X by omega)); omega)
      have ea5 := hX9.2.2.1 55 (by omega)
      have ea6 := hX9.2.2.1 0 (by omega)
      rw [← ea4, ← ea5, ← ea6] at hl
      have hXzq1 := hX.tr hX9 (Nat.le_refl _)
      refine lv_dup hx hb dX3_isSame_36 rfl ?_
      refine lv_iconst (v := 0) hx hb dX3_isSame_37 (by decide) ?_
      refine lv_aload hx hb dX3_isSame_38 (lv_at hl 0 rfl) ?_
      refine U_gT C0 hK h hin4 (by omega) 0 (by decide) (by decide +kernel) dX3_isSame_40 ?_
      refine U_is2 C0 hK h (j := 0) (i := 0) (by omega) hfq3 rfl (by omega) (by omega) dX3_isSame_43 (fun H locs fs7 hfs7 hofs7 h => ?_)
      refine lv_dup hx hb dX3_isSame_44 rfl ?_
      refine lv_iconst (v := 1) hx hb dX3_isSame_45 (by decide) ?_
      refine lv_aload hx hb dX3_isSame_46 (lv_at hl 0 rfl) ?_
      refine U_gT C0 hK h hin4 (by omega) 1 (by decide) (by decide +kernel) dX3_isSame_48 ?_
      refine U_is2 C0 hK h (j := 0) (i := 1) (by omega) hfs7 rfl (by omega) (by omega) dX3_isSame_51 (fun H locs fs8 hfs8 hofs8 h => ?_)
      refine lv_dup hx hb dX3_isSame_52 rfl ?_
      refine lv_iconst (v := 2) hx hb dX3_isSame_53 (by decide) ?_
      refine lv_aload hx hb dX3_isSame_54 (lv_at hl 0 rfl) ?_
      refine U_gT C0 hK h hin4 (by omega) 2 (by decide) (by decide +kernel) dX3_isSame_56 ?_
      refine U_is2 C0 hK h (j := 0) (i := 2) (by omega) hfs8 rfl (by omega) (by omega) dX3_isSame_59 (fun H locs fs9 hfs9 hofs9 h => ?_)
      refine lv_dup hx hb dX3_isSame_60 rfl ?_
      refine lv_iconst (v := 3) hx hb dX3_isSame_61 (by decide) ?_
      refine lv_aload hx hb dX3_isSame_62 (lv_at hl 0 rfl) ?_
      refine U_gT C0 hK h hin4 (by omega) 3 (by decide) (by decide +kernel) dX3_isSame_64 ?_
      refine U_is2 C0 hK h (j := 0) (i := 3) (by omega) hfs9 rfl (by omega) (by omega) dX3_isSame_67 (fun H locs fs10 hfs10 hofs10 h => ?_)
      refine lv_dup hx hb dX3_isSame_68 rfl ?_
      refine lv_iconst (v := 4) hx hb dX3_isSame_69 (by decide) ?_
      refine lv_aload hx hb dX3_isSame_70 (lv_at hl 0 rfl) ?_
      refine U_gT C0 hK h hin4 (by omega) 4 (by decide) (by decide +kernel) dX3_isSame_72 ?_
      refine U_is2 C0 hK h (j := 0) (i := 4) (by omega) hfs10 rfl (by omega) (by omega) dX3_isSame_75 (fun H locs fs11 hfs11 hofs11 h => ?_)
      refine lv_dup hx hb dX3_isSame_76 rfl ?_
      refine lv_iconst (v := 5) hx hb dX3_isSame_77 (by decide) ?_
      refine lv_aload hx hb dX3_isSame_78 (lv_at hl 0 rfl) ?_
      refine U_gT C0 hK h hin4 (by omega) 5 (by decide) (by decide +kernel) dX3_isSame_80 ?_
      refine U_is2 C0 hK h (j := 0) (i := 5) (by omega) hfs11 rfl (by omega) (by omega) dX3_isSame_83 (fun H locs fs12 hfs12 hofs12 h => ?_)
      refine lv_dup hx hb dX3_isSame_84 rfl ?_
      refine lv_bipush (v := 6) hx hb dX3_isSame_85 (by decide) ?_
      refine lv_aload hx hb dX3_isSame_87 (lv_at hl 0 rfl) ?_
      refine U_gT C0 hK h hin4 (by omega) 6 (by decide) (by decide +kernel) dX3_isSame_89 ?_
      refine U_is2 C0 hK h (j := 0) (i := 6) (by omega) hfs12 rfl (by omega) (by omega) dX3_isSame_92 (fun H locs fs13 hfs13 hofs13 h => ?_)
      refine lv_dup hx hb dX3_isSame_93 rfl ?_
      refine lv_bipush (v := 7) hx hb dX3_isSame_94 (by decide) ?_
      refine lv_aload hx hb dX3_isSame_96 (lv_at hl 0 rfl) ?_
      refine U_gT C0 hK h hin4 (by omega) 7 (by decide) (by decide +kernel) dX3_isSame_98 ?_
      refine U_is2 C0 hK h (j := 0) (i := 7) (by omega) hfs13 rfl (by omega) (by omega) dX3_isSame_101 (fun H locs fs14 hfs14 hofs14 h => ?_)
      obtain ⟨ga, ega⟩ : ∃ ga, ga = (upd (upd (upd (upd (upd (upd (upd (upd (fun _ => 0) 0 (qT X k 0)) 1 (qT X k 1)) 2 (qT X k 2)) 3 (qT X k 3)) 4 (qT X k 4)) 5 (qT X k 5)) 6 (qT X k 6)) 7 (qT X k 7)) := ⟨_, rfl⟩
      rw [← ega] at hfs14
      have hga : ∀ k9, k9 < 8 → ga k9 = qT X k k9 := fun k9 hk9 => by rw [ega]; rcases (show k9 = 0 ∨ k9 = 1 ∨ k9 = 2 ∨ k9 = 3 ∨ k9 = 4 ∨ k9 = 5 ∨ k9 = 6 ∨ k9 = 7 by omega) with rfl | rfl | rfl | rfl | rfl | rfl | rfl | rfl <;> rfl
      have L107 : ∀ (d i : Nat), i + d = 8 → ∀ (H : Heap) (locs : List Loc) (ls : Array Slot), GW zq1 (UAt zq1 ix (qt X) (qp X) b (0 + 1)) 0 (b + (0 + 1)) s.heap cq2 (X, Y, X, fs14) H locs → lv_has ls 11 [(9, .int (nI i)), (8, .ref (za zq1 (b + 0))), (7, .ref (za zq1 (ix (2 + k)))), (6, .int (nI k)), (2, .int (qsum (fun j => qT X j 4) k)), (3, .int (qsum (fun j => qT X j 6) k)), (4, .int (qsum (fun j => qT X j 7) k)), (5, .int (qthc X k)), (0, .ref (za zq1 55)), (1, .ref (za zq1 0))] → W p l e RMsame s m ([Value.ref (za z 55), .ref (za z 0)] : List Value).toArray below meth c H locs (k + 1) (8 * k + 8) (MQ below (va_Qi (fun (r : Int32) (_ : Unit) => r = 1) (fun (_ : Unit) (_ : State) => True) (qA (zn z) (za z) s.heap.size)) ([Value.ref (za z 55), .ref (za z 0)] : List Value).toArray s 25 215 (qA (zn z) (za z) s.heap.size)) (F0 m 107 ls []) := by
        intro  d
        induction d with
        | zero =>
          intro i hdi H locs ls h hl
          have hEi : i = 8 := by omega
          refine lv_iload hx hb dX3_isSame_107 (lv_at hl 0 rfl) ?_
          refine lv_bipush (v := 8) hx hb dX3_isSame_109 (by decide) ?_
          refine lv_icmp_ge (tgt := 138) hx hb dX3_isSame_111 (by decide) (fun _ => ?_) (fun q9 => absurd (show (8 : Int32) ≤ nI i from nI_le (a := 8) (b := i) (by omega) (by omega)) q9)
          refine lv_iload_n hx hb dX3_isSame_138 rfl (lv_at hl 4 rfl) ?_
          refine lv_aload hx hb dX3_isSame_139 (lv_at hl 2 rfl) ?_
          refine U_gT C0 hK h hin4 (by omega) 4 (by decide) (by decide +kernel) dX3_isSame_141 ?_
          refine lv_iadd hx hb dX3_isSame_144 ?_
          refine lv_istore_n (lv' := [(2, .int ((qsum (fun j => qT X j 4) k) + (qT X k 4))), (9, .int (nI i)), (8, .ref (za zq1 (b + 0))), (7, .ref (za zq1 (ix (2 + k)))), (6, .int (nI k)), (3, .int (qsum (fun j => qT X j 6) k)), (4, .int (qsum (fun j => qT X j 7) k)), (5, .int (qthc X k)), (0, .ref (za zq1 55)), (1, .ref (za zq1 0))]) hx hb dX3_isSame_145 rfl hl (by decide) rfl (fun ls hl => ?_)
          refine lv_iload_n hx hb dX3_isSame_146 rfl (lv_at hl 5 rfl) ?_
          refine lv_aload hx hb dX3_isSame_147 (lv_at hl 3 rfl) ?_
          refine U_gT C0 hK h hin4 (by omega) 6 (by decide) (by decide +kernel) dX3_isSame_149 ?_
          refine lv_iadd hx hb dX3_isSame_152 ?_
          refine lv_istore_n (lv' := [(3, .int ((qsum (fun j => qT X j 6) k) + (qT X k 6))), (2, .int ((qsum (fun j => qT X j 4) k) + (qT X k 4))), (9, .int (nI i)), (8, .ref (za zq1 (b + 0))), (7, .ref (za zq1 (ix (2 + k)))), (6, .int (nI k)), (4, .int (qsum (fun j => qT X j 7) k)), (5, .int (qthc X k)), (0, .ref (za zq1 55)), (1, .ref (za zq1 0))]) hx hb dX3_isSame_153 rfl hl (by decide) rfl (fun ls hl => ?_)
          refine lv_iload hx hb dX3_isSame_154 (lv_at hl 6 rfl) ?_
          refine lv_aload hx hb dX3_isSame_156 (lv_at hl 4 rfl) ?_
          refine U_gT C0 hK h hin4 (by omega) 7 (by decide) (by decide +kernel) dX3_isSame_158 ?_
          refine lv_iadd hx hb dX3_isSame_161 ?_
          refine lv_istore (lv' := [(4, .int ((qsum (fun j => qT X j 7) k) + (qT X k 7))), (3, .int ((qsum (fun j => qT X j 6) k) + (qT X k 6))), (2, .int ((qsum (fun j => qT X j 4) k) + (qT X k 4))), (9, .int (nI i)), (8, .ref (za zq1 (b + 0))), (7, .ref (za zq1 (ix (2 + k)))), (6, .int (nI k)), (5, .int (qthc X k)), (0, .ref (za zq1 55)), (1, .ref (za zq1 0))]) hx hb dX3_isSame_162 hl (by decide) rfl (fun ls hl => ?_)
          refine lv_iload hx hb dX3_isSame_164 (lv_at hl 7 rfl) ?_
          refine lv_aload hx hb dX3_isSame_166 (lv_at hl 5 rfl) ?_
          refine U_gT C0 hK h hin4 (by omega) 5 (by decide) (by decide +kernel) dX3_isSame_168 ?_
          refine lv_aload hx hb dX3_isSame_171 (lv_at hl 5 rfl) ?_
          refine U_gT C0 hK h hin4 (by omega) 2 (by decide) (by decide +kernel) dX3_isSame_173 ?_
          refine lv_icmp_ge (tgt := 183) hx hb dX3_isSame_176 (by decide) (fun c_176 => ?_) (fun c_176 => ?_)
          · refine lv_iconst (v := 0) hx hb dX3_isSame_183 (by decide) ?_
            refine lv_iadd hx hb dX3_isSame_184 ?_
            refine lv_istore (lv' := [(5, .int ((qthc X k) + 0)), (4, .int ((qsum (fun j => qT X j 7) k) + (qT X k 7))), (3, .int ((qsum (fun j => qT X j 6) k) + (qT X k 6))), (2, .int ((qsum (fun j => qT X j 4) k) + (qT X k 4))), (9, .int (nI i)), (8, .ref (za zq1 (b + 0))), (7, .ref (za zq1 (ix (2 + k)))), (6, .int (nI k)), (0, .ref (za zq1 55)), (1, .ref (za zq1 0))]) hx hb dX3_isSame_185 hl (by decide) rfl (fun ls hl => ?_)
            refine lv_iinc (v := nI (k + 1)) (lv' := [(6, .int (nI (k + 1))), (5, .int ((qthc X k) + 0)), (4, .int ((qsum (fun j => qT X j 7) k) + (qT X k 7))), (3, .int ((qsum (fun j => qT X j 6) k) + (qT X k 6))), (2, .int ((qsum (fun j => qT X j 4) k) + (qT X k 4))), (9, .int (nI i)), (8, .ref (za zq1 (b + 0))), (7, .ref (za zq1 (ix (2 + k)))), (0, .ref (za zq1 55)), (1, .ref (za zq1 0))]) hx hb dX3_isSame_187 hl (k := 7) rfl (q_inc k 1) (by decide) rfl (fun ls hl => ?_)
            refine lv_goto (tgt := 13) hx hb dX3_isSame_190 (by decide) ?_
            have h : GN zq1 ix s.heap cq2 (X, Y, X, fs14) H locs := by show GW zq1 (UAt zq1 ix (qt X) (qp X) (zn zq1) 0) 0 (zn zq1 + 0) _ _ _ _ _; rw [hznzq1]; exact h.imp (fun ct hA => hA.drop (b + (0 + 1)) (by omega))
            have e9 : qthc X (k + 1) = qthc X k + 0 := by simp only [qthc, if_neg (Int32.not_lt.mpr c_176), add0]
            rw [← e9] at hl
            refine W.widen (k := k + 1) (n := 8 * (k + 1)) (by omega) (by omega) ?_
            exact ih (k + 1) (by omega) zq1 fs14 cq2 _ _ _ hXzq1 hK h (lv_sub hl [0, 4, 3, 2, 1, 8, 9] rfl)
          · refine lv_iconst (v := 1) hx hb dX3_isSame_179 (by decide) ?_
            refine lv_goto (tgt := 184) hx hb dX3_isSame_180 (by decide) ?_
            refine lv_iadd hx hb dX3_isSame_184 ?_
            refine lv_istore (lv' := [(5, .int ((qthc X k) + 1)), (4, .int ((qsum (fun j => qT X j 7) k) + (qT X k 7))), (3, .int ((qsum (fun j => qT X j 6) k) + (qT X k 6))), (2, .int ((qsum (fun j => qT X j 4) k) + (qT X k 4))), (9, .int (nI i)), (8, .ref (za zq1 (b + 0))), (7, .ref (za zq1 (ix (2 + k)))), (6, .int (nI k)), (0, .ref (za zq1 55)), (1, .ref (za zq1 0))]) hx hb dX3_isSame_185 hl (by decide) rfl (fun ls hl => ?_)
            refine lv_iinc (v := nI (k + 1)) (lv' := [(6, .int (nI (k + 1))), (5, .int ((qthc X k) + 1)), (4, .int ((qsum (fun j => qT X j 7) k) + (qT X k 7))), (3, .int ((qsum (fun j => qT X j 6) k) + (qT X k 6))), (2, .int ((qsum (fun j => qT X j 4) k) + (qT X k 4))), (9, .int (nI i)), (8, .ref (za zq1 (b + 0))), (7, .ref (za zq1 (ix (2 + k)))), (0, .ref (za zq1 55)), (1, .ref (za zq1 0))]) hx hb dX3_isSame_187 hl (k := 7) rfl (q_inc k 1) (by decide) rfl (fun ls hl => ?_)
            refine lv_goto (tgt := 13) hx hb dX3_isSame_190 (by decide) ?_
            have h : GN zq1 ix s.heap cq2 (X, Y, X, fs14) H locs := by show GW zq1 (UAt zq1 ix (qt X) (qp X) (zn zq1) 0) 0 (zn zq1 + 0) _ _ _ _ _; rw [hznzq1]; exact h.imp (fun ct hA => hA.drop (b + (0 + 1)) (by omega))
            have e9 : qthc X (k + 1) = qthc X k + 1 := by simp only [qthc, if_pos (Int32.not_le.mp c_176)]
            rw [← e9] at hl
            refine W.widen (k := k + 1) (n := 8 * (k + 1)) (by omega) (by omega) ?_
            exact ih (k + 1) (by omega) zq1 fs14 cq2 _ _ _ hXzq1 hK h (lv_sub hl [0, 4, 3, 2, 1, 8, 9] rfl)
        | succ d ihL107 =>
          intro i hdi H locs ls h hl
          have hEi : i < 8 := by omega
          refine lv_iload hx hb dX3_isSame_107 (lv_at hl 0 rfl) ?_
          refine lv_bipush (v := 8) hx hb dX3_isSame_109 (by decide) ?_
          refine lv_icmp_ge (tgt := 138) hx hb dX3_isSame_111 (by decide) (fun q9 => absurd q9 (show ¬ (8 : Int32) ≤ nI i from nI_ge (a := i) (b := 8) (by omega) (by decide))) (fun _ => ?_)
          refine lv_aload_n hx hb dX3_isSame_114 rfl (lv_at hl 9 rfl) ?_
          refine lv_iload hx hb dX3_isSame_115 (lv_at hl 3 rfl) ?_
          refine lv_iload hx hb dX3_isSame_117 (lv_at hl 0 rfl) ?_
          refine S_callVi C0 hK h (k_tank hk k (by omega) i (by omega)) (cwV 2 hts gX3_isSame_X1_tank rfl rfl rfl (by decide +kernel) ⟨Nat.le_of_ble_eq_true rfl, Nat.le_of_ble_eq_true rfl⟩) (k := 0) (ci := 1) (by omega) (fun ct hA => hA.1.1) rfl rfl rfl hl.1 (rest := []) rfl (Nat.le_of_ble_eq_true rfl) ⟨by show k + 1 + 0 ≤ 25; omega, by show 8 * k + 8 + 0 ≤ 215; omega⟩ dX3_isSame_119 (fun r u H locs hp h => ?_)
          obtain ⟨rfl, hu9⟩ := hp
          rw [hu9] at h
          refine lv_aload hx hb dX3_isSame_122 (lv_at hl 1 rfl) ?_
          refine lv_iload hx hb dX3_isSame_124 (lv_at hl 0 rfl) ?_
          refine U_il2 C0 hK h (j := 0) (i := i) (by omega) hfs14 rfl (by omega) (by omega) dX3_isSame_126 ?_
          refine lv_icmp_eq (tgt := 132) hx hb dX3_isSame_127 (by decide) (fun _ => ?_) (fun q9 => absurd (hga i (by omega)).symm q9)
          refine lv_iinc (v := nI (i + 1)) (lv' := [(9, .int (nI (i + 1))), (8, .ref (za zq1 (b + 0))), (7, .ref (za zq1 (ix (2 + k)))), (6, .int (nI k)), (2, .int (qsum (fun j => qT X j 4) k)), (3, .int (qsum (fun j => qT X j 6) k)), (4, .int (qsum (fun j => qT X j 7) k)), (5, .int (qthc X k)), (0, .ref (za zq1 55)), (1, .ref (za zq1 0))]) hx hb dX3_isSame_132 hl (k := 0) rfl (q_inc i 1) (by decide) rfl (fun ls hl => ?_)
          refine lv_goto (tgt := 107) hx hb dX3_isSame_135 (by decide) ?_
          exact ihL107 (i + 1) (by omega) _ _ _ h (lv_sub hl [0, 1, 2, 3, 4, 5, 6, 7, 8, 9] rfl)
      refine lv_astore (lv' := [(8, .ref (za zq1 (b + 0))), (7, .ref (za zq1 (ix (2 + k)))), (6, .int (nI k)), (2, .int (qsum (fun j => qT X j 4) k)), (3, .int (qsum (fun j => qT X j 6) k)), (4, .int (qsum (fun j => qT X j 7) k)), (5, .int (qthc X k)), (0, .ref (za zq1 55)), (1, .ref (za zq1 0))]) hx hb dX3_isSame_102 hl (by decide) rfl (fun ls hl => ?_)
      refine lv_iconst (v := 0) hx hb dX3_isSame_104 (by decide) ?_
      refine lv_istore (lv' := [(9, .int 0), (8, .ref (za zq1 (b + 0))), (7, .ref (za zq1 (ix (2 + k)))), (6, .int (nI k)), (2, .int (qsum (fun j => qT X j 4) k)), (3, .int (qsum (fun j => qT X j 6) k)), (4, .int (qsum (fun j => qT X j 7) k)), (5, .int (qthc X k)), (0, .ref (za zq1 55)), (1, .ref (za zq1 0))]) hx hb dX3_isSame_105 hl (by decide) rfl (fun ls hl => ?_)
      exact L107 (8) 0 (by omega) _ _ _ h (lv_sub hl [0, 1, 2, 3, 4, 5, 6, 7, 8, 9] rfl)
  refine lv_iconst (v := 0) hx hb dX3_isSame_0 (by decide) ?_
  refine lv_istore_n (lv' := [(2, .int 0), (0, .ref (za z 55)), (1, .ref (za z 0))]) hx hb dX3_isSame_1 rfl hl (by decide) rfl (fun ls hl => ?_)
  refine lv_iconst (v := 0) hx hb dX3_isSame_2 (by decide) ?_
  refine lv_istore_n (lv' := [(3, .int 0), (2, .int 0), (0, .ref (za z 55)), (1, .ref (za z 0))]) hx hb dX3_isSame_3 rfl hl (by decide) rfl (fun ls hl => ?_)
  refine lv_iconst (v := 0) hx hb dX3_isSame_4 (by decide) ?_
  refine lv_istore (lv' := [(4, .int 0), (3, .int 0), (2, .int 0), (0, .ref (za z 55)), (1, .ref (za z 0))]) hx hb dX3_isSame_5 hl (by decide) rfl (fun ls hl => ?_)
  refine lv_iconst (v := 0) hx hb dX3_isSame_7 (by decide) ?_
  refine lv_istore (lv' := [(5, .int 0), (4, .int 0), (3, .int 0), (2, .int 0), (0, .ref (za z 55)), (1, .ref (za z 0))]) hx hb dX3_isSame_8 hl (by decide) rfl (fun ls hl => ?_)
  refine lv_iconst (v := 0) hx hb dX3_isSame_10 (by decide) ?_
  refine lv_istore (lv' := [(6, .int 0), (5, .int 0), (4, .int 0), (3, .int 0), (2, .int 0), (0, .ref (za z 55)), (1, .ref (za z 0))]) hx hb dX3_isSame_11 hl (by decide) rfl (fun ls hl => ?_)
  exact L13 (qt X) 0 (by omega) z f _ _ _ _ hX hK h (lv_sub hl [0, 4, 3, 2, 1, 5, 6] rfl)
