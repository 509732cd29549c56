/-! PART 87: the law, tank by tank -/
set_option maxHeartbeats 8000000 in
set_option maxRecDepth 100000 in
theorem law_D {p : Program} {l : Launch} {e : Env} {s : State} {m : MethodId} {below : List Frame} {meth : Method} {c : Code} {Q : State → Prop} {a0 i cl sl : Nat} {z : QZ} {ix : Nat → Nat} {b : Nat} {c1 : Nat → va_E} {X : QLs} (C0 : Cx p s m ([Value.ref a0] : List Value).toArray meth c cL_law 32 (some .boolean) RL wsL_law) (hK : QK z s) (hrm : cl ≤ room_1.cells ∧ sl ≤ room_1.slots) (hI : Inv i X) (hi : i < 40) (hb9 : 56 ≤ b) {X2 : QLs} (e2 : X2 = dayL X) {g0 g1 g2 : Nat → Int32} {f : Nat → Nat × (Nat → Int32)} (hf0 : f 0 = (qp X, g0)) (hf1 : f 1 = (qt X, g1)) (hf2 : f 2 = (qt X, g2)) (hg0 : ∀ j, j < qp X → g0 j = qP X j 4) (hg1 : ∀ j, j < qt X → g1 j = qT X j 6) (hg2 : nI i - nI i / 5 * 5 = 0 → ∀ j, j < qt X → g2 j = sat X j) (kk : ∀ (Y : QLs) (H : Heap) (locs : List Loc) (ls : Array Slot), GW z (UAt z ix (qt X) (qp X) b 3) 0 (b + 3) s.heap c1 (X2, Y, X2, f) H locs → lv_has ls 32 [(28, .int 0), (27, .int 0), (26, .int 0), (25, .int 0), (24, .int (qsum (fun j => qT X2 j 3) (qt X))), (23, .int (qthc X2 (qt X))), (22, .int (qsum (fun j => qT X2 j 5) (qt X))), (18, .int (sumT X2 6 - sumT X 6)), (19, .int (sumP X2 7 - sumP X 7)), (20, .int (sumT X2 3)), (21, .int (sumP X2 4)), (15, .ref (za z (b + 2))), (14, .ref (za z (b + 1))), (13, .ref (za z (b + 0))), (5, .int (nI (qt X))), (6, .int (nI (qp X))), (7, .int (sumT X 3)), (8, .int (sumT X 4)), (9, .int (sumT X 6)), (10, .int (sumP X 7)), (11, .int (sumT X 7)), (12, .int (qD X)), (3, .int (nI i)), (2, .ref (za z 55)), (1, .ref (za z 0)), (0, .ref a0)] → W p l e room_1 s m ([Value.ref a0] : List Value).toArray below meth c H locs cl sl Q (F0 m 783 ls [])) : ∀ (d k : Nat), k + d = qt X → ∀ (Y : QLs) (H : Heap) (locs : List Loc) (ls : Array Slot), GW z (UAt z ix (qt X) (qp X) b 3) 0 (b + 3) s.heap c1 (X2, Y, X2, f) H locs → lv_has ls 32 [(25, .int (nI k)), (24, .int (qsum (fun j => qT X2 j 3) k)), (23, .int (qthc X2 k)), (22, .int (qsum (fun j => qT X2 j 5) k)), (18, .int (sumT X2 6 - sumT X 6)), (19, .int (sumP X2 7 - sumP X 7)), (20, .int (sumT X2 3)), (21, .int (sumP X2 4)), (15, .ref (za z (b + 2))), (14, .ref (za z (b + 1))), (13, .ref (za z (b + 0))), (5, .int (nI (qt X))), (6, .int (nI (qp X))), (7, .int (sumT X 3)), (8, .int (sumT X 4)), (9, .int (sumT X 6)), (10, .int (sumP X 7)), (11, .int (sumT X 7)), (12, .int (qD X)), (3, .int (nI i)), (2, .ref (za z 55)), (1, .ref (za z 0)), (0, .ref a0)] → W p l e room_1 s m ([Value.ref a0] : List Value).toArray below meth c H locs cl sl Q (F0 m 414 ls []) := by
  obtain ⟨hx, hb, hr, hml, hown, hts, hlocks⟩ := id C0
  have hk := hI.ok
  have hk1 := hk.1
  have hk0 := hk.2.1
  have hI2 : Inv (i + 1) X2 := by rw [e2]; exact hI.day (by omega)
  have hk2 := hI2.ok
  have et : qt X2 = qt X := by rw [e2]; exact (shp_day X).1
  have eq9 : qp X2 = qp X := by rw [e2]; exact (shp_day X).2.1
  intro d
  induction d with
  | zero =>
    intro k hkd Y H locs ls  h hl
    have hE : k = qt X := by omega
    subst hE
    refine lv_iload hx hb dL_law_414 (lv_at hl 0 rfl) ?_
    refine lv_iload hx hb dL_law_416 (lv_at hl 11 rfl) ?_
    refine lv_icmp_ge (tgt := 771) hx hb dL_law_418 (by decide) (fun _ => ?_) (fun q9 => absurd (nI_le (a := qt X) (b := (qt X)) (by omega) (by omega)) q9)
    refine lv_iconst (v := 0) hx hb dL_law_771 (by decide) ?_
    refine lv_istore (lv' := [(25, .int 0), (24, .int (qsum (fun j => qT X2 j 3) (qt X))), (23, .int (qthc X2 (qt X))), (22, .int (qsum (fun j => qT X2 j 5) (qt X))), (18, .int (sumT X2 6 - sumT X 6)), (19, .int (sumP X2 7 - sumP X 7)), (20, .int (sumT X2 3)), (21, .int (sumP X2 4)), (15, .ref (za z (b + 2))), (14, .ref (za z (b + 1))), (13, .ref (za z (b + 0))), (5, .int (nI (qt X))), (6, .int (nI (qp X))), (7, .int (sumT X 3)), (8, .int (sumT X 4)), (9, .int (sumT X 6)), (10, .int (sumP X 7)), (11, .int (sumT X 7)), (12, .int (qD X)), (3, .int (nI i)), (2, .ref (za z 55)), (1, .ref (za z 0)), (0, .ref a0)]) hx hb dL_law_772 hl (by decide) rfl (fun ls hl => ?_)
    refine lv_iconst (v := 0) hx hb dL_law_774 (by decide) ?_
    refine lv_istore (lv' := [(26, .int 0), (25, .int 0), (24, .int (qsum (fun j => qT X2 j 3) (qt X))), (23, .int (qthc X2 (qt X))), (22, .int (qsum (fun j => qT X2 j 5) (qt X))), (18, .int (sumT X2 6 - sumT X 6)), (19, .int (sumP X2 7 - sumP X 7)), (20, .int (sumT X2 3)), (21, .int (sumP X2 4)), (15, .ref (za z (b + 2))), (14, .ref (za z (b + 1))), (13, .ref (za z (b + 0))), (5, .int (nI (qt X))), (6, .int (nI (qp X))), (7, .int (sumT X 3)), (8, .int (sumT X 4)), (9, .int (sumT X 6)), (10, .int (sumP X 7)), (11, .int (sumT X 7)), (12, .int (qD X)), (3, .int (nI i)), (2, .ref (za z 55)), (1, .ref (za z 0)), (0, .ref a0)]) hx hb dL_law_775 hl (by decide) rfl (fun ls hl => ?_)
    refine lv_iconst (v := 0) hx hb dL_law_777 (by decide) ?_
    refine lv_istore (lv' := [(27, .int 0), (26, .int 0), (25, .int 0), (24, .int (qsum (fun j => qT X2 j 3) (qt X))), (23, .int (qthc X2 (qt X))), (22, .int (qsum (fun j => qT X2 j 5) (qt X))), (18, .int (sumT X2 6 - sumT X 6)), (19, .int (sumP X2 7 - sumP X 7)), (20, .int (sumT X2 3)), (21, .int (sumP X2 4)), (15, .ref (za z (b + 2))), (14, .ref (za z (b + 1))), (13, .ref (za z (b + 0))), (5, .int (nI (qt X))), (6, .int (nI (qp X))), (7, .int (sumT X 3)), (8, .int (sumT X 4)), (9, .int (sumT X 6)), (10, .int (sumP X 7)), (11, .int (sumT X 7)), (12, .int (qD X)), (3, .int (nI i)), (2, .ref (za z 55)), (1, .ref (za z 0)), (0, .ref a0)]) hx hb dL_law_778 hl (by decide) rfl (fun ls hl => ?_)
    refine lv_iconst (v := 0) hx hb dL_law_780 (by decide) ?_
    refine lv_istore (lv' := [(28, .int 0), (27, .int 0), (26, .int 0), (25, .int 0), (24, .int (qsum (fun j => qT X2 j 3) (qt X))), (23, .int (qthc X2 (qt X))), (22, .int (qsum (fun j => qT X2 j 5) (qt X))), (18, .int (sumT X2 6 - sumT X 6)), (19, .int (sumP X2 7 - sumP X 7)), (20, .int (sumT X2 3)), (21, .int (sumP X2 4)), (15, .ref (za z (b + 2))), (14, .ref (za z (b + 1))), (13, .ref (za z (b + 0))), (5, .int (nI (qt X))), (6, .int (nI (qp X))), (7, .int (sumT X 3)), (8, .int (sumT X 4)), (9, .int (sumT X 6)), (10, .int (sumP X 7)), (11, .int (sumT X 7)), (12, .int (qD X)), (3, .int (nI i)), (2, .ref (za z 55)), (1, .ref (za z 0)), (0, .ref a0)]) hx hb dL_law_781 hl (by decide) rfl (fun ls hl => ?_)
    exact kk Y _ _ _  h (lv_sub hl [0, 1, 2, 3, 4, 5, 6, 7, 8, 9, 10, 11, 12, 13, 14, 15, 16, 17, 18, 19, 20, 21, 22, 23, 24, 25] rfl)
  | succ d ih =>
    intro k hkd Y H locs ls  h hl
    have hE : k < qt X := by omega
    have ht := law_tank hI (by omega) (show k < qt X by omega)
    rw [← e2] at ht
    refine lv_iload hx hb dL_law_414 (lv_at hl 0 rfl) ?_
    refine lv_iload hx hb dL_law_416 (lv_at hl 11 rfl) ?_
    refine lv_icmp_ge (tgt := 771) hx hb dL_law_418 (by decide) (fun q9 => absurd q9 (nI_ge (a := k) (b := qt X) (by omega) (by omega))) (fun _ => ?_)
    refine lv_aload_n hx hb dL_law_421 rfl (lv_at hl 21 rfl) ?_
    refine lv_iload hx hb dL_law_422 (lv_at hl 0 rfl) ?_
    refine lv_iconst (v := 5) hx hb dL_law_424 (by decide) ?_
    refine S_callVi C0 hK h (k_tank hk2 k (by omega) 5 (by omega)) (cwV 2 hts gL_law_X1_tank rfl rfl rfl (by decide +kernel) ⟨Nat.le_of_ble_eq_true rfl, Nat.le_of_ble_eq_true rfl⟩) (k := 0) (ci := 1) (by omega) (fun ct hA => hA.1.1) rfl rfl rfl hl.1 (rest := []) rfl (Nat.le_of_ble_eq_true rfl) hrm dL_law_425 (fun r u H locs hp h => ?_)
    obtain ⟨er9, hu9⟩ := hp
    rw [hu9] at h
    have er9 : r = qT X2 k 5 := er9
    subst er9
    refine lv_istore (lv' := [(26, .int (qT X2 k 5)), (25, .int (nI k)), (24, .int (qsum (fun j => qT X2 j 3) k)), (23, .int (qthc X2 k)), (22, .int (qsum (fun j => qT X2 j 5) k)), (18, .int (sumT X2 6 - sumT X 6)), (19, .int (sumP X2 7 - sumP X 7)), (20, .int (sumT X2 3)), (21, .int (sumP X2 4)), (15, .ref (za z (b + 2))), (14, .ref (za z (b + 1))), (13, .ref (za z (b + 0))), (5, .int (nI (qt X))), (6, .int (nI (qp X))), (7, .int (sumT X 3)), (8, .int (sumT X 4)), (9, .int (sumT X 6)), (10, .int (sumP X 7)), (11, .int (sumT X 7)), (12, .int (qD X)), (3, .int (nI i)), (2, .ref (za z 55)), (1, .ref (za z 0)), (0, .ref a0)]) hx hb dL_law_428 hl (by decide) rfl (fun ls hl => ?_)
    refine lv_iload hx hb dL_law_430 (lv_at hl 4 rfl) ?_
    refine lv_iload hx hb dL_law_432 (lv_at hl 0 rfl) ?_
    refine lv_iadd hx hb dL_law_434 ?_
    refine lv_istore (lv' := [(22, .int ((qsum (fun j => qT X2 j 5) k) + (qT X2 k 5))), (26, .int (qT X2 k 5)), (25, .int (nI k)), (24, .int (qsum (fun j => qT X2 j 3) k)), (23, .int (qthc X2 k)), (18, .int (sumT X2 6 - sumT X 6)), (19, .int (sumP X2 7 - sumP X 7)), (20, .int (sumT X2 3)), (21, .int (sumP X2 4)), (15, .ref (za z (b + 2))), (14, .ref (za z (b + 1))), (13, .ref (za z (b + 0))), (5, .int (nI (qt X))), (6, .int (nI (qp X))), (7, .int (sumT X 3)), (8, .int (sumT X 4)), (9, .int (sumT X 6)), (10, .int (sumP X 7)), (11, .int (sumT X 7)), (12, .int (qD X)), (3, .int (nI i)), (2, .ref (za z 55)), (1, .ref (za z 0)), (0, .ref a0)]) hx hb dL_law_435 hl (by decide) rfl (fun ls hl => ?_)
    refine lv_iload hx hb dL_law_437 (lv_at hl 3 rfl) ?_
    refine lv_aload_n hx hb dL_law_439 rfl (lv_at hl 22 rfl) ?_
    refine lv_iload hx hb dL_law_440 (lv_at hl 2 rfl) ?_
    refine lv_iconst (v := 3) hx hb dL_law_442 (by decide) ?_
    refine S_callVi C0 hK h (k_tank hk2 k (by omega) 3 (by omega)) (cwV 2 hts gL_law_X1_tank rfl rfl rfl (by decide +kernel) ⟨Nat.le_of_ble_eq_true rfl, Nat.le_of_ble_eq_true rfl⟩) (k := 0) (ci := 1) (by omega) (fun ct hA => hA.1.1) rfl rfl rfl hl.1 (rest := [.int (qsum (fun j => qT X2 j 3) k)]) rfl (Nat.le_of_ble_eq_true rfl) hrm dL_law_443 (fun r u H locs hp h => ?_)
    obtain ⟨er9, hu9⟩ := hp
    rw [hu9] at h
    have er9 : r = qT X2 k 3 := er9
    subst er9
    refine lv_iadd hx hb dL_law_446 ?_
    refine lv_istore (lv' := [(24, .int ((qsum (fun j => qT X2 j 3) k) + (qT X2 k 3))), (22, .int ((qsum (fun j => qT X2 j 5) k) + (qT X2 k 5))), (26, .int (qT X2 k 5)), (25, .int (nI k)), (23, .int (qthc X2 k)), (18, .int (sumT X2 6 - sumT X 6)), (19, .int (sumP X2 7 - sumP X 7)), (20, .int (sumT X2 3)), (21, .int (sumP X2 4)), (15, .ref (za z (b + 2))), (14, .ref (za z (b + 1))), (13, .ref (za z (b + 0))), (5, .int (nI (qt X))), (6, .int (nI (qp X))), (7, .int (sumT X 3)), (8, .int (sumT X 4)), (9, .int (sumT X 6)), (10, .int (sumP X 7)), (11, .int (sumT X 7)), (12, .int (qD X)), (3, .int (nI i)), (2, .ref (za z 55)), (1, .ref (za z 0)), (0, .ref a0)]) hx hb dL_law_447 hl (by decide) rfl (fun ls hl => ?_)
    have J471_1 : ∀ (Y : QLs) (H : Heap) (locs : List Loc) (ls : Array Slot), GW z (UAt z ix (qt X) (qp X) b 3) 0 (b + 3) s.heap c1 (X2, Y, X2, f) H locs → lv_has ls 32 [(26, .int (qT X2 k 5)), (25, .int (nI k)), (24, .int (qsum (fun j => qT X2 j 3) (k + 1))), (23, .int (qthc X2 (k + 1))), (22, .int (qsum (fun j => qT X2 j 5) (k + 1))), (18, .int (sumT X2 6 - sumT X 6)), (19, .int (sumP X2 7 - sumP X 7)), (20, .int (sumT X2 3)), (21, .int (sumP X2 4)), (15, .ref (za z (b + 2))), (14, .ref (za z (b + 1))), (13, .ref (za z (b + 0))), (5, .int (nI (qt X))), (6, .int (nI (qp X))), (7, .int (sumT X 3)), (8, .int (sumT X 4)), (9, .int (sumT X 6)), (10, .int (sumP X 7)), (11, .int (sumT X 7)), (12, .int (qD X)), (3, .int (nI i)), (2, .ref (za z 55)), (1, .ref (za z 0)), (0, .ref a0)] → W p l e room_1 s m ([Value.ref a0] : List Value).toArray below meth c H locs cl sl Q (F0 m 471 ls []) := by
      intro Y H locs ls h hl
      have J629_2 : ∀ (Y : QLs) (H : Heap) (locs : List Loc) (ls : Array Slot), GW z (UAt z ix (qt X) (qp X) b 3) 0 (b + 3) s.heap c1 (X2, Y, X2, f) H locs → lv_has ls 32 [(26, .int (qT X2 k 5)), (25, .int (nI k)), (24, .int (qsum (fun j => qT X2 j 3) (k + 1))), (23, .int (qthc X2 (k + 1))), (22, .int (qsum (fun j => qT X2 j 5) (k + 1))), (18, .int (sumT X2 6 - sumT X 6)), (19, .int (sumP X2 7 - sumP X 7)), (20, .int (sumT X2 3)), (21, .int (sumP X2 4)), (15, .ref (za z (b + 2))), (14, .ref (za z (b + 1))), (13, .ref (za z (b + 0))), (5, .int (nI (qt X))), (6, .int (nI (qp X))), (7, .int (sumT X 3)), (8, .int (sumT X 4)), (9, .int (sumT X 6)), (10, .int (sumP X 7)), (11, .int (sumT X 7)), (12, .int (qD X)), (3, .int (nI i)), (2, .ref (za z 55)), (1, .ref (za z 0)), (0, .ref a0)] → W p l e room_1 s m ([Value.ref a0] : List Value).toArray below meth c H locs cl sl Q (F0 m 629 ls []) := by
        intro Y H locs ls h hl
        have J696_3 : ∀ (Y : QLs) (H : Heap) (locs : List Loc) (ls : Array Slot), GW z (UAt z ix (qt X) (qp X) b 3) 0 (b + 3) s.heap c1 (X2, Y, X2, f) H locs → lv_has ls 32 [(26, .int (qT X2 k 5)), (25, .int (nI k)), (24, .int (qsum (fun j => qT X2 j 3) (k + 1))), (23, .int (qthc X2 (k + 1))), (22, .int (qsum (fun j => qT X2 j 5) (k + 1))), (18, .int (sumT X2 6 - sumT X 6)), (19, .int (sumP X2 7 - sumP X 7)), (20, .int (sumT X2 3)), (21, .int (sumP X2 4)), (15, .ref (za z (b + 2))), (14, .ref (za z (b + 1))), (13, .ref (za z (b + 0))), (5, .int (nI (qt X))), (6, .int (nI (qp X))), (7, .int (sumT X 3)), (8, .int (sumT X 4)), (9, .int (sumT X 6)), (10, .int (sumP X 7)), (11, .int (sumT X 7)), (12, .int (qD X)), (3, .int (nI i)), (2, .ref (za z 55)), (1, .ref (za z 0)), (0, .ref a0)] → W p l e room_1 s m ([Value.ref a0] : List Value).toArray below meth c H locs cl sl Q (F0 m 696 ls []) := by
          intro Y H locs ls h hl
          refine lv_aload_n hx hb dL_law_696 rfl (lv_at hl 22 rfl) ?_
          refine lv_iload hx hb dL_law_697 (lv_at hl 1 rfl) ?_
          refine S_callVi C0 hK h (k_reach hk2 k (by omega)) (cwV 1 hts gL_law_X1_reach rfl rfl rfl (by decide +kernel) ⟨Nat.le_of_ble_eq_true rfl, Nat.le_of_ble_eq_true rfl⟩) (k := 0) (ci := 1) (by omega) (fun ct hA => hA.1.1) rfl rfl rfl hl.1 (rest := []) rfl (Nat.le_of_ble_eq_true rfl) hrm dL_law_699 (fun r u H locs hp h => ?_)
          obtain ⟨er9, hu9⟩ := hp
          rw [hu9] at h
          have er9 : r = reachL X2 (nI k) := er9
          subst er9
          refine lv_istore (lv' := [(28, .int (reachL X2 (nI k))), (26, .int (qT X2 k 5)), (25, .int (nI k)), (24, .int (qsum (fun j => qT X2 j 3) (k + 1))), (23, .int (qthc X2 (k + 1))), (22, .int (qsum (fun j => qT X2 j 5) (k + 1))), (18, .int (sumT X2 6 - sumT X 6)), (19, .int (sumP X2 7 - sumP X 7)), (20, .int (sumT X2 3)), (21, .int (sumP X2 4)), (15, .ref (za z (b + 2))), (14, .ref (za z (b + 1))), (13, .ref (za z (b + 0))), (5, .int (nI (qt X))), (6, .int (nI (qp X))), (7, .int (sumT X 3)), (8, .int (sumT X 4)), (9, .int (sumT X 6)), (10, .int (sumP X 7)), (11, .int (sumT X 7)), (12, .int (qD X)), (3, .int (nI i)), (2, .ref (za z 55)), (1, .ref (za z 0)), (0, .ref a0)]) hx hb dL_law_702 hl (by decide) rfl (fun ls hl => ?_)
          have L707_ : ∀ (dj j : Nat), j + dj = (qp X) → ∀ (H : Heap) (locs : List Loc) (ls : Array Slot), GW z (UAt z ix (qt X) (qp X) b 3) 0 (b + 3) s.heap c1 (X2, Y, X2, f) H locs → lv_has ls 32 [(29, .int (nI j)), (28, .int (reachL X2 (nI k))), (26, .int (qT X2 k 5)), (25, .int (nI k)), (24, .int (qsum (fun j => qT X2 j 3) (k + 1))), (23, .int (qthc X2 (k + 1))), (22, .int (qsum (fun j => qT X2 j 5) (k + 1))), (18, .int (sumT X2 6 - sumT X 6)), (19, .int (sumP X2 7 - sumP X 7)), (20, .int (sumT X2 3)), (21, .int (sumP X2 4)), (15, .ref (za z (b + 2))), (14, .ref (za z (b + 1))), (13, .ref (za z (b + 0))), (5, .int (nI (qt X))), (6, .int (nI (qp X))), (7, .int (sumT X 3)), (8, .int (sumT X 4)), (9, .int (sumT X 6)), (10, .int (sumP X 7)), (11, .int (sumT X 7)), (12, .int (qD X)), (3, .int (nI i)), (2, .ref (za z 55)), (1, .ref (za z 0)), (0, .ref a0)] → W p l e room_1 s m ([Value.ref a0] : List Value).toArray below meth c H locs cl sl Q (F0 m 707 ls []) := by
            intro  dj
            induction dj with
            | zero =>
              intro j hdj H locs ls h hl
              have hEj : j = (qp X) := by omega
              refine lv_iload hx hb dL_law_707 (lv_at hl 0 rfl) ?_
              refine lv_iload hx hb dL_law_709 (lv_at hl 15 rfl) ?_
              refine lv_icmp_ge (tgt := 765) hx hb dL_law_711 (by decide) (fun _ => ?_) (fun q9 => absurd (nI_le (by omega) (by omega)) q9)
              refine lv_iinc (v := nI (k + 1)) (lv' := [(25, .int (nI (k + 1))), (29, .int (nI j)), (28, .int (reachL X2 (nI k))), (26, .int (qT X2 k 5)), (24, .int (qsum (fun j => qT X2 j 3) (k + 1))), (23, .int (qthc X2 (k + 1))), (22, .int (qsum (fun j => qT X2 j 5) (k + 1))), (18, .int (sumT X2 6 - sumT X 6)), (19, .int (sumP X2 7 - sumP X 7)), (20, .int (sumT X2 3)), (21, .int (sumP X2 4)), (15, .ref (za z (b + 2))), (14, .ref (za z (b + 1))), (13, .ref (za z (b + 0))), (5, .int (nI (qt X))), (6, .int (nI (qp X))), (7, .int (sumT X 3)), (8, .int (sumT X 4)), (9, .int (sumT X 6)), (10, .int (sumP X 7)), (11, .int (sumT X 7)), (12, .int (qD X)), (3, .int (nI i)), (2, .ref (za z 55)), (1, .ref (za z 0)), (0, .ref a0)]) hx hb dL_law_765 hl (k := 3) rfl (q_inc k 1) (by decide) rfl (fun ls hl => ?_)
              refine lv_goto (tgt := 414) hx hb dL_law_768 (by decide) ?_
              exact ih (k + 1) (by omega) Y _ _ _  h (lv_sub hl [0, 4, 5, 6, 7, 8, 9, 10, 11, 12, 13, 14, 15, 16, 17, 18, 19, 20, 21, 22, 23, 24, 25] rfl)
            | succ dj ihL707_ =>
              intro j hdj H locs ls h hl
              have hEj : j < (qp X) := by omega
              refine lv_iload hx hb dL_law_707 (lv_at hl 0 rfl) ?_
              refine lv_iload hx hb dL_law_709 (lv_at hl 15 rfl) ?_
              refine lv_icmp_ge (tgt := 765) hx hb dL_law_711 (by decide) (fun q9 => absurd q9 (nI_ge (by omega) (by omega))) (fun _ => ?_)
              refine lv_aload_n hx hb dL_law_714 rfl (lv_at hl 24 rfl) ?_
              refine lv_iload hx hb dL_law_715 (lv_at hl 0 rfl) ?_
              refine lv_iconst (v := 0) hx hb dL_law_717 (by decide) ?_
              refine S_callVi C0 hK h (k_pipe hk2 j (by omega) 0 (by omega)) (cwV 2 hts gL_law_X1_pipe rfl rfl rfl (by decide +kernel) ⟨Nat.le_of_ble_eq_true rfl, Nat.le_of_ble_eq_true rfl⟩) (k := 0) (ci := 1) (by omega) (fun ct hA => hA.1.1) rfl rfl rfl hl.1 (rest := []) rfl (Nat.le_of_ble_eq_true rfl) hrm dL_law_718 (fun r u H locs hp h => ?_)
              obtain ⟨er9, hu9⟩ := hp
              rw [hu9] at h
              have er9 : r = qP X2 j 0 := er9
              subst er9
              refine lv_iload hx hb dL_law_721 (lv_at hl 3 rfl) ?_
              refine lv_icmp_eq (tgt := 742) hx hb dL_law_723 (by decide) (fun c_723 => ?_) (fun c_723 => ?_)
              · refine lv_iload hx hb dL_law_742 (lv_at hl 1 rfl) ?_
                refine lv_aload_n hx hb dL_law_744 rfl (lv_at hl 24 rfl) ?_
                refine lv_iload hx hb dL_law_745 (lv_at hl 0 rfl) ?_
                refine lv_iconst (v := 1) hx hb dL_law_747 (by decide) ?_
                refine S_callVi C0 hK h (k_pipe hk2 j (by omega) 1 (by omega)) (cwV 2 hts gL_law_X1_pipe rfl rfl rfl (by decide +kernel) ⟨Nat.le_of_ble_eq_true rfl, Nat.le_of_ble_eq_true rfl⟩) (k := 0) (ci := 1) (by omega) (fun ct hA => hA.1.1) rfl rfl rfl hl.1 (rest := [.int (reachL X2 (nI k))]) rfl (Nat.le_of_ble_eq_true rfl) hrm dL_law_748 (fun r u H locs hp h => ?_)
                obtain ⟨er9, hu9⟩ := hp
                rw [hu9] at h
                have er9 : r = qP X2 j 1 := er9
                subst er9
                refine lv_ishr hx hb dL_law_751 ?_
                refine lv_iconst (v := 1) hx hb dL_law_752 (by decide) ?_
                refine lv_iand hx hb dL_law_753 ?_
                refine lv_if_ne (tgt := 759) hx hb dL_law_754 (by decide) (fun _ => ?_) (fun q9 => absurd q9 (law_reach hI2 (by omega) (by omega) (Or.inl c_723)))
                refine lv_iinc (v := nI (j + 1)) (lv' := [(29, .int (nI (j + 1))), (28, .int (reachL X2 (nI k))), (26, .int (qT X2 k 5)), (25, .int (nI k)), (24, .int (qsum (fun j => qT X2 j 3) (k + 1))), (23, .int (qthc X2 (k + 1))), (22, .int (qsum (fun j => qT X2 j 5) (k + 1))), (18, .int (sumT X2 6 - sumT X 6)), (19, .int (sumP X2 7 - sumP X 7)), (20, .int (sumT X2 3)), (21, .int (sumP X2 4)), (15, .ref (za z (b + 2))), (14, .ref (za z (b + 1))), (13, .ref (za z (b + 0))), (5, .int (nI (qt X))), (6, .int (nI (qp X))), (7, .int (sumT X 3)), (8, .int (sumT X 4)), (9, .int (sumT X 6)), (10, .int (sumP X 7)), (11, .int (sumT X 7)), (12, .int (qD X)), (3, .int (nI i)), (2, .ref (za z 55)), (1, .ref (za z 0)), (0, .ref a0)]) hx hb dL_law_759 hl (k := 0) rfl (q_inc j 1) (by decide) rfl (fun ls hl => ?_)
                refine lv_goto (tgt := 707) hx hb dL_law_762 (by decide) ?_
                exact ihL707_ (j + 1) (by omega) _ _ _ h (lv_sub hl [0, 1, 2, 3, 4, 5, 6, 7, 8, 9, 10, 11, 12, 13, 14, 15, 16, 17, 18, 19, 20, 21, 22, 23, 24, 25] rfl)
              · refine lv_iload hx hb dL_law_726 (lv_at hl 1 rfl) ?_
                refine lv_aload_n hx hb dL_law_728 rfl (lv_at hl 24 rfl) ?_
                refine lv_iload hx hb dL_law_729 (lv_at hl 0 rfl) ?_
                refine lv_iconst (v := 0) hx hb dL_law_731 (by decide) ?_
                refine S_callVi C0 hK h (k_pipe hk2 j (by omega) 0 (by omega)) (cwV 2 hts gL_law_X1_pipe rfl rfl rfl (by decide +kernel) ⟨Nat.le_of_ble_eq_true rfl, Nat.le_of_ble_eq_true rfl⟩) (k := 0) (ci := 1) (by omega) (fun ct hA => hA.1.1) rfl rfl rfl hl.1 (rest := [.int (reachL X2 (nI k))]) rfl (Nat.le_of_ble_eq_true rfl) hrm dL_law_732 (fun r u H locs hp h => ?_)
                obtain ⟨er9, hu9⟩ := hp
                rw [hu9] at h
                have er9 : r = qP X2 j 0 := er9
                subst er9
                refine lv_ishr hx hb dL_law_735 ?_
                refine lv_iconst (v := 1) hx hb dL_law_736 (by decide) ?_
                refine lv_iand hx hb dL_law_737 ?_
                refine lv_iconst (v := 1) hx hb dL_law_738 (by decide) ?_
                refine lv_icmp_ne (tgt := 759) hx hb dL_law_739 (by decide) (fun c_739 => ?_) (fun c_739 => ?_)
                · refine lv_iinc (v := nI (j + 1)) (lv' := [(29, .int (nI (j + 1))), (28, .int (reachL X2 (nI k))), (26, .int (qT X2 k 5)), (25, .int (nI k)), (24, .int (qsum (fun j => qT X2 j 3) (k + 1))), (23, .int (qthc X2 (k + 1))), (22, .int (qsum (fun j => qT X2 j 5) (k + 1))), (18, .int (sumT X2 6 - sumT X 6)), (19, .int (sumP X2 7 - sumP X 7)), (20, .int (sumT X2 3)), (21, .int (sumP X2 4)), (15, .ref (za z (b + 2))), (14, .ref (za z (b + 1))), (13, .ref (za z (b + 0))), (5, .int (nI (qt X))), (6, .int (nI (qp X))), (7, .int (sumT X 3)), (8, .int (sumT X 4)), (9, .int (sumT X 6)), (10, .int (sumP X 7)), (11, .int (sumT X 7)), (12, .int (qD X)), (3, .int (nI i)), (2, .ref (za z 55)), (1, .ref (za z 0)), (0, .ref a0)]) hx hb dL_law_759 hl (k := 0) rfl (q_inc j 1) (by decide) rfl (fun ls hl => ?_)
                  refine lv_goto (tgt := 707) hx hb dL_law_762 (by decide) ?_
                  exact ihL707_ (j + 1) (by omega) _ _ _ h (lv_sub hl [0, 1, 2, 3, 4, 5, 6, 7, 8, 9, 10, 11, 12, 13, 14, 15, 16, 17, 18, 19, 20, 21, 22, 23, 24, 25] rfl)
                · refine lv_iload hx hb dL_law_742 (lv_at hl 1 rfl) ?_
                  refine lv_aload_n hx hb dL_law_744 rfl (lv_at hl 24 rfl) ?_
                  refine lv_iload hx hb dL_law_745 (lv_at hl 0 rfl) ?_
                  refine lv_iconst (v := 1) hx hb dL_law_747 (by decide) ?_
                  refine S_callVi C0 hK h (k_pipe hk2 j (by omega) 1 (by omega)) (cwV 2 hts gL_law_X1_pipe rfl rfl rfl (by decide +kernel) ⟨Nat.le_of_ble_eq_true rfl, Nat.le_of_ble_eq_true rfl⟩) (k := 0) (ci := 1) (by omega) (fun ct hA => hA.1.1) rfl rfl rfl hl.1 (rest := [.int (reachL X2 (nI k))]) rfl (Nat.le_of_ble_eq_true rfl) hrm dL_law_748 (fun r u H locs hp h => ?_)
                  obtain ⟨er9, hu9⟩ := hp
                  rw [hu9] at h
                  have er9 : r = qP X2 j 1 := er9
                  subst er9
                  refine lv_ishr hx hb dL_law_751 ?_
                  refine lv_iconst (v := 1) hx hb dL_law_752 (by decide) ?_
                  refine lv_iand hx hb dL_law_753 ?_
                  refine lv_if_ne (tgt := 759) hx hb dL_law_754 (by decide) (fun _ => ?_) (fun q9 => absurd q9 (law_reach hI2 (by omega) (by omega) (Or.inr c_739)))
                  refine lv_iinc (v := nI (j + 1)) (lv' := [(29, .int (nI (j + 1))), (28, .int (reachL X2 (nI k))), (26, .int (qT X2 k 5)), (25, .int (nI k)), (24, .int (qsum (fun j => qT X2 j 3) (k + 1))), (23, .int (qthc X2 (k + 1))), (22, .int (qsum (fun j => qT X2 j 5) (k + 1))), (18, .int (sumT X2 6 - sumT X 6)), (19, .int (sumP X2 7 - sumP X 7)), (20, .int (sumT X2 3)), (21, .int (sumP X2 4)), (15, .ref (za z (b + 2))), (14, .ref (za z (b + 1))), (13, .ref (za z (b + 0))), (5, .int (nI (qt X))), (6, .int (nI (qp X))), (7, .int (sumT X 3)), (8, .int (sumT X 4)), (9, .int (sumT X 6)), (10, .int (sumP X 7)), (11, .int (sumT X 7)), (12, .int (qD X)), (3, .int (nI i)), (2, .ref (za z 55)), (1, .ref (za z 0)), (0, .ref a0)]) hx hb dL_law_759 hl (k := 0) rfl (q_inc j 1) (by decide) rfl (fun ls hl => ?_)
                  refine lv_goto (tgt := 707) hx hb dL_law_762 (by decide) ?_
                  exact ihL707_ (j + 1) (by omega) _ _ _ h (lv_sub hl [0, 1, 2, 3, 4, 5, 6, 7, 8, 9, 10, 11, 12, 13, 14, 15, 16, 17, 18, 19, 20, 21, 22, 23, 24, 25] rfl)
          refine lv_iconst (v := 0) hx hb dL_law_704 (by decide) ?_
          refine lv_istore (lv' := [(29, .int 0), (28, .int (reachL X2 (nI k))), (26, .int (qT X2 k 5)), (25, .int (nI k)), (24, .int (qsum (fun j => qT X2 j 3) (k + 1))), (23, .int (qthc X2 (k + 1))), (22, .int (qsum (fun j => qT X2 j 5) (k + 1))), (18, .int (sumT X2 6 - sumT X 6)), (19, .int (sumP X2 7 - sumP X 7)), (20, .int (sumT X2 3)), (21, .int (sumP X2 4)), (15, .ref (za z (b + 2))), (14, .ref (za z (b + 1))), (13, .ref (za z (b + 0))), (5, .int (nI (qt X))), (6, .int (nI (qp X))), (7, .int (sumT X 3)), (8, .int (sumT X 4)), (9, .int (sumT X 6)), (10, .int (sumP X 7)), (11, .int (sumT X 7)), (12, .int (qD X)), (3, .int (nI i)), (2, .ref (za z 55)), (1, .ref (za z 0)), (0, .ref a0)]) hx hb dL_law_705 hl (by decide) rfl (fun ls hl => ?_)
          exact L707_ ((qp X)) 0 (by omega) _ _ _ h (lv_sub hl [0, 1, 2, 3, 4, 5, 6, 7, 8, 9, 10, 11, 12, 13, 14, 15, 16, 17, 18, 19, 20, 21, 22, 23, 24, 25] rfl)
        refine lv_iload_n hx hb dL_law_629 rfl (lv_at hl 20 rfl) ?_
        refine lv_iconst (v := 5) hx hb dL_law_630 (by decide) ?_
        refine lv_irem hx hb dL_law_631 (by decide) ?_
        refine lv_if_ne (tgt := 696) hx hb dL_law_632 (by decide) (fun c_632 => ?_) (fun c_632 => ?_)
        · exact J696_3 Y _ _ _ h (lv_sub hl [0, 1, 2, 3, 4, 5, 6, 7, 8, 9, 10, 11, 12, 13, 14, 15, 16, 17, 18, 19, 20, 21, 22, 23] rfl)
        · have hs9 := hg2 c_632 k (by omega)
          have hl9 := law_sat hI (by omega) (show k < qt X by omega)
          rw [← e2] at hl9
          refine lv_aload hx hb dL_law_635 (lv_at hl 9 rfl) ?_
          refine lv_iload hx hb dL_law_637 (lv_at hl 1 rfl) ?_
          refine U_il2 C0 hK h (j := 2) (i := k) (by omega) hf2 rfl (by omega) (by omega) dL_law_639 ?_
          refine lv_iconst (v := 1) hx hb dL_law_640 (by decide) ?_
          refine lv_icmp_ne (tgt := 648) hx hb dL_law_641 (by decide) (fun c_641 => ?_) (fun c_641 => ?_)
          · refine lv_iconst (v := 0) hx hb dL_law_648 (by decide) ?_
            refine lv_iload hx hb dL_law_649 (lv_at hl 0 rfl) ?_
            refine lv_aload_n hx hb dL_law_651 rfl (lv_at hl 22 rfl) ?_
            refine lv_iload hx hb dL_law_652 (lv_at hl 1 rfl) ?_
            refine lv_iconst (v := 2) hx hb dL_law_654 (by decide) ?_
            refine S_callVi C0 hK h (k_tank hk2 k (by omega) 2 (by omega)) (cwV 2 hts gL_law_X1_tank rfl rfl rfl (by decide +kernel) ⟨Nat.le_of_ble_eq_true rfl, Nat.le_of_ble_eq_true rfl⟩) (k := 0) (ci := 1) (by omega) (fun ct hA => hA.1.1) rfl rfl rfl hl.1 (rest := [.int (qT X2 k 5), .int 0]) rfl (Nat.le_of_ble_eq_true rfl) hrm dL_law_655 (fun r u H locs hp h => ?_)
            obtain ⟨er9, hu9⟩ := hp
            rw [hu9] at h
            have er9 : r = qT X2 k 2 := er9
            subst er9
            refine lv_icmp_ne (tgt := 665) hx hb dL_law_658 (by decide) (fun c_658 => ?_) (fun c_658 => ?_)
            · refine lv_iconst (v := 0) hx hb dL_law_665 (by decide) ?_
              refine lv_icmp_ne (tgt := 694) hx hb dL_law_666 (by decide) (fun q9 => absurd (by decide) q9) (fun _ => ?_)
              refine lv_aload hx hb dL_law_669 (lv_at hl 9 rfl) ?_
              refine lv_iload hx hb dL_law_671 (lv_at hl 1 rfl) ?_
              refine U_il2 C0 hK h (j := 2) (i := k) (by omega) hf2 rfl (by omega) (by omega) dL_law_673 ?_
              refine lv_iconst (v := 1) hx hb dL_law_674 (by decide) ?_
              refine lv_icmp_le (tgt := 696) hx hb dL_law_675 (by decide) (fun c_675 => ?_) (fun c_675 => ?_)
              · exact J696_3 Y _ _ _ h (lv_sub hl [0, 1, 2, 3, 4, 5, 6, 7, 8, 9, 10, 11, 12, 13, 14, 15, 16, 17, 18, 19, 20, 21, 22, 23] rfl)
              · refine lv_aload_n hx hb dL_law_678 rfl (lv_at hl 22 rfl) ?_
                refine lv_iload hx hb dL_law_679 (lv_at hl 1 rfl) ?_
                refine S_callVi C0 hK h (k_sated hk2 k (by omega)) (cwV 1 hts gL_law_X1_sated rfl rfl rfl (by decide +kernel) ⟨Nat.le_of_ble_eq_true rfl, Nat.le_of_ble_eq_true rfl⟩) (k := 0) (ci := 1) (by omega) (fun ct hA => hA.1.1) rfl rfl rfl hl.1 (rest := []) rfl (Nat.le_of_ble_eq_true rfl) hrm dL_law_681 (fun r u H locs hp h => ?_)
                obtain ⟨er9, Y4, hu9⟩ := hp
                rw [hu9] at h
                have er9 : r = sat X2 k := er9.trans (sat_eq hI2 (by omega) (by omega))
                subst er9
                refine lv_aload hx hb dL_law_684 (lv_at hl 9 rfl) ?_
                refine lv_iload hx hb dL_law_686 (lv_at hl 1 rfl) ?_
                refine U_il2 C0 hK h (j := 2) (i := k) (by omega) hf2 rfl (by omega) (by omega) dL_law_688 ?_
                refine lv_iconst (v := 1) hx hb dL_law_689 (by decide) ?_
                refine lv_isub hx hb dL_law_690 ?_
                refine lv_icmp_eq (tgt := 696) hx hb dL_law_691 (by decide) (fun _ => ?_) (fun q9 => absurd (by rw [hs9]; exact hl9.2 (Int32.not_le.mp (by rw [← hs9]; exact c_675))) q9)
                exact J696_3 Y4 _ _ _ h (lv_sub hl [0, 1, 2, 3, 4, 5, 6, 7, 8, 9, 10, 11, 12, 13, 14, 15, 16, 17, 18, 19, 20, 21, 22, 23] rfl)
            · refine lv_iconst (v := 1) hx hb dL_law_661 (by decide) ?_
              refine lv_goto (tgt := 666) hx hb dL_law_662 (by decide) ?_
              exact absurd (hs9.trans (hl9.1.mpr c_658)) c_641
          · refine lv_iconst (v := 1) hx hb dL_law_644 (by decide) ?_
            refine lv_goto (tgt := 649) hx hb dL_law_645 (by decide) ?_
            refine lv_iload hx hb dL_law_649 (lv_at hl 0 rfl) ?_
            refine lv_aload_n hx hb dL_law_651 rfl (lv_at hl 22 rfl) ?_
            refine lv_iload hx hb dL_law_652 (lv_at hl 1 rfl) ?_
            refine lv_iconst (v := 2) hx hb dL_law_654 (by decide) ?_
            refine S_callVi C0 hK h (k_tank hk2 k (by omega) 2 (by omega)) (cwV 2 hts gL_law_X1_tank rfl rfl rfl (by decide +kernel) ⟨Nat.le_of_ble_eq_true rfl, Nat.le_of_ble_eq_true rfl⟩) (k := 0) (ci := 1) (by omega) (fun ct hA => hA.1.1) rfl rfl rfl hl.1 (rest := [.int (qT X2 k 5), .int 1]) rfl (Nat.le_of_ble_eq_true rfl) hrm dL_law_655 (fun r u H locs hp h => ?_)
            obtain ⟨er9, hu9⟩ := hp
            rw [hu9] at h
            have er9 : r = qT X2 k 2 := er9
            subst er9
            refine lv_icmp_ne (tgt := 665) hx hb dL_law_658 (by decide) (fun c_658 => ?_) (fun c_658 => ?_)
            · refine lv_iconst (v := 0) hx hb dL_law_665 (by decide) ?_
              exact absurd (hl9.1.mp (hs9.symm.trans c_641)) c_658
            · refine lv_iconst (v := 1) hx hb dL_law_661 (by decide) ?_
              refine lv_goto (tgt := 666) hx hb dL_law_662 (by decide) ?_
              refine lv_icmp_ne (tgt := 694) hx hb dL_law_666 (by decide) (fun q9 => absurd (by decide) q9) (fun _ => ?_)
              refine lv_aload hx hb dL_law_669 (lv_at hl 9 rfl) ?_
              refine lv_iload hx hb dL_law_671 (lv_at hl 1 rfl) ?_
              refine U_il2 C0 hK h (j := 2) (i := k) (by omega) hf2 rfl (by omega) (by omega) dL_law_673 ?_
              refine lv_iconst (v := 1) hx hb dL_law_674 (by decide) ?_
              refine lv_icmp_le (tgt := 696) hx hb dL_law_675 (by decide) (fun c_675 => ?_) (fun c_675 => ?_)
              · exact J696_3 Y _ _ _ h (lv_sub hl [0, 1, 2, 3, 4, 5, 6, 7, 8, 9, 10, 11, 12, 13, 14, 15, 16, 17, 18, 19, 20, 21, 22, 23] rfl)
              · refine lv_aload_n hx hb dL_law_678 rfl (lv_at hl 22 rfl) ?_
                refine lv_iload hx hb dL_law_679 (lv_at hl 1 rfl) ?_
                refine S_callVi C0 hK h (k_sated hk2 k (by omega)) (cwV 1 hts gL_law_X1_sated rfl rfl rfl (by decide +kernel) ⟨Nat.le_of_ble_eq_true rfl, Nat.le_of_ble_eq_true rfl⟩) (k := 0) (ci := 1) (by omega) (fun ct hA => hA.1.1) rfl rfl rfl hl.1 (rest := []) rfl (Nat.le_of_ble_eq_true rfl) hrm dL_law_681 (fun r u H locs hp h => ?_)
                obtain ⟨er9, Y5, hu9⟩ := hp
                rw [hu9] at h
                have er9 : r = sat X2 k := er9.trans (sat_eq hI2 (by omega) (by omega))
                subst er9
                refine lv_aload hx hb dL_law_684 (lv_at hl 9 rfl) ?_
                refine lv_iload hx hb dL_law_686 (lv_at hl 1 rfl) ?_
                refine U_il2 C0 hK h (j := 2) (i := k) (by omega) hf2 rfl (by omega) (by omega) dL_law_688 ?_
                refine lv_iconst (v := 1) hx hb dL_law_689 (by decide) ?_
                refine lv_isub hx hb dL_law_690 ?_
                refine lv_icmp_eq (tgt := 696) hx hb dL_law_691 (by decide) (fun _ => ?_) (fun q9 => absurd (by rw [hs9]; exact hl9.2 (Int32.not_le.mp (by rw [← hs9]; exact c_675))) q9)
                exact J696_3 Y5 _ _ _ h (lv_sub hl [0, 1, 2, 3, 4, 5, 6, 7, 8, 9, 10, 11, 12, 13, 14, 15, 16, 17, 18, 19, 20, 21, 22, 23] rfl)
      refine lv_aload_n hx hb dL_law_471 rfl (lv_at hl 22 rfl) ?_
      refine lv_iload hx hb dL_law_472 (lv_at hl 1 rfl) ?_
      refine lv_iconst (v := 4) hx hb dL_law_474 (by decide) ?_
      refine S_callVi C0 hK h (k_tank hk2 k (by omega) 4 (by omega)) (cwV 2 hts gL_law_X1_tank rfl rfl rfl (by decide +kernel) ⟨Nat.le_of_ble_eq_true rfl, Nat.le_of_ble_eq_true rfl⟩) (k := 0) (ci := 1) (by omega) (fun ct hA => hA.1.1) rfl rfl rfl hl.1 (rest := []) rfl (Nat.le_of_ble_eq_true rfl) hrm dL_law_475 (fun r u H locs hp h => ?_)
      obtain ⟨er9, hu9⟩ := hp
      rw [hu9] at h
      have er9 : r = qT X2 k 4 := er9
      subst er9
      refine lv_bipush (v := 50) hx hb dL_law_478 (by decide) ?_
      refine lv_icmp_lt (tgt := 487) hx hb dL_law_480 (by decide) (fun c_480 => ?_) (fun c_480 => ?_)
      · refine lv_iconst (v := 0) hx hb dL_law_487 (by decide) ?_
        refine lv_istore (lv' := [(27, .int 0), (26, .int (qT X2 k 5)), (25, .int (nI k)), (24, .int (qsum (fun j => qT X2 j 3) (k + 1))), (23, .int (qthc X2 (k + 1))), (22, .int (qsum (fun j => qT X2 j 5) (k + 1))), (18, .int (sumT X2 6 - sumT X 6)), (19, .int (sumP X2 7 - sumP X 7)), (20, .int (sumT X2 3)), (21, .int (sumP X2 4)), (15, .ref (za z (b + 2))), (14, .ref (za z (b + 1))), (13, .ref (za z (b + 0))), (5, .int (nI (qt X))), (6, .int (nI (qp X))), (7, .int (sumT X 3)), (8, .int (sumT X 4)), (9, .int (sumT X 6)), (10, .int (sumP X 7)), (11, .int (sumT X 7)), (12, .int (qD X)), (3, .int (nI i)), (2, .ref (za z 55)), (1, .ref (za z 0)), (0, .ref a0)]) hx hb dL_law_488 hl (by decide) rfl (fun ls hl => ?_)
        refine lv_iload hx hb dL_law_490 (lv_at hl 1 rfl) ?_
        refine lv_if_lt (tgt := 627) hx hb dL_law_492 (by decide) (fun q9 => absurd q9 (Int32.not_lt.mpr ht.1)) (fun _ => ?_)
        refine lv_iload hx hb dL_law_495 (lv_at hl 1 rfl) ?_
        refine lv_iload hx hb dL_law_497 (lv_at hl 0 rfl) ?_
        refine lv_if_eq (tgt := 514) hx hb dL_law_499 (by decide) (fun _ => ?_) (fun q9 => absurd (by decide) q9)
        refine lv_aload_n hx hb dL_law_514 rfl (lv_at hl 23 rfl) ?_
        refine lv_iload hx hb dL_law_515 (lv_at hl 2 rfl) ?_
        refine lv_iconst (v := 2) hx hb dL_law_517 (by decide) ?_
        refine S_callVi C0 hK h (k_tank hk2 k (by omega) 2 (by omega)) (cwV 2 hts gL_law_X1_tank rfl rfl rfl (by decide +kernel) ⟨Nat.le_of_ble_eq_true rfl, Nat.le_of_ble_eq_true rfl⟩) (k := 0) (ci := 1) (by omega) (fun ct hA => hA.1.1) rfl rfl rfl hl.1 (rest := [.int (qT X2 k 5)]) rfl (Nat.le_of_ble_eq_true rfl) hrm dL_law_518 (fun r u H locs hp h => ?_)
        obtain ⟨er9, hu9⟩ := hp
        rw [hu9] at h
        have er9 : r = qT X2 k 2 := er9
        subst er9
        refine lv_icmp_gt (tgt := 627) hx hb dL_law_521 (by decide) (fun q9 => absurd q9 (Int32.not_lt.mpr (by have q9 := ht.2.1; rw [if_pos c_480] at q9; exact q9))) (fun _ => ?_)
        refine lv_iload hx hb dL_law_524 (lv_at hl 1 rfl) ?_
        refine lv_iload hx hb dL_law_526 (lv_at hl 0 rfl) ?_
        refine lv_if_eq (tgt := 543) hx hb dL_law_528 (by decide) (fun _ => ?_) (fun q9 => absurd (by decide) q9)
        refine lv_aload_n hx hb dL_law_543 rfl (lv_at hl 23 rfl) ?_
        refine lv_iload hx hb dL_law_544 (lv_at hl 2 rfl) ?_
        refine lv_iconst (v := 2) hx hb dL_law_546 (by decide) ?_
        refine S_callVi C0 hK h (k_tank hk2 k (by omega) 2 (by omega)) (cwV 2 hts gL_law_X1_tank rfl rfl rfl (by decide +kernel) ⟨Nat.le_of_ble_eq_true rfl, Nat.le_of_ble_eq_true rfl⟩) (k := 0) (ci := 1) (by omega) (fun ct hA => hA.1.1) rfl rfl rfl hl.1 (rest := [.int (qT X2 k 5)]) rfl (Nat.le_of_ble_eq_true rfl) hrm dL_law_547 (fun r u H locs hp h => ?_)
        obtain ⟨er9, hu9⟩ := hp
        rw [hu9] at h
        have er9 : r = qT X2 k 2 := er9
        subst er9
        refine lv_icmp_ge (tgt := 563) hx hb dL_law_550 (by decide) (fun c_550 => ?_) (fun c_550 => ?_)
        · refine lv_aload_n hx hb dL_law_563 rfl (lv_at hl 23 rfl) ?_
          refine lv_iload hx hb dL_law_564 (lv_at hl 2 rfl) ?_
          refine lv_bipush (v := 6) hx hb dL_law_566 (by decide) ?_
          refine S_callVi C0 hK h (k_tank hk2 k (by omega) 6 (by omega)) (cwV 2 hts gL_law_X1_tank rfl rfl rfl (by decide +kernel) ⟨Nat.le_of_ble_eq_true rfl, Nat.le_of_ble_eq_true rfl⟩) (k := 0) (ci := 1) (by omega) (fun ct hA => hA.1.1) rfl rfl rfl hl.1 (rest := []) rfl (Nat.le_of_ble_eq_true rfl) hrm dL_law_568 (fun r u H locs hp h => ?_)
          obtain ⟨er9, hu9⟩ := hp
          rw [hu9] at h
          have er9 : r = qT X2 k 6 := er9
          subst er9
          refine lv_aload hx hb dL_law_571 (lv_at hl 11 rfl) ?_
          refine lv_iload hx hb dL_law_573 (lv_at hl 2 rfl) ?_
          refine U_il2 C0 hK h (j := 1) (i := k) (by omega) hf1 rfl (by omega) (by omega) dL_law_575 ?_
          refine lv_iload hx hb dL_law_576 (lv_at hl 1 rfl) ?_
          refine lv_iadd hx hb dL_law_578 ?_
          refine lv_icmp_ne (tgt := 627) hx hb dL_law_579 (by decide) (fun q9 => absurd (by rw [hg1 k (by omega)]; exact ht.2.2.2.1) q9) (fun _ => ?_)
          refine lv_aload_n hx hb dL_law_582 rfl (lv_at hl 23 rfl) ?_
          refine lv_iload hx hb dL_law_583 (lv_at hl 2 rfl) ?_
          refine lv_iconst (v := 3) hx hb dL_law_585 (by decide) ?_
          refine S_callVi C0 hK h (k_tank hk2 k (by omega) 3 (by omega)) (cwV 2 hts gL_law_X1_tank rfl rfl rfl (by decide +kernel) ⟨Nat.le_of_ble_eq_true rfl, Nat.le_of_ble_eq_true rfl⟩) (k := 0) (ci := 1) (by omega) (fun ct hA => hA.1.1) rfl rfl rfl hl.1 (rest := []) rfl (Nat.le_of_ble_eq_true rfl) hrm dL_law_586 (fun r u H locs hp h => ?_)
          obtain ⟨er9, hu9⟩ := hp
          rw [hu9] at h
          have er9 : r = qT X2 k 3 := er9
          subst er9
          refine lv_if_lt (tgt := 627) hx hb dL_law_589 (by decide) (fun q9 => absurd q9 (Int32.not_lt.mpr ht.2.2.2.2.1.1)) (fun _ => ?_)
          refine lv_aload_n hx hb dL_law_592 rfl (lv_at hl 23 rfl) ?_
          refine lv_iload hx hb dL_law_593 (lv_at hl 2 rfl) ?_
          refine lv_iconst (v := 3) hx hb dL_law_595 (by decide) ?_
          refine S_callVi C0 hK h (k_tank hk2 k (by omega) 3 (by omega)) (cwV 2 hts gL_law_X1_tank rfl rfl rfl (by decide +kernel) ⟨Nat.le_of_ble_eq_true rfl, Nat.le_of_ble_eq_true rfl⟩) (k := 0) (ci := 1) (by omega) (fun ct hA => hA.1.1) rfl rfl rfl hl.1 (rest := []) rfl (Nat.le_of_ble_eq_true rfl) hrm dL_law_596 (fun r u H locs hp h => ?_)
          obtain ⟨er9, hu9⟩ := hp
          rw [hu9] at h
          have er9 : r = qT X2 k 3 := er9
          subst er9
          refine lv_sipush (v := 200) hx hb dL_law_599 (by decide) ?_
          refine lv_icmp_gt (tgt := 627) hx hb dL_law_602 (by decide) (fun q9 => absurd q9 (Int32.not_lt.mpr ht.2.2.2.2.1.2)) (fun _ => ?_)
          refine lv_aload_n hx hb dL_law_605 rfl (lv_at hl 23 rfl) ?_
          refine lv_iload hx hb dL_law_606 (lv_at hl 2 rfl) ?_
          refine lv_iconst (v := 4) hx hb dL_law_608 (by decide) ?_
          refine S_callVi C0 hK h (k_tank hk2 k (by omega) 4 (by omega)) (cwV 2 hts gL_law_X1_tank rfl rfl rfl (by decide +kernel) ⟨Nat.le_of_ble_eq_true rfl, Nat.le_of_ble_eq_true rfl⟩) (k := 0) (ci := 1) (by omega) (fun ct hA => hA.1.1) rfl rfl rfl hl.1 (rest := []) rfl (Nat.le_of_ble_eq_true rfl) hrm dL_law_609 (fun r u H locs hp h => ?_)
          obtain ⟨er9, hu9⟩ := hp
          rw [hu9] at h
          have er9 : r = qT X2 k 4 := er9
          subst er9
          refine lv_if_lt (tgt := 627) hx hb dL_law_612 (by decide) (fun q9 => absurd q9 (Int32.not_lt.mpr ht.2.2.2.2.2.1.1)) (fun _ => ?_)
          refine lv_aload_n hx hb dL_law_615 rfl (lv_at hl 23 rfl) ?_
          refine lv_iload hx hb dL_law_616 (lv_at hl 2 rfl) ?_
          refine lv_iconst (v := 4) hx hb dL_law_618 (by decide) ?_
          refine S_callVi C0 hK h (k_tank hk2 k (by omega) 4 (by omega)) (cwV 2 hts gL_law_X1_tank rfl rfl rfl (by decide +kernel) ⟨Nat.le_of_ble_eq_true rfl, Nat.le_of_ble_eq_true rfl⟩) (k := 0) (ci := 1) (by omega) (fun ct hA => hA.1.1) rfl rfl rfl hl.1 (rest := []) rfl (Nat.le_of_ble_eq_true rfl) hrm dL_law_619 (fun r u H locs hp h => ?_)
          obtain ⟨er9, hu9⟩ := hp
          rw [hu9] at h
          have er9 : r = qT X2 k 4 := er9
          subst er9
          refine lv_bipush (v := 99) hx hb dL_law_622 (by decide) ?_
          refine lv_icmp_le (tgt := 629) hx hb dL_law_624 (by decide) (fun _ => ?_) (fun q9 => absurd ht.2.2.2.2.2.1.2 q9)
          exact J629_2 Y _ _ _ h (lv_sub hl [1, 2, 3, 4, 5, 6, 7, 8, 9, 10, 11, 12, 13, 14, 15, 16, 17, 18, 19, 20, 21, 22, 23, 24] rfl)
        · refine lv_aload_n hx hb dL_law_553 rfl (lv_at hl 23 rfl) ?_
          refine lv_iload hx hb dL_law_554 (lv_at hl 2 rfl) ?_
          refine lv_iconst (v := 3) hx hb dL_law_556 (by decide) ?_
          refine S_callVi C0 hK h (k_tank hk2 k (by omega) 3 (by omega)) (cwV 2 hts gL_law_X1_tank rfl rfl rfl (by decide +kernel) ⟨Nat.le_of_ble_eq_true rfl, Nat.le_of_ble_eq_true rfl⟩) (k := 0) (ci := 1) (by omega) (fun ct hA => hA.1.1) rfl rfl rfl hl.1 (rest := []) rfl (Nat.le_of_ble_eq_true rfl) hrm dL_law_557 (fun r u H locs hp h => ?_)
          obtain ⟨er9, hu9⟩ := hp
          rw [hu9] at h
          have er9 : r = qT X2 k 3 := er9
          subst er9
          refine lv_if_ne (tgt := 627) hx hb dL_law_560 (by decide) (fun q9 => absurd (ht.2.2.1 (by rw [if_pos c_480]; exact Int32.not_le.mp c_550)) q9) (fun _ => ?_)
          refine lv_aload_n hx hb dL_law_563 rfl (lv_at hl 23 rfl) ?_
          refine lv_iload hx hb dL_law_564 (lv_at hl 2 rfl) ?_
          refine lv_bipush (v := 6) hx hb dL_law_566 (by decide) ?_
          refine S_callVi C0 hK h (k_tank hk2 k (by omega) 6 (by omega)) (cwV 2 hts gL_law_X1_tank rfl rfl rfl (by decide +kernel) ⟨Nat.le_of_ble_eq_true rfl, Nat.le_of_ble_eq_true rfl⟩) (k := 0) (ci := 1) (by omega) (fun ct hA => hA.1.1) rfl rfl rfl hl.1 (rest := []) rfl (Nat.le_of_ble_eq_true rfl) hrm dL_law_568 (fun r u H locs hp h => ?_)
          obtain ⟨er9, hu9⟩ := hp
          rw [hu9] at h
          have er9 : r = qT X2 k 6 := er9
          subst er9
          refine lv_aload hx hb dL_law_571 (lv_at hl 11 rfl) ?_
          refine lv_iload hx hb dL_law_573 (lv_at hl 2 rfl) ?_
          refine U_il2 C0 hK h (j := 1) (i := k) (by omega) hf1 rfl (by omega) (by omega) dL_law_575 ?_
          refine lv_iload hx hb dL_law_576 (lv_at hl 1 rfl) ?_
          refine lv_iadd hx hb dL_law_578 ?_
          refine lv_icmp_ne (tgt := 627) hx hb dL_law_579 (by decide) (fun q9 => absurd (by rw [hg1 k (by omega)]; exact ht.2.2.2.1) q9) (fun _ => ?_)
          refine lv_aload_n hx hb dL_law_582 rfl (lv_at hl 23 rfl) ?_
          refine lv_iload hx hb dL_law_583 (lv_at hl 2 rfl) ?_
          refine lv_iconst (v := 3) hx hb dL_law_585 (by decide) ?_
          refine S_callVi C0 hK h (k_tank hk2 k (by omega) 3 (by omega)) (cwV 2 hts gL_law_X1_tank rfl rfl rfl (by decide +kernel) ⟨Nat.le_of_ble_eq_true rfl, Nat.le_of_ble_eq_true rfl⟩) (k := 0) (ci := 1) (by omega) (fun ct hA => hA.1.1) rfl rfl rfl hl.1 (rest := []) rfl (Nat.le_of_ble_eq_true rfl) hrm dL_law_586 (fun r u H locs hp h => ?_)
          obtain ⟨er9, hu9⟩ := hp
          rw [hu9] at h
          have er9 : r = qT X2 k 3 := er9
          subst er9
          refine lv_if_lt (tgt := 627) hx hb dL_law_589 (by decide) (fun q9 => absurd q9 (Int32.not_lt.mpr ht.2.2.2.2.1.1)) (fun _ => ?_)
          refine lv_aload_n hx hb dL_law_592 rfl (lv_at hl 23 rfl) ?_
          refine lv_iload hx hb dL_law_593 (lv_at hl 2 rfl) ?_
          refine lv_iconst (v := 3) hx hb dL_law_595 (by decide) ?_
          refine S_callVi C0 hK h (k_tank hk2 k (by omega) 3 (by omega)) (cwV 2 hts gL_law_X1_tank rfl rfl rfl (by decide +kernel) ⟨Nat.le_of_ble_eq_true rfl, Nat.le_of_ble_eq_true rfl⟩) (k := 0) (ci := 1) (by omega) (fun ct hA => hA.1.1) rfl rfl rfl hl.1 (rest := []) rfl (Nat.le_of_ble_eq_true rfl) hrm dL_law_596 (fun r u H locs hp h => ?_)
          obtain ⟨er9, hu9⟩ := hp
          rw [hu9] at h
          have er9 : r = qT X2 k 3 := er9
          subst er9
          refine lv_sipush (v := 200) hx hb dL_law_599 (by decide) ?_
          refine lv_icmp_gt (tgt := 627) hx hb dL_law_602 (by decide) (fun q9 => absurd q9 (Int32.not_lt.mpr ht.2.2.2.2.1.2)) (fun _ => ?_)
          refine lv_aload_n hx hb dL_law_605 rfl (lv_at hl 23 rfl) ?_
          refine lv_iload hx hb dL_law_606 (lv_at hl 2 rfl) ?_
          refine lv_iconst (v := 4) hx hb dL_law_608 (by decide) ?_
          refine S_callVi C0 hK h (k_tank hk2 k (by omega) 4 (by omega)) (cwV 2 hts gL_law_X1_tank rfl rfl rfl (by decide +kernel) ⟨Nat.le_of_ble_eq_true rfl, Nat.le_of_ble_eq_true rfl⟩) (k := 0) (ci := 1) (by omega) (fun ct hA => hA.1.1) rfl rfl rfl hl.1 (rest := []) rfl (Nat.le_of_ble_eq_true rfl) hrm dL_law_609 (fun r u H locs hp h => ?_)
          obtain ⟨er9, hu9⟩ := hp
          rw [hu9] at h
          have er9 : r = qT X2 k 4 := er9
          subst er9
          refine lv_if_lt (tgt := 627) hx hb dL_law_612 (by decide) (fun q9 => absurd q9 (Int32.not_lt.mpr ht.2.2.2.2.2.1.1)) (fun _ => ?_)
          refine lv_aload_n hx hb dL_law_615 rfl (lv_at hl 23 rfl) ?_
          refine lv_iload hx hb dL_law_616 (lv_at hl 2 rfl) ?_
          refine lv_iconst (v := 4) hx hb dL_law_618 (by decide) ?_
          refine S_callVi C0 hK h (k_tank hk2 k (by omega) 4 (by omega)) (cwV 2 hts gL_law_X1_tank rfl rfl rfl (by decide +kernel) ⟨Nat.le_of_ble_eq_true rfl, Nat.le_of_ble_eq_true rfl⟩) (k := 0) (ci := 1) (by omega) (fun ct hA => hA.1.1) rfl rfl rfl hl.1 (rest := []) rfl (Nat.le_of_ble_eq_true rfl) hrm dL_law_619 (fun r u H locs hp h => ?_)
          obtain ⟨er9, hu9⟩ := hp
          rw [hu9] at h
          have er9 : r = qT X2 k 4 := er9
          subst er9
          refine lv_bipush (v := 99) hx hb dL_law_622 (by decide) ?_
          refine lv_icmp_le (tgt := 629) hx hb dL_law_624 (by decide) (fun _ => ?_) (fun q9 => absurd ht.2.2.2.2.2.1.2 q9)
          exact J629_2 Y _ _ _ h (lv_sub hl [1, 2, 3, 4, 5, 6, 7, 8, 9, 10, 11, 12, 13, 14, 15, 16, 17, 18, 19, 20, 21, 22, 23, 24] rfl)
      · refine lv_iconst (v := 1) hx hb dL_law_483 (by decide) ?_
        refine lv_goto (tgt := 488) hx hb dL_law_484 (by decide) ?_
        refine lv_istore (lv' := [(27, .int 1), (26, .int (qT X2 k 5)), (25, .int (nI k)), (24, .int (qsum (fun j => qT X2 j 3) (k + 1))), (23, .int (qthc X2 (k + 1))), (22, .int (qsum (fun j => qT X2 j 5) (k + 1))), (18, .int (sumT X2 6 - sumT X 6)), (19, .int (sumP X2 7 - sumP X 7)), (20, .int (sumT X2 3)), (21, .int (sumP X2 4)), (15, .ref (za z (b + 2))), (14, .ref (za z (b + 1))), (13, .ref (za z (b + 0))), (5, .int (nI (qt X))), (6, .int (nI (qp X))), (7, .int (sumT X 3)), (8, .int (sumT X 4)), (9, .int (sumT X 6)), (10, .int (sumP X 7)), (11, .int (sumT X 7)), (12, .int (qD X)), (3, .int (nI i)), (2, .ref (za z 55)), (1, .ref (za z 0)), (0, .ref a0)]) hx hb dL_law_488 hl (by decide) rfl (fun ls hl => ?_)
        refine lv_iload hx hb dL_law_490 (lv_at hl 1 rfl) ?_
        refine lv_if_lt (tgt := 627) hx hb dL_law_492 (by decide) (fun q9 => absurd q9 (Int32.not_lt.mpr ht.1)) (fun _ => ?_)
        refine lv_iload hx hb dL_law_495 (lv_at hl 1 rfl) ?_
        refine lv_iload hx hb dL_law_497 (lv_at hl 0 rfl) ?_
        refine lv_if_eq (tgt := 514) hx hb dL_law_499 (by decide) (fun q9 => absurd q9 (by decide)) (fun _ => ?_)
        refine lv_aload_n hx hb dL_law_502 rfl (lv_at hl 23 rfl) ?_
        refine lv_iload hx hb dL_law_503 (lv_at hl 2 rfl) ?_
        refine lv_iconst (v := 2) hx hb dL_law_505 (by decide) ?_
        refine S_callVi C0 hK h (k_tank hk2 k (by omega) 2 (by omega)) (cwV 2 hts gL_law_X1_tank rfl rfl rfl (by decide +kernel) ⟨Nat.le_of_ble_eq_true rfl, Nat.le_of_ble_eq_true rfl⟩) (k := 0) (ci := 1) (by omega) (fun ct hA => hA.1.1) rfl rfl rfl hl.1 (rest := [.int (qT X2 k 5)]) rfl (Nat.le_of_ble_eq_true rfl) hrm dL_law_506 (fun r u H locs hp h => ?_)
        obtain ⟨er9, hu9⟩ := hp
        rw [hu9] at h
        have er9 : r = qT X2 k 2 := er9
        subst er9
        refine lv_iconst (v := 2) hx hb dL_law_509 (by decide) ?_
        refine lv_idiv hx hb dL_law_510 (by decide) ?_
        refine lv_goto (tgt := 521) hx hb dL_law_511 (by decide) ?_
        refine lv_icmp_gt (tgt := 627) hx hb dL_law_521 (by decide) (fun q9 => absurd q9 (Int32.not_lt.mpr (by have q9 := ht.2.1; rw [if_neg c_480] at q9; exact q9))) (fun _ => ?_)
        refine lv_iload hx hb dL_law_524 (lv_at hl 1 rfl) ?_
        refine lv_iload hx hb dL_law_526 (lv_at hl 0 rfl) ?_
        refine lv_if_eq (tgt := 543) hx hb dL_law_528 (by decide) (fun q9 => absurd q9 (by decide)) (fun _ => ?_)
        refine lv_aload_n hx hb dL_law_531 rfl (lv_at hl 23 rfl) ?_
        refine lv_iload hx hb dL_law_532 (lv_at hl 2 rfl) ?_
        refine lv_iconst (v := 2) hx hb dL_law_534 (by decide) ?_
        refine S_callVi C0 hK h (k_tank hk2 k (by omega) 2 (by omega)) (cwV 2 hts gL_law_X1_tank rfl rfl rfl (by decide +kernel) ⟨Nat.le_of_ble_eq_true rfl, Nat.le_of_ble_eq_true rfl⟩) (k := 0) (ci := 1) (by omega) (fun ct hA => hA.1.1) rfl rfl rfl hl.1 (rest := [.int (qT X2 k 5)]) rfl (Nat.le_of_ble_eq_true rfl) hrm dL_law_535 (fun r u H locs hp h => ?_)
        obtain ⟨er9, hu9⟩ := hp
        rw [hu9] at h
        have er9 : r = qT X2 k 2 := er9
        subst er9
        refine lv_iconst (v := 2) hx hb dL_law_538 (by decide) ?_
        refine lv_idiv hx hb dL_law_539 (by decide) ?_
        refine lv_goto (tgt := 550) hx hb dL_law_540 (by decide) ?_
        refine lv_icmp_ge (tgt := 563) hx hb dL_law_550 (by decide) (fun c_550 => ?_) (fun c_550 => ?_)
        · refine lv_aload_n hx hb dL_law_563 rfl (lv_at hl 23 rfl) ?_
          refine lv_iload hx hb dL_law_564 (lv_at hl 2 rfl) ?_
          refine lv_bipush (v := 6) hx hb dL_law_566 (by decide) ?_
          refine S_callVi C0 hK h (k_tank hk2 k (by omega) 6 (by omega)) (cwV 2 hts gL_law_X1_tank rfl rfl rfl (by decide +kernel) ⟨Nat.le_of_ble_eq_true rfl, Nat.le_of_ble_eq_true rfl⟩) (k := 0) (ci := 1) (by omega) (fun ct hA => hA.1.1) rfl rfl rfl hl.1 (rest := []) rfl (Nat.le_of_ble_eq_true rfl) hrm dL_law_568 (fun r u H locs hp h => ?_)
          obtain ⟨er9, hu9⟩ := hp
          rw [hu9] at h
          have er9 : r = qT X2 k 6 := er9
          subst er9
          refine lv_aload hx hb dL_law_571 (lv_at hl 11 rfl) ?_
          refine lv_iload hx hb dL_law_573 (lv_at hl 2 rfl) ?_
          refine U_il2 C0 hK h (j := 1) (i := k) (by omega) hf1 rfl (by omega) (by omega) dL_law_575 ?_
          refine lv_iload hx hb dL_law_576 (lv_at hl 1 rfl) ?_
          refine lv_iadd hx hb dL_law_578 ?_
          refine lv_icmp_ne (tgt := 627) hx hb dL_law_579 (by decide) (fun q9 => absurd (by rw [hg1 k (by omega)]; exact ht.2.2.2.1) q9) (fun _ => ?_)
          refine lv_aload_n hx hb dL_law_582 rfl (lv_at hl 23 rfl) ?_
          refine lv_iload hx hb dL_law_583 (lv_at hl 2 rfl) ?_
          refine lv_iconst (v := 3) hx hb dL_law_585 (by decide) ?_
          refine S_callVi C0 hK h (k_tank hk2 k (by omega) 3 (by omega)) (cwV 2 hts gL_law_X1_tank rfl rfl rfl (by decide +kernel) ⟨Nat.le_of_ble_eq_true rfl, Nat.le_of_ble_eq_true rfl⟩) (k := 0) (ci := 1) (by omega) (fun ct hA => hA.1.1) rfl rfl rfl hl.1 (rest := []) rfl (Nat.le_of_ble_eq_true rfl) hrm dL_law_586 (fun r u H locs hp h => ?_)
          obtain ⟨er9, hu9⟩ := hp
          rw [hu9] at h
          have er9 : r = qT X2 k 3 := er9
          subst er9
          refine lv_if_lt (tgt := 627) hx hb dL_law_589 (by decide) (fun q9 => absurd q9 (Int32.not_lt.mpr ht.2.2.2.2.1.1)) (fun _ => ?_)
          refine lv_aload_n hx hb dL_law_592 rfl (lv_at hl 23 rfl) ?_
          refine lv_iload hx hb dL_law_593 (lv_at hl 2 rfl) ?_
          refine lv_iconst (v := 3) hx hb dL_law_595 (by decide) ?_
          refine S_callVi C0 hK h (k_tank hk2 k (by omega) 3 (by omega)) (cwV 2 hts gL_law_X1_tank rfl rfl rfl (by decide +kernel) ⟨Nat.le_of_ble_eq_true rfl, Nat.le_of_ble_eq_true rfl⟩) (k := 0) (ci := 1) (by omega) (fun ct hA => hA.1.1) rfl rfl rfl hl.1 (rest := []) rfl (Nat.le_of_ble_eq_true rfl) hrm dL_law_596 (fun r u H locs hp h => ?_)
          obtain ⟨er9, hu9⟩ := hp
          rw [hu9] at h
          have er9 : r = qT X2 k 3 := er9
          subst er9
          refine lv_sipush (v := 200) hx hb dL_law_599 (by decide) ?_
          refine lv_icmp_gt (tgt := 627) hx hb dL_law_602 (by decide) (fun q9 => absurd q9 (Int32.not_lt.mpr ht.2.2.2.2.1.2)) (fun _ => ?_)
          refine lv_aload_n hx hb dL_law_605 rfl (lv_at hl 23 rfl) ?_
          refine lv_iload hx hb dL_law_606 (lv_at hl 2 rfl) ?_
          refine lv_iconst (v := 4) hx hb dL_law_608 (by decide) ?_
          refine S_callVi C0 hK h (k_tank hk2 k (by omega) 4 (by omega)) (cwV 2 hts gL_law_X1_tank rfl rfl rfl (by decide +kernel) ⟨Nat.le_of_ble_eq_true rfl, Nat.le_of_ble_eq_true rfl⟩) (k := 0) (ci := 1) (by omega) (fun ct hA => hA.1.1) rfl rfl rfl hl.1 (rest := []) rfl (Nat.le_of_ble_eq_true rfl) hrm dL_law_609 (fun r u H locs hp h => ?_)
          obtain ⟨er9, hu9⟩ := hp
          rw [hu9] at h
          have er9 : r = qT X2 k 4 := er9
          subst er9
          refine lv_if_lt (tgt := 627) hx hb dL_law_612 (by decide) (fun q9 => absurd q9 (Int32.not_lt.mpr ht.2.2.2.2.2.1.1)) (fun _ => ?_)
          refine lv_aload_n hx hb dL_law_615 rfl (lv_at hl 23 rfl) ?_
          refine lv_iload hx hb dL_law_616 (lv_at hl 2 rfl) ?_
          refine lv_iconst (v := 4) hx hb dL_law_618 (by decide) ?_
          refine S_callVi C0 hK h (k_tank hk2 k (by omega) 4 (by omega)) (cwV 2 hts gL_law_X1_tank rfl rfl rfl (by decide +kernel) ⟨Nat.le_of_ble_eq_true rfl, Nat.le_of_ble_eq_true rfl⟩) (k := 0) (ci := 1) (by omega) (fun ct hA => hA.1.1) rfl rfl rfl hl.1 (rest := []) rfl (Nat.le_of_ble_eq_true rfl) hrm dL_law_619 (fun r u H locs hp h => ?_)
          obtain ⟨er9, hu9⟩ := hp
          rw [hu9] at h
          have er9 : r = qT X2 k 4 := er9
          subst er9
          refine lv_bipush (v := 99) hx hb dL_law_622 (by decide) ?_
          refine lv_icmp_le (tgt := 629) hx hb dL_law_624 (by decide) (fun _ => ?_) (fun q9 => absurd ht.2.2.2.2.2.1.2 q9)
          exact J629_2 Y _ _ _ h (lv_sub hl [1, 2, 3, 4, 5, 6, 7, 8, 9, 10, 11, 12, 13, 14, 15, 16, 17, 18, 19, 20, 21, 22, 23, 24] rfl)
        · refine lv_aload_n hx hb dL_law_553 rfl (lv_at hl 23 rfl) ?_
          refine lv_iload hx hb dL_law_554 (lv_at hl 2 rfl) ?_
          refine lv_iconst (v := 3) hx hb dL_law_556 (by decide) ?_
          refine S_callVi C0 hK h (k_tank hk2 k (by omega) 3 (by omega)) (cwV 2 hts gL_law_X1_tank rfl rfl rfl (by decide +kernel) ⟨Nat.le_of_ble_eq_true rfl, Nat.le_of_ble_eq_true rfl⟩) (k := 0) (ci := 1) (by omega) (fun ct hA => hA.1.1) rfl rfl rfl hl.1 (rest := []) rfl (Nat.le_of_ble_eq_true rfl) hrm dL_law_557 (fun r u H locs hp h => ?_)
          obtain ⟨er9, hu9⟩ := hp
          rw [hu9] at h
          have er9 : r = qT X2 k 3 := er9
          subst er9
          refine lv_if_ne (tgt := 627) hx hb dL_law_560 (by decide) (fun q9 => absurd (ht.2.2.1 (by rw [if_neg c_480]; exact Int32.not_le.mp c_550)) q9) (fun _ => ?_)
          refine lv_aload_n hx hb dL_law_563 rfl (lv_at hl 23 rfl) ?_
          refine lv_iload hx hb dL_law_564 (lv_at hl 2 rfl) ?_
          refine lv_bipush (v := 6) hx hb dL_law_566 (by decide) ?_
          refine S_callVi C0 hK h (k_tank hk2 k (by omega) 6 (by omega)) (cwV 2 hts gL_law_X1_tank rfl rfl rfl (by decide +kernel) ⟨Nat.le_of_ble_eq_true rfl, Nat.le_of_ble_eq_true rfl⟩) (k := 0) (ci := 1) (by omega) (fun ct hA => hA.1.1) rfl rfl rfl hl.1 (rest := []) rfl (Nat.le_of_ble_eq_true rfl) hrm dL_law_568 (fun r u H locs hp h => ?_)
          obtain ⟨er9, hu9⟩ := hp
          rw [hu9] at h
          have er9 : r = qT X2 k 6 := er9
          subst er9
          refine lv_aload hx hb dL_law_571 (lv_at hl 11 rfl) ?_
          refine lv_iload hx hb dL_law_573 (lv_at hl 2 rfl) ?_
          refine U_il2 C0 hK h (j := 1) (i := k) (by omega) hf1 rfl (by omega) (by omega) dL_law_575 ?_
          refine lv_iload hx hb dL_law_576 (lv_at hl 1 rfl) ?_
          refine lv_iadd hx hb dL_law_578 ?_
          refine lv_icmp_ne (tgt := 627) hx hb dL_law_579 (by decide) (fun q9 => absurd (by rw [hg1 k (by omega)]; exact ht.2.2.2.1) q9) (fun _ => ?_)
          refine lv_aload_n hx hb dL_law_582 rfl (lv_at hl 23 rfl) ?_
          refine lv_iload hx hb dL_law_583 (lv_at hl 2 rfl) ?_
          refine lv_iconst (v := 3) hx hb dL_law_585 (by decide) ?_
          refine S_callVi C0 hK h (k_tank hk2 k (by omega) 3 (by omega)) (cwV 2 hts gL_law_X1_tank rfl rfl rfl (by decide +kernel) ⟨Nat.le_of_ble_eq_true rfl, Nat.le_of_ble_eq_true rfl⟩) (k := 0) (ci := 1) (by omega) (fun ct hA => hA.1.1) rfl rfl rfl hl.1 (rest := []) rfl (Nat.le_of_ble_eq_true rfl) hrm dL_law_586 (fun r u H locs hp h => ?_)
          obtain ⟨er9, hu9⟩ := hp
          rw [hu9] at h
          have er9 : r = qT X2 k 3 := er9
          subst er9
          refine lv_if_lt (tgt := 627) hx hb dL_law_589 (by decide) (fun q9 => absurd q9 (Int32.not_lt.mpr ht.2.2.2.2.1.1)) (fun _ => ?_)
          refine lv_aload_n hx hb dL_law_592 rfl (lv_at hl 23 rfl) ?_
          refine lv_iload hx hb dL_law_593 (lv_at hl 2 rfl) ?_
          refine lv_iconst (v := 3) hx hb dL_law_595 (by decide) ?_
          refine S_callVi C0 hK h (k_tank hk2 k (by omega) 3 (by omega)) (cwV 2 hts gL_law_X1_tank rfl rfl rfl (by decide +kernel) ⟨Nat.le_of_ble_eq_true rfl, Nat.le_of_ble_eq_true rfl⟩) (k := 0) (ci := 1) (by omega) (fun ct hA => hA.1.1) rfl rfl rfl hl.1 (rest := []) rfl (Nat.le_of_ble_eq_true rfl) hrm dL_law_596 (fun r u H locs hp h => ?_)
          obtain ⟨er9, hu9⟩ := hp
          rw [hu9] at h
          have er9 : r = qT X2 k 3 := er9
          subst er9
          refine lv_sipush (v := 200) hx hb dL_law_599 (by decide) ?_
          refine lv_icmp_gt (tgt := 627) hx hb dL_law_602 (by decide) (fun q9 => absurd q9 (Int32.not_lt.mpr ht.2.2.2.2.1.2)) (fun _ => ?_)
          refine lv_aload_n hx hb dL_law_605 rfl (lv_at hl 23 rfl) ?_
          refine lv_iload hx hb dL_law_606 (lv_at hl 2 rfl) ?_
          refine lv_iconst (v := 4) hx hb dL_law_608 (by decide) ?_
          refine S_callVi C0 hK h (k_tank hk2 k (by omega) 4 (by omega)) (cwV 2 hts gL_law_X1_tank rfl rfl rfl (by decide +kernel) ⟨Nat.le_of_ble_eq_true rfl, Nat.le_of_ble_eq_true rfl⟩) (k := 0) (ci := 1) (by omega) (fun ct hA => hA.1.1) rfl rfl rfl hl.1 (rest := []) rfl (Nat.le_of_ble_eq_true rfl) hrm dL_law_609 (fun r u H locs hp h => ?_)
          obtain ⟨er9, hu9⟩ := hp
          rw [hu9] at h
          have er9 : r = qT X2 k 4 := er9
          subst er9
          refine lv_if_lt (tgt := 627) hx hb dL_law_612 (by decide) (fun q9 => absurd q9 (Int32.not_lt.mpr ht.2.2.2.2.2.1.1)) (fun _ => ?_)
          refine lv_aload_n hx hb dL_law_615 rfl (lv_at hl 23 rfl) ?_
          refine lv_iload hx hb dL_law_616 (lv_at hl 2 rfl) ?_
          refine lv_iconst (v := 4) hx hb dL_law_618 (by decide) ?_
          refine S_callVi C0 hK h (k_tank hk2 k (by omega) 4 (by omega)) (cwV 2 hts gL_law_X1_tank rfl rfl rfl (by decide +kernel) ⟨Nat.le_of_ble_eq_true rfl, Nat.le_of_ble_eq_true rfl⟩) (k := 0) (ci := 1) (by omega) (fun ct hA => hA.1.1) rfl rfl rfl hl.1 (rest := []) rfl (Nat.le_of_ble_eq_true rfl) hrm dL_law_619 (fun r u H locs hp h => ?_)
          obtain ⟨er9, hu9⟩ := hp
          rw [hu9] at h
          have er9 : r = qT X2 k 4 := er9
          subst er9
          refine lv_bipush (v := 99) hx hb dL_law_622 (by decide) ?_
          refine lv_icmp_le (tgt := 629) hx hb dL_law_624 (by decide) (fun _ => ?_) (fun q9 => absurd ht.2.2.2.2.2.1.2 q9)
          exact J629_2 Y _ _ _ h (lv_sub hl [1, 2, 3, 4, 5, 6, 7, 8, 9, 10, 11, 12, 13, 14, 15, 16, 17, 18, 19, 20, 21, 22, 23, 24] rfl)
    refine lv_iload hx hb dL_law_449 (lv_at hl 4 rfl) ?_
    refine lv_iload hx hb dL_law_451 (lv_at hl 2 rfl) ?_
    refine lv_aload_n hx hb dL_law_453 rfl (lv_at hl 22 rfl) ?_
    refine lv_iload hx hb dL_law_454 (lv_at hl 3 rfl) ?_
    refine lv_iconst (v := 2) hx hb dL_law_456 (by decide) ?_
    refine S_callVi C0 hK h (k_tank hk2 k (by omega) 2 (by omega)) (cwV 2 hts gL_law_X1_tank rfl rfl rfl (by decide +kernel) ⟨Nat.le_of_ble_eq_true rfl, Nat.le_of_ble_eq_true rfl⟩) (k := 0) (ci := 1) (by omega) (fun ct hA => hA.1.1) rfl rfl rfl hl.1 (rest := [.int (qT X2 k 5), .int (qthc X2 k)]) rfl (Nat.le_of_ble_eq_true rfl) hrm dL_law_457 (fun r u H locs hp h => ?_)
    obtain ⟨er9, hu9⟩ := hp
    rw [hu9] at h
    have er9 : r = qT X2 k 2 := er9
    subst er9
    refine lv_icmp_ge (tgt := 467) hx hb dL_law_460 (by decide) (fun c_460 => ?_) (fun c_460 => ?_)
    · refine lv_iconst (v := 0) hx hb dL_law_467 (by decide) ?_
      refine lv_iadd hx hb dL_law_468 ?_
      refine lv_istore (lv' := [(23, .int ((qthc X2 k) + 0)), (24, .int ((qsum (fun j => qT X2 j 3) k) + (qT X2 k 3))), (22, .int ((qsum (fun j => qT X2 j 5) k) + (qT X2 k 5))), (26, .int (qT X2 k 5)), (25, .int (nI k)), (18, .int (sumT X2 6 - sumT X 6)), (19, .int (sumP X2 7 - sumP X 7)), (20, .int (sumT X2 3)), (21, .int (sumP X2 4)), (15, .ref (za z (b + 2))), (14, .ref (za z (b + 1))), (13, .ref (za z (b + 0))), (5, .int (nI (qt X))), (6, .int (nI (qp X))), (7, .int (sumT X 3)), (8, .int (sumT X 4)), (9, .int (sumT X 6)), (10, .int (sumP X 7)), (11, .int (sumT X 7)), (12, .int (qD X)), (3, .int (nI i)), (2, .ref (za z 55)), (1, .ref (za z 0)), (0, .ref a0)]) hx hb dL_law_469 hl (by decide) rfl (fun ls hl => ?_)
      have e9 : qthc X2 (k + 1) = qthc X2 k + 0 := by simp only [qthc, if_neg (Int32.not_lt.mpr c_460), add0]
      rw [← e9] at hl
      exact J471_1 Y _ _ _ h (lv_sub hl [3, 4, 1, 0, 2, 5, 6, 7, 8, 9, 10, 11, 12, 13, 14, 15, 16, 17, 18, 19, 20, 21, 22, 23] rfl)
    · refine lv_iconst (v := 1) hx hb dL_law_463 (by decide) ?_
      refine lv_goto (tgt := 468) hx hb dL_law_464 (by decide) ?_
      refine lv_iadd hx hb dL_law_468 ?_
      refine lv_istore (lv' := [(23, .int ((qthc X2 k) + 1)), (24, .int ((qsum (fun j => qT X2 j 3) k) + (qT X2 k 3))), (22, .int ((qsum (fun j => qT X2 j 5) k) + (qT X2 k 5))), (26, .int (qT X2 k 5)), (25, .int (nI k)), (18, .int (sumT X2 6 - sumT X 6)), (19, .int (sumP X2 7 - sumP X 7)), (20, .int (sumT X2 3)), (21, .int (sumP X2 4)), (15, .ref (za z (b + 2))), (14, .ref (za z (b + 1))), (13, .ref (za z (b + 0))), (5, .int (nI (qt X))), (6, .int (nI (qp X))), (7, .int (sumT X 3)), (8, .int (sumT X 4)), (9, .int (sumT X 6)), (10, .int (sumP X 7)), (11, .int (sumT X 7)), (12, .int (qD X)), (3, .int (nI i)), (2, .ref (za z 55)), (1, .ref (za z 0)), (0, .ref a0)]) hx hb dL_law_469 hl (by decide) rfl (fun ls hl => ?_)
      have e9 : qthc X2 (k + 1) = qthc X2 k + 1 := by simp only [qthc, if_pos (Int32.not_le.mp c_460)]
      rw [← e9] at hl
      exact J471_1 Y _ _ _ h (lv_sub hl [3, 4, 1, 0, 2, 5, 6, 7, 8, 9, 10, 11, 12, 13, 14, 15, 16, 17, 18, 19, 20, 21, 22, 23] rfl)
