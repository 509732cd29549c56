/-! PART 88: the law, pipe by pipe -/
set_option maxHeartbeats 8000000 in
set_option maxRecDepth 100000 in
theorem law_E {p : Program} {l : Launch} {e : Env} {s : State} {m : MethodId} {below : List Frame} {meth : Method} {c : Code} {Q : State → Prop} {a0 i cl sl : Nat} {z : QZ} {ix : Nat → Nat} {b : Nat} {c1 : Nat → va_E} {X : QLs} (C0 : Cx p s m ([Value.ref a0] : List Value).toArray meth c cL_law 32 (some .boolean) RL wsL_law) (hK : QK z s) (hrm : cl ≤ room_1.cells ∧ sl ≤ room_1.slots) (hI : Inv i X) (hi : i < 40) (hb9 : 56 ≤ b) {X2 : QLs} (e2 : X2 = dayL X) {g0 g1 g2 : Nat → Int32} {f : Nat → Nat × (Nat → Int32)} (hf0 : f 0 = (qp X, g0)) (hf1 : f 1 = (qt X, g1)) (hf2 : f 2 = (qt X, g2)) (hg0 : ∀ j, j < qp X → g0 j = qP X j 4) (hg1 : ∀ j, j < qt X → g1 j = qT X j 6) (hg2 : nI i - nI i / 5 * 5 = 0 → ∀ j, j < qt X → g2 j = sat X j) (kk : ∀ (Y : QLs) (H : Heap) (locs : List Loc) (ls : Array Slot), GW z (UAt z ix (qt X) (qp X) b 3) 0 (b + 3) s.heap c1 (X2, Y, X2, f) H locs → lv_has ls 32 [(27, .int (qmx (fun j => qP X2 j 6) (qp X))), (26, .int (qsum (fun j => qP X2 j 4) (qp X))), (25, .int (qsum (fun j => qP X2 j 6) (qp X))), (24, .int (qsum (fun j => qT X2 j 3) (qt X))), (23, .int (qthc X2 (qt X))), (22, .int (qsum (fun j => qT X2 j 5) (qt X))), (18, .int (sumT X2 6 - sumT X 6)), (19, .int (sumP X2 7 - sumP X 7)), (20, .int (sumT X2 3)), (21, .int (sumP X2 4)), (15, .ref (za z (b + 2))), (14, .ref (za z (b + 1))), (13, .ref (za z (b + 0))), (5, .int (nI (qt X))), (6, .int (nI (qp X))), (7, .int (sumT X 3)), (8, .int (sumT X 4)), (9, .int (sumT X 6)), (10, .int (sumP X 7)), (11, .int (sumT X 7)), (12, .int (qD X)), (3, .int (nI i)), (2, .ref (za z 55)), (1, .ref (za z 0)), (0, .ref a0)] → W p l e room_1 s m ([Value.ref a0] : List Value).toArray below meth c H locs cl sl Q (F0 m 1080 ls [])) : ∀ (d k : Nat), k + d = qp X → ∀ (Y : QLs) (H : Heap) (locs : List Loc) (ls : Array Slot), GW z (UAt z ix (qt X) (qp X) b 3) 0 (b + 3) s.heap c1 (X2, Y, X2, f) H locs → lv_has ls 32 [(28, .int (nI k)), (27, .int (qmx (fun j => qP X2 j 6) k)), (26, .int (qsum (fun j => qP X2 j 4) k)), (25, .int (qsum (fun j => qP X2 j 6) k)), (24, .int (qsum (fun j => qT X2 j 3) (qt X))), (23, .int (qthc X2 (qt X))), (22, .int (qsum (fun j => qT X2 j 5) (qt X))), (18, .int (sumT X2 6 - sumT X 6)), (19, .int (sumP X2 7 - sumP X 7)), (20, .int (sumT X2 3)), (21, .int (sumP X2 4)), (15, .ref (za z (b + 2))), (14, .ref (za z (b + 1))), (13, .ref (za z (b + 0))), (5, .int (nI (qt X))), (6, .int (nI (qp X))), (7, .int (sumT X 3)), (8, .int (sumT X 4)), (9, .int (sumT X 6)), (10, .int (sumP X 7)), (11, .int (sumT X 7)), (12, .int (qD X)), (3, .int (nI i)), (2, .ref (za z 55)), (1, .ref (za z 0)), (0, .ref a0)] → W p l e room_1 s m ([Value.ref a0] : List Value).toArray below meth c H locs cl sl Q (F0 m 783 ls []) := by
  obtain ⟨hx, hb, hr, hml, hown, hts, hlocks⟩ := id C0
  have hk := hI.ok
  have hk1 := hk.1
  have hk0 := hk.2.1
  have hI2 : Inv (i + 1) X2 := by rw [e2]; exact hI.day (by omega)
  have hk2 := hI2.ok
  have et : qt X2 = qt X := by rw [e2]; exact (shp_day X).1
  have eq9 : qp X2 = qp X := by rw [e2]; exact (shp_day X).2.1
  intro d
  induction d with
  | zero =>
    intro k hkd Y H locs ls  h hl
    have hE : k = qp X := by omega
    subst hE
    refine lv_iload hx hb dL_law_783 (lv_at hl 0 rfl) ?_
    refine lv_iload hx hb dL_law_785 (lv_at hl 15 rfl) ?_
    refine lv_icmp_ge (tgt := 1080) hx hb dL_law_787 (by decide) (fun _ => ?_) (fun q9 => absurd (nI_le (a := qp X) (b := (qp X)) (by omega) (by omega)) q9)
    exact kk Y _ _ _  h (lv_sub hl [1, 2, 3, 4, 5, 6, 7, 8, 9, 10, 11, 12, 13, 14, 15, 16, 17, 18, 19, 20, 21, 22, 23, 24, 25] rfl)
  | succ d ih =>
    intro k hkd Y H locs ls  h hl
    have hE : k < qp X := by omega
    have hp := law_pipe hI (by omega) (show k < qp X by omega)
    rw [← e2] at hp
    have hc := can_law hI2.bd (show k < qp X2 by omega)
    obtain ⟨hk3, hk4, hk5, hF0, hF1⟩ := hk2.2.2 k (by omega)
    refine lv_iload hx hb dL_law_783 (lv_at hl 0 rfl) ?_
    refine lv_iload hx hb dL_law_785 (lv_at hl 15 rfl) ?_
    refine lv_icmp_ge (tgt := 1080) hx hb dL_law_787 (by decide) (fun q9 => absurd q9 (nI_ge (a := k) (b := qp X) (by omega) (by omega))) (fun _ => ?_)
    refine lv_aload_n hx hb dL_law_790 rfl (lv_at hl 24 rfl) ?_
    refine lv_iload hx hb dL_law_791 (lv_at hl 0 rfl) ?_
    refine lv_iconst (v := 5) hx hb dL_law_793 (by decide) ?_
    refine S_callVi C0 hK h (k_pipe hk2 k (by omega) 5 (by omega)) (cwV 2 hts gL_law_X1_pipe rfl rfl rfl (by decide +kernel) ⟨Nat.le_of_ble_eq_true rfl, Nat.le_of_ble_eq_true rfl⟩) (k := 0) (ci := 1) (by omega) (fun ct hA => hA.1.1) rfl rfl rfl hl.1 (rest := []) rfl (Nat.le_of_ble_eq_true rfl) hrm dL_law_794 (fun r u H locs hp h => ?_)
    obtain ⟨er9, hu9⟩ := hp
    rw [hu9] at h
    have er9 : r = qP X2 k 5 := er9
    subst er9
    refine lv_istore (lv' := [(29, .int (qP X2 k 5)), (28, .int (nI k)), (27, .int (qmx (fun j => qP X2 j 6) k)), (26, .int (qsum (fun j => qP X2 j 4) k)), (25, .int (qsum (fun j => qP X2 j 6) k)), (24, .int (qsum (fun j => qT X2 j 3) (qt X))), (23, .int (qthc X2 (qt X))), (22, .int (qsum (fun j => qT X2 j 5) (qt X))), (18, .int (sumT X2 6 - sumT X 6)), (19, .int (sumP X2 7 - sumP X 7)), (20, .int (sumT X2 3)), (21, .int (sumP X2 4)), (15, .ref (za z (b + 2))), (14, .ref (za z (b + 1))), (13, .ref (za z (b + 0))), (5, .int (nI (qt X))), (6, .int (nI (qp X))), (7, .int (sumT X 3)), (8, .int (sumT X 4)), (9, .int (sumT X 6)), (10, .int (sumP X 7)), (11, .int (sumT X 7)), (12, .int (qD X)), (3, .int (nI i)), (2, .ref (za z 55)), (1, .ref (za z 0)), (0, .ref a0)]) hx hb dL_law_797 hl (by decide) rfl (fun ls hl => ?_)
    refine lv_iload hx hb dL_law_799 (lv_at hl 4 rfl) ?_
    refine lv_aload_n hx hb dL_law_801 rfl (lv_at hl 25 rfl) ?_
    refine lv_iload hx hb dL_law_802 (lv_at hl 1 rfl) ?_
    refine lv_bipush (v := 6) hx hb dL_law_804 (by decide) ?_
    refine S_callVi C0 hK h (k_pipe hk2 k (by omega) 6 (by omega)) (cwV 2 hts gL_law_X1_pipe rfl rfl rfl (by decide +kernel) ⟨Nat.le_of_ble_eq_true rfl, Nat.le_of_ble_eq_true rfl⟩) (k := 0) (ci := 1) (by omega) (fun ct hA => hA.1.1) rfl rfl rfl hl.1 (rest := [.int (qsum (fun j => qP X2 j 6) k)]) rfl (Nat.le_of_ble_eq_true rfl) hrm dL_law_806 (fun r u H locs hp h => ?_)
    obtain ⟨er9, hu9⟩ := hp
    rw [hu9] at h
    have er9 : r = qP X2 k 6 := er9
    subst er9
    refine lv_iadd hx hb dL_law_809 ?_
    refine lv_istore (lv' := [(25, .int ((qsum (fun j => qP X2 j 6) k) + (qP X2 k 6))), (29, .int (qP X2 k 5)), (28, .int (nI k)), (27, .int (qmx (fun j => qP X2 j 6) k)), (26, .int (qsum (fun j => qP X2 j 4) k)), (24, .int (qsum (fun j => qT X2 j 3) (qt X))), (23, .int (qthc X2 (qt X))), (22, .int (qsum (fun j => qT X2 j 5) (qt X))), (18, .int (sumT X2 6 - sumT X 6)), (19, .int (sumP X2 7 - sumP X 7)), (20, .int (sumT X2 3)), (21, .int (sumP X2 4)), (15, .ref (za z (b + 2))), (14, .ref (za z (b + 1))), (13, .ref (za z (b + 0))), (5, .int (nI (qt X))), (6, .int (nI (qp X))), (7, .int (sumT X 3)), (8, .int (sumT X 4)), (9, .int (sumT X 6)), (10, .int (sumP X 7)), (11, .int (sumT X 7)), (12, .int (qD X)), (3, .int (nI i)), (2, .ref (za z 55)), (1, .ref (za z 0)), (0, .ref a0)]) hx hb dL_law_810 hl (by decide) rfl (fun ls hl => ?_)
    refine lv_iload hx hb dL_law_812 (lv_at hl 4 rfl) ?_
    refine lv_aload_n hx hb dL_law_814 rfl (lv_at hl 25 rfl) ?_
    refine lv_iload hx hb dL_law_815 (lv_at hl 2 rfl) ?_
    refine lv_iconst (v := 4) hx hb dL_law_817 (by decide) ?_
    refine S_callVi C0 hK h (k_pipe hk2 k (by omega) 4 (by omega)) (cwV 2 hts gL_law_X1_pipe rfl rfl rfl (by decide +kernel) ⟨Nat.le_of_ble_eq_true rfl, Nat.le_of_ble_eq_true rfl⟩) (k := 0) (ci := 1) (by omega) (fun ct hA => hA.1.1) rfl rfl rfl hl.1 (rest := [.int (qsum (fun j => qP X2 j 4) k)]) rfl (Nat.le_of_ble_eq_true rfl) hrm dL_law_818 (fun r u H locs hp h => ?_)
    obtain ⟨er9, hu9⟩ := hp
    rw [hu9] at h
    have er9 : r = qP X2 k 4 := er9
    subst er9
    refine lv_iadd hx hb dL_law_821 ?_
    refine lv_istore (lv' := [(26, .int ((qsum (fun j => qP X2 j 4) k) + (qP X2 k 4))), (25, .int ((qsum (fun j => qP X2 j 6) k) + (qP X2 k 6))), (29, .int (qP X2 k 5)), (28, .int (nI k)), (27, .int (qmx (fun j => qP X2 j 6) k)), (24, .int (qsum (fun j => qT X2 j 3) (qt X))), (23, .int (qthc X2 (qt X))), (22, .int (qsum (fun j => qT X2 j 5) (qt X))), (18, .int (sumT X2 6 - sumT X 6)), (19, .int (sumP X2 7 - sumP X 7)), (20, .int (sumT X2 3)), (21, .int (sumP X2 4)), (15, .ref (za z (b + 2))), (14, .ref (za z (b + 1))), (13, .ref (za z (b + 0))), (5, .int (nI (qt X))), (6, .int (nI (qp X))), (7, .int (sumT X 3)), (8, .int (sumT X 4)), (9, .int (sumT X 6)), (10, .int (sumP X 7)), (11, .int (sumT X 7)), (12, .int (qD X)), (3, .int (nI i)), (2, .ref (za z 55)), (1, .ref (za z 0)), (0, .ref a0)]) hx hb dL_law_822 hl (by decide) rfl (fun ls hl => ?_)
    refine lv_iload hx hb dL_law_824 (lv_at hl 4 rfl) ?_
    refine lv_aload_n hx hb dL_law_826 rfl (lv_at hl 25 rfl) ?_
    refine lv_iload hx hb dL_law_827 (lv_at hl 3 rfl) ?_
    refine lv_bipush (v := 6) hx hb dL_law_829 (by decide) ?_
    refine S_callVi C0 hK h (k_pipe hk2 k (by omega) 6 (by omega)) (cwV 2 hts gL_law_X1_pipe rfl rfl rfl (by decide +kernel) ⟨Nat.le_of_ble_eq_true rfl, Nat.le_of_ble_eq_true rfl⟩) (k := 0) (ci := 1) (by omega) (fun ct hA => hA.1.1) rfl rfl rfl hl.1 (rest := [.int (qmx (fun j => qP X2 j 6) k)]) rfl (Nat.le_of_ble_eq_true rfl) hrm dL_law_831 (fun r u H locs hp h => ?_)
    obtain ⟨er9, hu9⟩ := hp
    rw [hu9] at h
    have er9 : r = qP X2 k 6 := er9
    subst er9
    refine G_mmax C0 hl.1 (by decide +kernel) (by decide +kernel) (by decide +kernel) (by decide +kernel) ⟨Nat.le_of_ble_eq_true rfl, Nat.le_of_ble_eq_true rfl, hrm.1, hrm.2⟩ dL_law_834 ?_
    refine lv_istore (lv' := [(27, .int (qmax (qmx (fun j => qP X2 j 6) k) (qP X2 k 6))), (26, .int ((qsum (fun j => qP X2 j 4) k) + (qP X2 k 4))), (25, .int ((qsum (fun j => qP X2 j 6) k) + (qP X2 k 6))), (29, .int (qP X2 k 5)), (28, .int (nI k)), (24, .int (qsum (fun j => qT X2 j 3) (qt X))), (23, .int (qthc X2 (qt X))), (22, .int (qsum (fun j => qT X2 j 5) (qt X))), (18, .int (sumT X2 6 - sumT X 6)), (19, .int (sumP X2 7 - sumP X 7)), (20, .int (sumT X2 3)), (21, .int (sumP X2 4)), (15, .ref (za z (b + 2))), (14, .ref (za z (b + 1))), (13, .ref (za z (b + 0))), (5, .int (nI (qt X))), (6, .int (nI (qp X))), (7, .int (sumT X 3)), (8, .int (sumT X 4)), (9, .int (sumT X 6)), (10, .int (sumP X 7)), (11, .int (sumT X 7)), (12, .int (qD X)), (3, .int (nI i)), (2, .ref (za z 55)), (1, .ref (za z 0)), (0, .ref a0)]) hx hb dL_law_837 hl (by decide) rfl (fun ls hl => ?_)
    refine lv_iload hx hb dL_law_839 (lv_at hl 3 rfl) ?_
    refine lv_if_lt (tgt := 928) hx hb dL_law_841 (by decide) (fun q9 => absurd q9 (Int32.not_lt.mpr hp.1)) (fun _ => ?_)
    refine lv_iload hx hb dL_law_844 (lv_at hl 3 rfl) ?_
    refine lv_iconst (v := 0) hx hb dL_law_846 (by decide) ?_
    refine lv_aload_n hx hb dL_law_847 rfl (lv_at hl 25 rfl) ?_
    refine lv_iload hx hb dL_law_848 (lv_at hl 4 rfl) ?_
    refine lv_iconst (v := 2) hx hb dL_law_850 (by decide) ?_
    refine S_callVi C0 hK h (k_pipe hk2 k (by omega) 2 (by omega)) (cwV 2 hts gL_law_X1_pipe rfl rfl rfl (by decide +kernel) ⟨Nat.le_of_ble_eq_true rfl, Nat.le_of_ble_eq_true rfl⟩) (k := 0) (ci := 1) (by omega) (fun ct hA => hA.1.1) rfl rfl rfl hl.1 (rest := [.int 0, .int (qP X2 k 5)]) rfl (Nat.le_of_ble_eq_true rfl) hrm dL_law_851 (fun r u H locs hp h => ?_)
    obtain ⟨er9, hu9⟩ := hp
    rw [hu9] at h
    have er9 : r = qP X2 k 2 := er9
    subst er9
    refine lv_aload hx hb dL_law_854 (lv_at hl 14 rfl) ?_
    refine lv_iload hx hb dL_law_856 (lv_at hl 4 rfl) ?_
    refine U_il2 C0 hK h (j := 0) (i := k) (by omega) hf0 rfl (by omega) (by omega) dL_law_858 ?_
    refine lv_isub hx hb dL_law_859 ?_
    refine G_mmax C0 hl.1 (by decide +kernel) (by decide +kernel) (by decide +kernel) (by decide +kernel) ⟨Nat.le_of_ble_eq_true rfl, Nat.le_of_ble_eq_true rfl, hrm.1, hrm.2⟩ dL_law_860 ?_
    refine lv_icmp_gt (tgt := 928) hx hb dL_law_863 (by decide) (fun q9 => absurd q9 (Int32.not_lt.mpr (by rw [hg0 k (by omega)]; exact hp.2.1))) (fun _ => ?_)
    refine lv_aload_n hx hb dL_law_866 rfl (lv_at hl 25 rfl) ?_
    refine lv_iload hx hb dL_law_867 (lv_at hl 4 rfl) ?_
    refine lv_bipush (v := 6) hx hb dL_law_869 (by decide) ?_
    refine S_callVi C0 hK h (k_pipe hk2 k (by omega) 6 (by omega)) (cwV 2 hts gL_law_X1_pipe rfl rfl rfl (by decide +kernel) ⟨Nat.le_of_ble_eq_true rfl, Nat.le_of_ble_eq_true rfl⟩) (k := 0) (ci := 1) (by omega) (fun ct hA => hA.1.1) rfl rfl rfl hl.1 (rest := []) rfl (Nat.le_of_ble_eq_true rfl) hrm dL_law_871 (fun r u H locs hp h => ?_)
    obtain ⟨er9, hu9⟩ := hp
    rw [hu9] at h
    have er9 : r = qP X2 k 6 := er9
    subst er9
    refine lv_if_lt (tgt := 928) hx hb dL_law_874 (by decide) (fun q9 => absurd q9 (Int32.not_lt.mpr hp.2.2.1)) (fun _ => ?_)
    refine lv_aload_n hx hb dL_law_877 rfl (lv_at hl 25 rfl) ?_
    refine lv_iload hx hb dL_law_878 (lv_at hl 4 rfl) ?_
    refine lv_bipush (v := 6) hx hb dL_law_880 (by decide) ?_
    refine S_callVi C0 hK h (k_pipe hk2 k (by omega) 6 (by omega)) (cwV 2 hts gL_law_X1_pipe rfl rfl rfl (by decide +kernel) ⟨Nat.le_of_ble_eq_true rfl, Nat.le_of_ble_eq_true rfl⟩) (k := 0) (ci := 1) (by omega) (fun ct hA => hA.1.1) rfl rfl rfl hl.1 (rest := []) rfl (Nat.le_of_ble_eq_true rfl) hrm dL_law_882 (fun r u H locs hp h => ?_)
    obtain ⟨er9, hu9⟩ := hp
    rw [hu9] at h
    have er9 : r = qP X2 k 6 := er9
    subst er9
    refine lv_iload hx hb dL_law_885 (lv_at hl 3 rfl) ?_
    refine lv_icmp_gt (tgt := 928) hx hb dL_law_887 (by decide) (fun q9 => absurd q9 (Int32.not_lt.mpr hp.2.2.2.1)) (fun _ => ?_)
    have J930_1 : ∀ (Y : QLs) (H : Heap) (locs : List Loc) (ls : Array Slot), GW z (UAt z ix (qt X) (qp X) b 3) 0 (b + 3) s.heap c1 (X2, Y, X2, f) H locs → lv_has ls 32 [(29, .int (qP X2 k 5)), (28, .int (nI k)), (27, .int (qmx (fun j => qP X2 j 6) (k + 1))), (26, .int (qsum (fun j => qP X2 j 4) (k + 1))), (25, .int (qsum (fun j => qP X2 j 6) (k + 1))), (24, .int (qsum (fun j => qT X2 j 3) (qt X))), (23, .int (qthc X2 (qt X))), (22, .int (qsum (fun j => qT X2 j 5) (qt X))), (18, .int (sumT X2 6 - sumT X 6)), (19, .int (sumP X2 7 - sumP X 7)), (20, .int (sumT X2 3)), (21, .int (sumP X2 4)), (15, .ref (za z (b + 2))), (14, .ref (za z (b + 1))), (13, .ref (za z (b + 0))), (5, .int (nI (qt X))), (6, .int (nI (qp X))), (7, .int (sumT X 3)), (8, .int (sumT X 4)), (9, .int (sumT X 6)), (10, .int (sumP X 7)), (11, .int (sumT X 7)), (12, .int (qD X)), (3, .int (nI i)), (2, .ref (za z 55)), (1, .ref (za z 0)), (0, .ref a0)] → W p l e room_1 s m ([Value.ref a0] : List Value).toArray below meth c H locs cl sl Q (F0 m 930 ls []) := by
      intro Y H locs ls h hl
      refine lv_bipush (v := 10) hx hb dL_law_930 (by decide) ?_
      refine lv_aload_n hx hb dL_law_932 rfl (lv_at hl 25 rfl) ?_
      refine lv_aload_n hx hb dL_law_933 rfl (lv_at hl 25 rfl) ?_
      refine lv_iload hx hb dL_law_934 (lv_at hl 1 rfl) ?_
      refine lv_iconst (v := 0) hx hb dL_law_936 (by decide) ?_
      refine S_callVi C0 hK h (k_pipe hk2 k (by omega) 0 (by omega)) (cwV 2 hts gL_law_X1_pipe rfl rfl rfl (by decide +kernel) ⟨Nat.le_of_ble_eq_true rfl, Nat.le_of_ble_eq_true rfl⟩) (k := 0) (ci := 1) (by omega) (fun ct hA => hA.1.1) rfl rfl rfl hl.1 (rest := [.ref (za z 0), .int 10]) rfl (Nat.le_of_ble_eq_true rfl) hrm dL_law_937 (fun r u H locs hp h => ?_)
      obtain ⟨er9, hu9⟩ := hp
      rw [hu9] at h
      have er9 : r = qP X2 k 0 := er9
      subst er9
      refine lv_iconst (v := 0) hx hb dL_law_940 (by decide) ?_
      refine S_callVi C0 hK h (k_tank hk2 (qf X2 k) (by omega) 0 (by omega)) (cwV 2 hts gL_law_X1_tank rfl rfl rfl (by decide +kernel) ⟨Nat.le_of_ble_eq_true rfl, Nat.le_of_ble_eq_true rfl⟩) (k := 0) (ci := 1) (by omega) (fun ct hA => hA.1.1) rfl rfl rfl hl.1 (rest := [.int 10]) (by rw [hF0]; rfl) (Nat.le_of_ble_eq_true rfl) hrm dL_law_941 (fun r u H locs hp h => ?_)
      obtain ⟨er9, hu9⟩ := hp
      rw [hu9] at h
      have er9 : r = qT X2 (qf X2 k) 0 := er9
      subst er9
      refine lv_aload_n hx hb dL_law_944 rfl (lv_at hl 25 rfl) ?_
      refine lv_aload_n hx hb dL_law_945 rfl (lv_at hl 25 rfl) ?_
      refine lv_iload hx hb dL_law_946 (lv_at hl 1 rfl) ?_
      refine lv_iconst (v := 1) hx hb dL_law_948 (by decide) ?_
      refine S_callVi C0 hK h (k_pipe hk2 k (by omega) 1 (by omega)) (cwV 2 hts gL_law_X1_pipe rfl rfl rfl (by decide +kernel) ⟨Nat.le_of_ble_eq_true rfl, Nat.le_of_ble_eq_true rfl⟩) (k := 0) (ci := 1) (by omega) (fun ct hA => hA.1.1) rfl rfl rfl hl.1 (rest := [.ref (za z 0), .int (qT X2 (qf X2 k) 0), .int 10]) rfl (Nat.le_of_ble_eq_true rfl) hrm dL_law_949 (fun r u H locs hp h => ?_)
      obtain ⟨er9, hu9⟩ := hp
      rw [hu9] at h
      have er9 : r = qP X2 k 1 := er9
      subst er9
      refine lv_iconst (v := 0) hx hb dL_law_952 (by decide) ?_
      refine S_callVi C0 hK h (k_tank hk2 (qo X2 k) (by omega) 0 (by omega)) (cwV 2 hts gL_law_X1_tank rfl rfl rfl (by decide +kernel) ⟨Nat.le_of_ble_eq_true rfl, Nat.le_of_ble_eq_true rfl⟩) (k := 0) (ci := 1) (by omega) (fun ct hA => hA.1.1) rfl rfl rfl hl.1 (rest := [.int (qT X2 (qf X2 k) 0), .int 10]) (by rw [hF1]; rfl) (Nat.le_of_ble_eq_true rfl) hrm dL_law_953 (fun r u H locs hp h => ?_)
      obtain ⟨er9, hu9⟩ := hp
      rw [hu9] at h
      have er9 : r = qT X2 (qo X2 k) 0 := er9
      subst er9
      refine lv_isub hx hb dL_law_956 ?_
      refine lv_imul hx hb dL_law_957 ?_
      refine lv_aload_n hx hb dL_law_958 rfl (lv_at hl 25 rfl) ?_
      refine lv_aload_n hx hb dL_law_959 rfl (lv_at hl 25 rfl) ?_
      refine lv_iload hx hb dL_law_960 (lv_at hl 1 rfl) ?_
      refine lv_iconst (v := 0) hx hb dL_law_962 (by decide) ?_
      refine S_callVi C0 hK h (k_pipe hk2 k (by omega) 0 (by omega)) (cwV 2 hts gL_law_X1_pipe rfl rfl rfl (by decide +kernel) ⟨Nat.le_of_ble_eq_true rfl, Nat.le_of_ble_eq_true rfl⟩) (k := 0) (ci := 1) (by omega) (fun ct hA => hA.1.1) rfl rfl rfl hl.1 (rest := [.ref (za z 0), .int (10 * ((qT X2 (qf X2 k) 0) - (qT X2 (qo X2 k) 0)))]) rfl (Nat.le_of_ble_eq_true rfl) hrm dL_law_963 (fun r u H locs hp h => ?_)
      obtain ⟨er9, hu9⟩ := hp
      rw [hu9] at h
      have er9 : r = qP X2 k 0 := er9
      subst er9
      refine lv_iconst (v := 3) hx hb dL_law_966 (by decide) ?_
      refine S_callVi C0 hK h (k_tank hk2 (qf X2 k) (by omega) 3 (by omega)) (cwV 2 hts gL_law_X1_tank rfl rfl rfl (by decide +kernel) ⟨Nat.le_of_ble_eq_true rfl, Nat.le_of_ble_eq_true rfl⟩) (k := 0) (ci := 1) (by omega) (fun ct hA => hA.1.1) rfl rfl rfl hl.1 (rest := [.int (10 * ((qT X2 (qf X2 k) 0) - (qT X2 (qo X2 k) 0)))]) (by rw [hF0]; rfl) (Nat.le_of_ble_eq_true rfl) hrm dL_law_967 (fun r u H locs hp h => ?_)
      obtain ⟨er9, hu9⟩ := hp
      rw [hu9] at h
      have er9 : r = qT X2 (qf X2 k) 3 := er9
      subst er9
      refine lv_iadd hx hb dL_law_970 ?_
      refine lv_aload_n hx hb dL_law_971 rfl (lv_at hl 25 rfl) ?_
      refine lv_aload_n hx hb dL_law_972 rfl (lv_at hl 25 rfl) ?_
      refine lv_iload hx hb dL_law_973 (lv_at hl 1 rfl) ?_
      refine lv_iconst (v := 1) hx hb dL_law_975 (by decide) ?_
      refine S_callVi C0 hK h (k_pipe hk2 k (by omega) 1 (by omega)) (cwV 2 hts gL_law_X1_pipe rfl rfl rfl (by decide +kernel) ⟨Nat.le_of_ble_eq_true rfl, Nat.le_of_ble_eq_true rfl⟩) (k := 0) (ci := 1) (by omega) (fun ct hA => hA.1.1) rfl rfl rfl hl.1 (rest := [.ref (za z 0), .int ((10 * ((qT X2 (qf X2 k) 0) - (qT X2 (qo X2 k) 0))) + (qT X2 (qf X2 k) 3))]) rfl (Nat.le_of_ble_eq_true rfl) hrm dL_law_976 (fun r u H locs hp h => ?_)
      obtain ⟨er9, hu9⟩ := hp
      rw [hu9] at h
      have er9 : r = qP X2 k 1 := er9
      subst er9
      refine lv_iconst (v := 3) hx hb dL_law_979 (by decide) ?_
      refine S_callVi C0 hK h (k_tank hk2 (qo X2 k) (by omega) 3 (by omega)) (cwV 2 hts gL_law_X1_tank rfl rfl rfl (by decide +kernel) ⟨Nat.le_of_ble_eq_true rfl, Nat.le_of_ble_eq_true rfl⟩) (k := 0) (ci := 1) (by omega) (fun ct hA => hA.1.1) rfl rfl rfl hl.1 (rest := [.int ((10 * ((qT X2 (qf X2 k) 0) - (qT X2 (qo X2 k) 0))) + (qT X2 (qf X2 k) 3))]) (by rw [hF1]; rfl) (Nat.le_of_ble_eq_true rfl) hrm dL_law_980 (fun r u H locs hp h => ?_)
      obtain ⟨er9, hu9⟩ := hp
      rw [hu9] at h
      have er9 : r = qT X2 (qo X2 k) 3 := er9
      subst er9
      refine lv_isub hx hb dL_law_983 ?_
      refine lv_istore (lv' := [(30, .int (((10 * ((qT X2 (qf X2 k) 0) - (qT X2 (qo X2 k) 0))) + (qT X2 (qf X2 k) 3)) - (qT X2 (qo X2 k) 3))), (29, .int (qP X2 k 5)), (28, .int (nI k)), (27, .int (qmx (fun j => qP X2 j 6) (k + 1))), (26, .int (qsum (fun j => qP X2 j 4) (k + 1))), (25, .int (qsum (fun j => qP X2 j 6) (k + 1))), (24, .int (qsum (fun j => qT X2 j 3) (qt X))), (23, .int (qthc X2 (qt X))), (22, .int (qsum (fun j => qT X2 j 5) (qt X))), (18, .int (sumT X2 6 - sumT X 6)), (19, .int (sumP X2 7 - sumP X 7)), (20, .int (sumT X2 3)), (21, .int (sumP X2 4)), (15, .ref (za z (b + 2))), (14, .ref (za z (b + 1))), (13, .ref (za z (b + 0))), (5, .int (nI (qt X))), (6, .int (nI (qp X))), (7, .int (sumT X 3)), (8, .int (sumT X 4)), (9, .int (sumT X 6)), (10, .int (sumP X 7)), (11, .int (sumT X 7)), (12, .int (qD X)), (3, .int (nI i)), (2, .ref (za z 55)), (1, .ref (za z 0)), (0, .ref a0)]) hx hb dL_law_984 hl (by decide) rfl (fun ls hl => ?_)
      refine lv_aload_n hx hb dL_law_986 rfl (lv_at hl 26 rfl) ?_
      refine lv_iload hx hb dL_law_987 (lv_at hl 2 rfl) ?_
      refine lv_bipush (v := 8) hx hb dL_law_989 (by decide) ?_
      refine S_callVi C0 hK h (k_pipe hk2 k (by omega) 8 (by omega)) (cwV 2 hts gL_law_X1_pipe rfl rfl rfl (by decide +kernel) ⟨Nat.le_of_ble_eq_true rfl, Nat.le_of_ble_eq_true rfl⟩) (k := 0) (ci := 1) (by omega) (fun ct hA => hA.1.1) rfl rfl rfl hl.1 (rest := []) rfl (Nat.le_of_ble_eq_true rfl) hrm dL_law_991 (fun r u H locs hp h => ?_)
      obtain ⟨er9, hu9⟩ := hp
      rw [hu9] at h
      have er9 : r = canF X2 k := er9
      subst er9
      refine lv_istore (lv' := [(31, .int (canF X2 k)), (30, .int (((10 * ((qT X2 (qf X2 k) 0) - (qT X2 (qo X2 k) 0))) + (qT X2 (qf X2 k) 3)) - (qT X2 (qo X2 k) 3))), (29, .int (qP X2 k 5)), (28, .int (nI k)), (27, .int (qmx (fun j => qP X2 j 6) (k + 1))), (26, .int (qsum (fun j => qP X2 j 4) (k + 1))), (25, .int (qsum (fun j => qP X2 j 6) (k + 1))), (24, .int (qsum (fun j => qT X2 j 3) (qt X))), (23, .int (qthc X2 (qt X))), (22, .int (qsum (fun j => qT X2 j 5) (qt X))), (18, .int (sumT X2 6 - sumT X 6)), (19, .int (sumP X2 7 - sumP X 7)), (20, .int (sumT X2 3)), (21, .int (sumP X2 4)), (15, .ref (za z (b + 2))), (14, .ref (za z (b + 1))), (13, .ref (za z (b + 0))), (5, .int (nI (qt X))), (6, .int (nI (qp X))), (7, .int (sumT X 3)), (8, .int (sumT X 4)), (9, .int (sumT X 6)), (10, .int (sumP X 7)), (11, .int (sumT X 7)), (12, .int (qD X)), (3, .int (nI i)), (2, .ref (za z 55)), (1, .ref (za z 0)), (0, .ref a0)]) hx hb dL_law_994 hl (by decide) rfl (fun ls hl => ?_)
      refine lv_iload hx hb dL_law_996 (lv_at hl 1 rfl) ?_
      refine lv_if_gt (tgt := 1006) hx hb dL_law_998 (by decide) (fun c_998 => ?_) (fun c_998 => ?_)
      · refine lv_iload hx hb dL_law_1006 (lv_at hl 0 rfl) ?_
        refine lv_if_le (tgt := 1074) hx hb dL_law_1008 (by decide) (fun c_1008 => ?_) (fun c_1008 => ?_)
        · refine lv_iinc (v := nI (k + 1)) (lv' := [(28, .int (nI (k + 1))), (31, .int (canF X2 k)), (30, .int (((10 * ((qT X2 (qf X2 k) 0) - (qT X2 (qo X2 k) 0))) + (qT X2 (qf X2 k) 3)) - (qT X2 (qo X2 k) 3))), (29, .int (qP X2 k 5)), (27, .int (qmx (fun j => qP X2 j 6) (k + 1))), (26, .int (qsum (fun j => qP X2 j 4) (k + 1))), (25, .int (qsum (fun j => qP X2 j 6) (k + 1))), (24, .int (qsum (fun j => qT X2 j 3) (qt X))), (23, .int (qthc X2 (qt X))), (22, .int (qsum (fun j => qT X2 j 5) (qt X))), (18, .int (sumT X2 6 - sumT X 6)), (19, .int (sumP X2 7 - sumP X 7)), (20, .int (sumT X2 3)), (21, .int (sumP X2 4)), (15, .ref (za z (b + 2))), (14, .ref (za z (b + 1))), (13, .ref (za z (b + 0))), (5, .int (nI (qt X))), (6, .int (nI (qp X))), (7, .int (sumT X 3)), (8, .int (sumT X 4)), (9, .int (sumT X 6)), (10, .int (sumP X 7)), (11, .int (sumT X 7)), (12, .int (qD X)), (3, .int (nI i)), (2, .ref (za z 55)), (1, .ref (za z 0)), (0, .ref a0)]) hx hb dL_law_1074 hl (k := 3) rfl (q_inc k 1) (by decide) rfl (fun ls hl => ?_)
          refine lv_goto (tgt := 783) hx hb dL_law_1077 (by decide) ?_
          exact ih (k + 1) (by omega) Y _ _ _  h (lv_sub hl [0, 4, 5, 6, 7, 8, 9, 10, 11, 12, 13, 14, 15, 16, 17, 18, 19, 20, 21, 22, 23, 24, 25, 26, 27, 28] rfl)
        · refine lv_iload hx hb dL_law_1011 (lv_at hl 1 rfl) ?_
          refine lv_aload_n hx hb dL_law_1013 rfl (lv_at hl 27 rfl) ?_
          refine lv_iload hx hb dL_law_1014 (lv_at hl 3 rfl) ?_
          refine lv_iconst (v := 3) hx hb dL_law_1016 (by decide) ?_
          refine S_callVi C0 hK h (k_pipe hk2 k (by omega) 3 (by omega)) (cwV 2 hts gL_law_X1_pipe rfl rfl rfl (by decide +kernel) ⟨Nat.le_of_ble_eq_true rfl, Nat.le_of_ble_eq_true rfl⟩) (k := 0) (ci := 1) (by omega) (fun ct hA => hA.1.1) rfl rfl rfl hl.1 (rest := [.int (((10 * ((qT X2 (qf X2 k) 0) - (qT X2 (qo X2 k) 0))) + (qT X2 (qf X2 k) 3)) - (qT X2 (qo X2 k) 3))]) rfl (Nat.le_of_ble_eq_true rfl) hrm dL_law_1017 (fun r u H locs hp h => ?_)
          obtain ⟨er9, hu9⟩ := hp
          rw [hu9] at h
          have er9 : r = qP X2 k 3 := er9
          subst er9
          refine lv_icmp_lt (tgt := 1072) hx hb dL_law_1020 (by decide) (fun q9 => absurd q9 (Int32.not_lt.mpr (hc.2.1 (Int32.not_le.mp c_1008)).1)) (fun _ => ?_)
          refine lv_iload hx hb dL_law_1023 (lv_at hl 0 rfl) ?_
          refine lv_iload hx hb dL_law_1025 (lv_at hl 1 rfl) ?_
          refine lv_bipush (v := 10) hx hb dL_law_1027 (by decide) ?_
          refine lv_idiv hx hb dL_law_1029 (by decide) ?_
          refine lv_iconst (v := 1) hx hb dL_law_1030 (by decide) ?_
          refine lv_iadd hx hb dL_law_1031 ?_
          refine lv_icmp_gt (tgt := 1072) hx hb dL_law_1032 (by decide) (fun q9 => absurd q9 (Int32.not_lt.mpr (hc.2.1 (Int32.not_le.mp c_1008)).2.1)) (fun _ => ?_)
          refine lv_iload hx hb dL_law_1035 (lv_at hl 0 rfl) ?_
          refine lv_aload_n hx hb dL_law_1037 rfl (lv_at hl 27 rfl) ?_
          refine lv_aload_n hx hb dL_law_1038 rfl (lv_at hl 27 rfl) ?_
          refine lv_iload hx hb dL_law_1039 (lv_at hl 3 rfl) ?_
          refine lv_iconst (v := 0) hx hb dL_law_1041 (by decide) ?_
          refine S_callVi C0 hK h (k_pipe hk2 k (by omega) 0 (by omega)) (cwV 2 hts gL_law_X1_pipe rfl rfl rfl (by decide +kernel) ⟨Nat.le_of_ble_eq_true rfl, Nat.le_of_ble_eq_true rfl⟩) (k := 0) (ci := 1) (by omega) (fun ct hA => hA.1.1) rfl rfl rfl hl.1 (rest := [.ref (za z 0), .int (canF X2 k)]) rfl (Nat.le_of_ble_eq_true rfl) hrm dL_law_1042 (fun r u H locs hp h => ?_)
          obtain ⟨er9, hu9⟩ := hp
          rw [hu9] at h
          have er9 : r = qP X2 k 0 := er9
          subst er9
          refine lv_iconst (v := 3) hx hb dL_law_1045 (by decide) ?_
          refine S_callVi C0 hK h (k_tank hk2 (qf X2 k) (by omega) 3 (by omega)) (cwV 2 hts gL_law_X1_tank rfl rfl rfl (by decide +kernel) ⟨Nat.le_of_ble_eq_true rfl, Nat.le_of_ble_eq_true rfl⟩) (k := 0) (ci := 1) (by omega) (fun ct hA => hA.1.1) rfl rfl rfl hl.1 (rest := [.int (canF X2 k)]) (by rw [hF0]; rfl) (Nat.le_of_ble_eq_true rfl) hrm dL_law_1046 (fun r u H locs hp h => ?_)
          obtain ⟨er9, hu9⟩ := hp
          rw [hu9] at h
          have er9 : r = qT X2 (qf X2 k) 3 := er9
          subst er9
          refine lv_icmp_gt (tgt := 1072) hx hb dL_law_1049 (by decide) (fun q9 => absurd q9 (Int32.not_lt.mpr (hc.2.1 (Int32.not_le.mp c_1008)).2.2.1)) (fun _ => ?_)
          refine lv_iload hx hb dL_law_1052 (lv_at hl 0 rfl) ?_
          refine lv_aload_n hx hb dL_law_1054 rfl (lv_at hl 27 rfl) ?_
          refine lv_iload hx hb dL_law_1055 (lv_at hl 3 rfl) ?_
          refine lv_iconst (v := 2) hx hb dL_law_1057 (by decide) ?_
          refine S_callVi C0 hK h (k_pipe hk2 k (by omega) 2 (by omega)) (cwV 2 hts gL_law_X1_pipe rfl rfl rfl (by decide +kernel) ⟨Nat.le_of_ble_eq_true rfl, Nat.le_of_ble_eq_true rfl⟩) (k := 0) (ci := 1) (by omega) (fun ct hA => hA.1.1) rfl rfl rfl hl.1 (rest := [.int (canF X2 k)]) rfl (Nat.le_of_ble_eq_true rfl) hrm dL_law_1058 (fun r u H locs hp h => ?_)
          obtain ⟨er9, hu9⟩ := hp
          rw [hu9] at h
          have er9 : r = qP X2 k 2 := er9
          subst er9
          refine lv_aload_n hx hb dL_law_1061 rfl (lv_at hl 27 rfl) ?_
          refine lv_iload hx hb dL_law_1062 (lv_at hl 3 rfl) ?_
          refine lv_iconst (v := 4) hx hb dL_law_1064 (by decide) ?_
          refine S_callVi C0 hK h (k_pipe hk2 k (by omega) 4 (by omega)) (cwV 2 hts gL_law_X1_pipe rfl rfl rfl (by decide +kernel) ⟨Nat.le_of_ble_eq_true rfl, Nat.le_of_ble_eq_true rfl⟩) (k := 0) (ci := 1) (by omega) (fun ct hA => hA.1.1) rfl rfl rfl hl.1 (rest := [.int (qP X2 k 2), .int (canF X2 k)]) rfl (Nat.le_of_ble_eq_true rfl) hrm dL_law_1065 (fun r u H locs hp h => ?_)
          obtain ⟨er9, hu9⟩ := hp
          rw [hu9] at h
          have er9 : r = qP X2 k 4 := er9
          subst er9
          refine lv_isub hx hb dL_law_1068 ?_
          refine lv_icmp_le (tgt := 1074) hx hb dL_law_1069 (by decide) (fun _ => ?_) (fun q9 => absurd (hc.2.1 (Int32.not_le.mp c_1008)).2.2.2 q9)
          refine lv_iinc (v := nI (k + 1)) (lv' := [(28, .int (nI (k + 1))), (31, .int (canF X2 k)), (30, .int (((10 * ((qT X2 (qf X2 k) 0) - (qT X2 (qo X2 k) 0))) + (qT X2 (qf X2 k) 3)) - (qT X2 (qo X2 k) 3))), (29, .int (qP X2 k 5)), (27, .int (qmx (fun j => qP X2 j 6) (k + 1))), (26, .int (qsum (fun j => qP X2 j 4) (k + 1))), (25, .int (qsum (fun j => qP X2 j 6) (k + 1))), (24, .int (qsum (fun j => qT X2 j 3) (qt X))), (23, .int (qthc X2 (qt X))), (22, .int (qsum (fun j => qT X2 j 5) (qt X))), (18, .int (sumT X2 6 - sumT X 6)), (19, .int (sumP X2 7 - sumP X 7)), (20, .int (sumT X2 3)), (21, .int (sumP X2 4)), (15, .ref (za z (b + 2))), (14, .ref (za z (b + 1))), (13, .ref (za z (b + 0))), (5, .int (nI (qt X))), (6, .int (nI (qp X))), (7, .int (sumT X 3)), (8, .int (sumT X 4)), (9, .int (sumT X 6)), (10, .int (sumP X 7)), (11, .int (sumT X 7)), (12, .int (qD X)), (3, .int (nI i)), (2, .ref (za z 55)), (1, .ref (za z 0)), (0, .ref a0)]) hx hb dL_law_1074 hl (k := 3) rfl (q_inc k 1) (by decide) rfl (fun ls hl => ?_)
          refine lv_goto (tgt := 783) hx hb dL_law_1077 (by decide) ?_
          exact ih (k + 1) (by omega) Y _ _ _  h (lv_sub hl [0, 4, 5, 6, 7, 8, 9, 10, 11, 12, 13, 14, 15, 16, 17, 18, 19, 20, 21, 22, 23, 24, 25, 26, 27, 28] rfl)
      · refine lv_iload hx hb dL_law_1001 (lv_at hl 0 rfl) ?_
        refine lv_if_ne (tgt := 1072) hx hb dL_law_1003 (by decide) (fun q9 => absurd (hc.1 (Int32.not_lt.mp c_998)) q9) (fun _ => ?_)
        refine lv_iload hx hb dL_law_1006 (lv_at hl 0 rfl) ?_
        refine lv_if_le (tgt := 1074) hx hb dL_law_1008 (by decide) (fun c_1008 => ?_) (fun c_1008 => ?_)
        · refine lv_iinc (v := nI (k + 1)) (lv' := [(28, .int (nI (k + 1))), (31, .int (canF X2 k)), (30, .int (((10 * ((qT X2 (qf X2 k) 0) - (qT X2 (qo X2 k) 0))) + (qT X2 (qf X2 k) 3)) - (qT X2 (qo X2 k) 3))), (29, .int (qP X2 k 5)), (27, .int (qmx (fun j => qP X2 j 6) (k + 1))), (26, .int (qsum (fun j => qP X2 j 4) (k + 1))), (25, .int (qsum (fun j => qP X2 j 6) (k + 1))), (24, .int (qsum (fun j => qT X2 j 3) (qt X))), (23, .int (qthc X2 (qt X))), (22, .int (qsum (fun j => qT X2 j 5) (qt X))), (18, .int (sumT X2 6 - sumT X 6)), (19, .int (sumP X2 7 - sumP X 7)), (20, .int (sumT X2 3)), (21, .int (sumP X2 4)), (15, .ref (za z (b + 2))), (14, .ref (za z (b + 1))), (13, .ref (za z (b + 0))), (5, .int (nI (qt X))), (6, .int (nI (qp X))), (7, .int (sumT X 3)), (8, .int (sumT X 4)), (9, .int (sumT X 6)), (10, .int (sumP X 7)), (11, .int (sumT X 7)), (12, .int (qD X)), (3, .int (nI i)), (2, .ref (za z 55)), (1, .ref (za z 0)), (0, .ref a0)]) hx hb dL_law_1074 hl (k := 3) rfl (q_inc k 1) (by decide) rfl (fun ls hl => ?_)
          refine lv_goto (tgt := 783) hx hb dL_law_1077 (by decide) ?_
          exact ih (k + 1) (by omega) Y _ _ _  h (lv_sub hl [0, 4, 5, 6, 7, 8, 9, 10, 11, 12, 13, 14, 15, 16, 17, 18, 19, 20, 21, 22, 23, 24, 25, 26, 27, 28] rfl)
        · refine lv_iload hx hb dL_law_1011 (lv_at hl 1 rfl) ?_
          refine lv_aload_n hx hb dL_law_1013 rfl (lv_at hl 27 rfl) ?_
          refine lv_iload hx hb dL_law_1014 (lv_at hl 3 rfl) ?_
          refine lv_iconst (v := 3) hx hb dL_law_1016 (by decide) ?_
          refine S_callVi C0 hK h (k_pipe hk2 k (by omega) 3 (by omega)) (cwV 2 hts gL_law_X1_pipe rfl rfl rfl (by decide +kernel) ⟨Nat.le_of_ble_eq_true rfl, Nat.le_of_ble_eq_true rfl⟩) (k := 0) (ci := 1) (by omega) (fun ct hA => hA.1.1) rfl rfl rfl hl.1 (rest := [.int (((10 * ((qT X2 (qf X2 k) 0) - (qT X2 (qo X2 k) 0))) + (qT X2 (qf X2 k) 3)) - (qT X2 (qo X2 k) 3))]) rfl (Nat.le_of_ble_eq_true rfl) hrm dL_law_1017 (fun r u H locs hp h => ?_)
          obtain ⟨er9, hu9⟩ := hp
          rw [hu9] at h
          have er9 : r = qP X2 k 3 := er9
          subst er9
          refine lv_icmp_lt (tgt := 1072) hx hb dL_law_1020 (by decide) (fun q9 => absurd q9 (Int32.not_lt.mpr (hc.2.1 (Int32.not_le.mp c_1008)).1)) (fun _ => ?_)
          refine lv_iload hx hb dL_law_1023 (lv_at hl 0 rfl) ?_
          refine lv_iload hx hb dL_law_1025 (lv_at hl 1 rfl) ?_
          refine lv_bipush (v := 10) hx hb dL_law_1027 (by decide) ?_
          refine lv_idiv hx hb dL_law_1029 (by decide) ?_
          refine lv_iconst (v := 1) hx hb dL_law_1030 (by decide) ?_
          refine lv_iadd hx hb dL_law_1031 ?_
          refine lv_icmp_gt (tgt := 1072) hx hb dL_law_1032 (by decide) (fun q9 => absurd q9 (Int32.not_lt.mpr (hc.2.1 (Int32.not_le.mp c_1008)).2.1)) (fun _ => ?_)
          refine lv_iload hx hb dL_law_1035 (lv_at hl 0 rfl) ?_
          refine lv_aload_n hx hb dL_law_1037 rfl (lv_at hl 27 rfl) ?_
          refine lv_aload_n hx hb dL_law_1038 rfl (lv_at hl 27 rfl) ?_
          refine lv_iload hx hb dL_law_1039 (lv_at hl 3 rfl) ?_
          refine lv_iconst (v := 0) hx hb dL_law_1041 (by decide) ?_
          refine S_callVi C0 hK h (k_pipe hk2 k (by omega) 0 (by omega)) (cwV 2 hts gL_law_X1_pipe rfl rfl rfl (by decide +kernel) ⟨Nat.le_of_ble_eq_true rfl, Nat.le_of_ble_eq_true rfl⟩) (k := 0) (ci := 1) (by omega) (fun ct hA => hA.1.1) rfl rfl rfl hl.1 (rest := [.ref (za z 0), .int (canF X2 k)]) rfl (Nat.le_of_ble_eq_true rfl) hrm dL_law_1042 (fun r u H locs hp h => ?_)
          obtain ⟨er9, hu9⟩ := hp
          rw [hu9] at h
          have er9 : r = qP X2 k 0 := er9
          subst er9
          refine lv_iconst (v := 3) hx hb dL_law_1045 (by decide) ?_
          refine S_callVi C0 hK h (k_tank hk2 (qf X2 k) (by omega) 3 (by omega)) (cwV 2 hts gL_law_X1_tank rfl rfl rfl (by decide +kernel) ⟨Nat.le_of_ble_eq_true rfl, Nat.le_of_ble_eq_true rfl⟩) (k := 0) (ci := 1) (by omega) (fun ct hA => hA.1.1) rfl rfl rfl hl.1 (rest := [.int (canF X2 k)]) (by rw [hF0]; rfl) (Nat.le_of_ble_eq_true rfl) hrm dL_law_1046 (fun r u H locs hp h => ?_)
          obtain ⟨er9, hu9⟩ := hp
          rw [hu9] at h
          have er9 : r = qT X2 (qf X2 k) 3 := er9
          subst er9
          refine lv_icmp_gt (tgt := 1072) hx hb dL_law_1049 (by decide) (fun q9 => absurd q9 (Int32.not_lt.mpr (hc.2.1 (Int32.not_le.mp c_1008)).2.2.1)) (fun _ => ?_)
          refine lv_iload hx hb dL_law_1052 (lv_at hl 0 rfl) ?_
          refine lv_aload_n hx hb dL_law_1054 rfl (lv_at hl 27 rfl) ?_
          refine lv_iload hx hb dL_law_1055 (lv_at hl 3 rfl) ?_
          refine lv_iconst (v := 2) hx hb dL_law_1057 (by decide) ?_
          refine S_callVi C0 hK h (k_pipe hk2 k (by omega) 2 (by omega)) (cwV 2 hts gL_law_X1_pipe rfl rfl rfl (by decide +kernel) ⟨Nat.le_of_ble_eq_true rfl, Nat.le_of_ble_eq_true rfl⟩) (k := 0) (ci := 1) (by omega) (fun ct hA => hA.1.1) rfl rfl rfl hl.1 (rest := [.int (canF X2 k)]) rfl (Nat.le_of_ble_eq_true rfl) hrm dL_law_1058 (fun r u H locs hp h => ?_)
          obtain ⟨er9, hu9⟩ := hp
          rw [hu9] at h
          have er9 : r = qP X2 k 2 := er9
          subst er9
          refine lv_aload_n hx hb dL_law_1061 rfl (lv_at hl 27 rfl) ?_
          refine lv_iload hx hb dL_law_1062 (lv_at hl 3 rfl) ?_
          refine lv_iconst (v := 4) hx hb dL_law_1064 (by decide) ?_
          refine S_callVi C0 hK h (k_pipe hk2 k (by omega) 4 (by omega)) (cwV 2 hts gL_law_X1_pipe rfl rfl rfl (by decide +kernel) ⟨Nat.le_of_ble_eq_true rfl, Nat.le_of_ble_eq_true rfl⟩) (k := 0) (ci := 1) (by omega) (fun ct hA => hA.1.1) rfl rfl rfl hl.1 (rest := [.int (qP X2 k 2), .int (canF X2 k)]) rfl (Nat.le_of_ble_eq_true rfl) hrm dL_law_1065 (fun r u H locs hp h => ?_)
          obtain ⟨er9, hu9⟩ := hp
          rw [hu9] at h
          have er9 : r = qP X2 k 4 := er9
          subst er9
          refine lv_isub hx hb dL_law_1068 ?_
          refine lv_icmp_le (tgt := 1074) hx hb dL_law_1069 (by decide) (fun _ => ?_) (fun q9 => absurd (hc.2.1 (Int32.not_le.mp c_1008)).2.2.2 q9)
          refine lv_iinc (v := nI (k + 1)) (lv' := [(28, .int (nI (k + 1))), (31, .int (canF X2 k)), (30, .int (((10 * ((qT X2 (qf X2 k) 0) - (qT X2 (qo X2 k) 0))) + (qT X2 (qf X2 k) 3)) - (qT X2 (qo X2 k) 3))), (29, .int (qP X2 k 5)), (27, .int (qmx (fun j => qP X2 j 6) (k + 1))), (26, .int (qsum (fun j => qP X2 j 4) (k + 1))), (25, .int (qsum (fun j => qP X2 j 6) (k + 1))), (24, .int (qsum (fun j => qT X2 j 3) (qt X))), (23, .int (qthc X2 (qt X))), (22, .int (qsum (fun j => qT X2 j 5) (qt X))), (18, .int (sumT X2 6 - sumT X 6)), (19, .int (sumP X2 7 - sumP X 7)), (20, .int (sumT X2 3)), (21, .int (sumP X2 4)), (15, .ref (za z (b + 2))), (14, .ref (za z (b + 1))), (13, .ref (za z (b + 0))), (5, .int (nI (qt X))), (6, .int (nI (qp X))), (7, .int (sumT X 3)), (8, .int (sumT X 4)), (9, .int (sumT X 6)), (10, .int (sumP X 7)), (11, .int (sumT X 7)), (12, .int (qD X)), (3, .int (nI i)), (2, .ref (za z 55)), (1, .ref (za z 0)), (0, .ref a0)]) hx hb dL_law_1074 hl (k := 3) rfl (q_inc k 1) (by decide) rfl (fun ls hl => ?_)
          refine lv_goto (tgt := 783) hx hb dL_law_1077 (by decide) ?_
          exact ih (k + 1) (by omega) Y _ _ _  h (lv_sub hl [0, 4, 5, 6, 7, 8, 9, 10, 11, 12, 13, 14, 15, 16, 17, 18, 19, 20, 21, 22, 23, 24, 25, 26, 27, 28] rfl)
    refine lv_aload_n hx hb dL_law_890 rfl (lv_at hl 25 rfl) ?_
    refine lv_iload hx hb dL_law_891 (lv_at hl 4 rfl) ?_
    refine lv_iconst (v := 4) hx hb dL_law_893 (by decide) ?_
    refine S_callVi C0 hK h (k_pipe hk2 k (by omega) 4 (by omega)) (cwV 2 hts gL_law_X1_pipe rfl rfl rfl (by decide +kernel) ⟨Nat.le_of_ble_eq_true rfl, Nat.le_of_ble_eq_true rfl⟩) (k := 0) (ci := 1) (by omega) (fun ct hA => hA.1.1) rfl rfl rfl hl.1 (rest := []) rfl (Nat.le_of_ble_eq_true rfl) hrm dL_law_894 (fun r u H locs hp h => ?_)
    obtain ⟨er9, hu9⟩ := hp
    rw [hu9] at h
    have er9 : r = qP X2 k 4 := er9
    subst er9
    refine lv_bipush (v := 20) hx hb dL_law_897 (by decide) ?_
    refine lv_aload hx hb dL_law_899 (lv_at hl 14 rfl) ?_
    refine lv_iload hx hb dL_law_901 (lv_at hl 4 rfl) ?_
    refine U_il2 C0 hK h (j := 0) (i := k) (by omega) hf0 rfl (by omega) (by omega) dL_law_903 ?_
    refine lv_iload hx hb dL_law_904 (lv_at hl 22 rfl) ?_
    refine lv_iconst (v := 4) hx hb dL_law_906 (by decide) ?_
    refine lv_irem hx hb dL_law_907 (by decide) ?_
    refine lv_if_ne (tgt := 920) hx hb dL_law_908 (by decide) (fun c_908 => ?_) (fun c_908 => ?_)
    · refine lv_iconst (v := 0) hx hb dL_law_920 (by decide) ?_
      refine lv_iadd hx hb dL_law_921 ?_
      refine G_mmin C0 hl.1 (by decide +kernel) (by decide +kernel) (by decide +kernel) (by decide +kernel) ⟨Nat.le_of_ble_eq_true rfl, Nat.le_of_ble_eq_true rfl, hrm.1, hrm.2⟩ dL_law_922 ?_
      refine lv_icmp_eq (tgt := 930) hx hb dL_law_925 (by decide) (fun _ => ?_) (fun q9 => absurd (by rw [hg0 k (by omega)]; exact hp.2.2.2.2.2.1 (Or.inl c_908)) q9)
      exact J930_1 Y _ _ _ h (lv_sub hl [3, 4, 0, 1, 2, 5, 6, 7, 8, 9, 10, 11, 12, 13, 14, 15, 16, 17, 18, 19, 20, 21, 22, 23, 24, 25, 26] rfl)
    · refine lv_iload hx hb dL_law_911 (lv_at hl 3 rfl) ?_
      refine lv_if_le (tgt := 920) hx hb dL_law_913 (by decide) (fun c_913 => ?_) (fun c_913 => ?_)
      · refine lv_iconst (v := 0) hx hb dL_law_920 (by decide) ?_
        refine lv_iadd hx hb dL_law_921 ?_
        refine G_mmin C0 hl.1 (by decide +kernel) (by decide +kernel) (by decide +kernel) (by decide +kernel) ⟨Nat.le_of_ble_eq_true rfl, Nat.le_of_ble_eq_true rfl, hrm.1, hrm.2⟩ dL_law_922 ?_
        refine lv_icmp_eq (tgt := 930) hx hb dL_law_925 (by decide) (fun _ => ?_) (fun q9 => absurd (by rw [hg0 k (by omega)]; exact hp.2.2.2.2.2.1 (Or.inr (Int32.not_lt.mpr c_913))) q9)
        exact J930_1 Y _ _ _ h (lv_sub hl [3, 4, 0, 1, 2, 5, 6, 7, 8, 9, 10, 11, 12, 13, 14, 15, 16, 17, 18, 19, 20, 21, 22, 23, 24, 25, 26] rfl)
      · refine lv_iconst (v := 1) hx hb dL_law_916 (by decide) ?_
        refine lv_goto (tgt := 921) hx hb dL_law_917 (by decide) ?_
        refine lv_iadd hx hb dL_law_921 ?_
        refine G_mmin C0 hl.1 (by decide +kernel) (by decide +kernel) (by decide +kernel) (by decide +kernel) ⟨Nat.le_of_ble_eq_true rfl, Nat.le_of_ble_eq_true rfl, hrm.1, hrm.2⟩ dL_law_922 ?_
        refine lv_icmp_eq (tgt := 930) hx hb dL_law_925 (by decide) (fun _ => ?_) (fun q9 => absurd (by rw [hg0 k (by omega)]; exact hp.2.2.2.2.1 c_908 (Int32.not_le.mp c_913)) q9)
        exact J930_1 Y _ _ _ h (lv_sub hl [3, 4, 0, 1, 2, 5, 6, 7, 8, 9, 10, 11, 12, 13, 14, 15, 16, 17, 18, 19, 20, 21, 22, 23, 24, 25, 26] rfl)
