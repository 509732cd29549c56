/-! PART 30: the reference's build and lay -/
def mBuild (M : QMs) (x y v : Int32) : QMs := ut (uA M (va_cpy (upd (upd (upd (upd (upd (upd (upd (upd (fun _ => 0) 0 x) 1 y) 2 v) 3 0) 4 0) 5 0) 6 0) 7 0) (mA M) 0 (8 * mt_ M) 8)) (mt_ M + 1)
def mLay (M : QMs) (i j : Nat) (x y : Int32) : QMs := up_ (uB M (va_cpy (upd (upd (upd (upd (upd (upd (upd (upd (upd (fun _ => 0) 0 (nI i)) 1 (nI j)) 2 x) 3 y) 4 0) 5 0) 6 0) 7 0) 8 0) (mB M) 0 (9 * mp_ M) 9)) (mp_ M + 1)
set_option maxHeartbeats 4000000 in
set_option maxRecDepth 100000 in
theorem c_X2_build_ok (l : Launch) (z : QZ) (M : QMs) (hk : MOk M) (ht : mt_ M < 10) (x y v : Int32) (h9 : (0 ≤ x ∧ x ≤ 99) ∧ (0 ≤ y ∧ y ≤ 20) ∧ (0 ≤ v ∧ v ≤ 20)) : GI l yX2_build wsX2_build ({ frames := 1, cells := 1, slots := 8, locals := 60 } : Room) z [.ref (za z 55), .int x, .int y, .int v] 1 8 (MAt z) 55 59 M (fun r M' => r = nI (mt_ M) ∧ M' = mBuild (uh M 0) x y v) := by
  intro ct sz hn hq hat
  refine q_entry (lo := 55) (cc := cX2_build) (maxL := 5) (ret := (some .int)) (by decide) rfl (Nat.le_of_ble_eq_true rfl) hn hq hat ?_
  intro p e s m below meth c ls C0 hK hsz h hl
  subst hsz
  obtain ⟨hx, hb, hr, hml, hown, hts, hlocks⟩ := id C0
  have hin2 : ∀ w ∈ u_ws RX2 TX2 6, w ∈ wsX2_build := by decide +kernel
  have hl : lv_has ls 5 [(0, .ref (za z 55)), (1, .int x), (2, .int y), (3, .int v)] := hl
  have hk1 := hk.1
  have hk2 := hk.2.1
  refine lv_aload_n hx hb dX2_build_0 rfl (lv_at hl 0 rfl) ?_
  refine lv_iconst (v := 0) hx hb dX2_build_1 (by decide) ?_
  refine N_ph C0 hK h hin2 (by decide +kernel) dX2_build_2 (fun H locs M1 eM1 h => ?_)
  subst eM1
  refine lv_iload_n hx hb dX2_build_5 rfl (lv_at hl 1 rfl) ?_
  refine lv_iconst (v := 0) hx hb dX2_build_6 (by decide) ?_
  refine lv_bipush (v := 99) hx hb dX2_build_7 (by decide) ?_
  refine S_callSi C0 hK h (c_X2_isIn l z (uh M 0) x 0 99) (va_cwS 3 hts gX2_build_X2_isIn rfl rfl rfl (by decide +kernel) ⟨Nat.le_of_ble_eq_true rfl, Nat.le_of_ble_eq_true rfl⟩) rfl hl.1 (rest := []) rfl (Nat.le_of_ble_eq_true rfl) ⟨Nat.le_of_ble_eq_true rfl, Nat.le_of_ble_eq_true rfl⟩ dX2_build_9 (fun r u H locs hp h => ?_)
  obtain ⟨hr9, hu9⟩ := hp
  have hr9 := hr9.trans (if_pos h9.1)
  subst hr9
  rw [hu9] at h
  refine lv_if_eq (tgt := 35) hx hb dX2_build_12 (by decide) (fun q9 => absurd q9 (by decide)) (fun _ => ?_)
  refine lv_iload_n hx hb dX2_build_15 rfl (lv_at hl 2 rfl) ?_
  refine lv_iconst (v := 0) hx hb dX2_build_16 (by decide) ?_
  refine lv_bipush (v := 20) hx hb dX2_build_17 (by decide) ?_
  refine S_callSi C0 hK h (c_X2_isIn l z (uh M 0) y 0 20) (va_cwS 3 hts gX2_build_X2_isIn rfl rfl rfl (by decide +kernel) ⟨Nat.le_of_ble_eq_true rfl, Nat.le_of_ble_eq_true rfl⟩) rfl hl.1 (rest := []) rfl (Nat.le_of_ble_eq_true rfl) ⟨Nat.le_of_ble_eq_true rfl, Nat.le_of_ble_eq_true rfl⟩ dX2_build_19 (fun r u H locs hp h => ?_)
  obtain ⟨hr9, hu9⟩ := hp
  have hr9 := hr9.trans (if_pos h9.2.1)
  subst hr9
  rw [hu9] at h
  refine lv_if_eq (tgt := 35) hx hb dX2_build_22 (by decide) (fun q9 => absurd q9 (by decide)) (fun _ => ?_)
  refine lv_iload_n hx hb dX2_build_25 rfl (lv_at hl 3 rfl) ?_
  refine lv_iconst (v := 0) hx hb dX2_build_26 (by decide) ?_
  refine lv_bipush (v := 20) hx hb dX2_build_27 (by decide) ?_
  refine S_callSi C0 hK h (c_X2_isIn l z (uh M 0) v 0 20) (va_cwS 3 hts gX2_build_X2_isIn rfl rfl rfl (by decide +kernel) ⟨Nat.le_of_ble_eq_true rfl, Nat.le_of_ble_eq_true rfl⟩) rfl hl.1 (rest := []) rfl (Nat.le_of_ble_eq_true rfl) ⟨Nat.le_of_ble_eq_true rfl, Nat.le_of_ble_eq_true rfl⟩ dX2_build_29 (fun r u H locs hp h => ?_)
  obtain ⟨hr9, hu9⟩ := hp
  have hr9 := hr9.trans (if_pos h9.2.2)
  subst hr9
  rw [hu9] at h
  refine lv_if_ne (tgt := 41) hx hb dX2_build_32 (by decide) (fun _ => ?_) (fun q9 => absurd q9 (by decide))
  refine lv_aload_n hx hb dX2_build_41 rfl (lv_at hl 0 rfl) ?_
  refine M_g C0 hK h hin2 1 (by decide) (by decide +kernel) rfl dX2_build_42 ?_
  refine lv_bipush (v := 10) hx hb dX2_build_45 (by decide) ?_
  refine lv_icmp_ne (tgt := 56) hx hb dX2_build_47 (by decide) (fun _ => ?_) (fun q9 => absurd q9 (fun q => by have := q_nIc (k := mt_ M) 10 q (by omega); omega))
  refine lv_bipush (v := 8) hx hb dX2_build_56 (by decide) ?_
  refine G_newi C0 hK h (by decide +kernel) (n := 8) rfl (by decide) (Nat.le_of_ble_eq_true rfl) (Nat.le_of_ble_eq_true rfl) dX2_build_58 (fun zk c1 H hKk hz1 h59 hag h back => ?_)
  have hag5 := hag 55 (by omega)
  have hl : lv_has ls 5 [(0, .ref (za zk 55)), (1, .int x), (2, .int y), (3, .int v)] := by rw [hag5]; exact hl
  refine lv_dup hx hb dX2_build_60 rfl ?_
  refine lv_iconst (v := 0) hx hb dX2_build_61 (by decide) ?_
  refine lv_iload_n hx hb dX2_build_62 rfl (lv_at hl 1 rfl) ?_
  refine G_iastN C0 hKk h (k := zn z) (by omega) (fun ct hA => hA.2.1) (j := 0) rfl (by decide) (by decide) (f2 := (upd (fun _ => 0) 0 x)) (fun _ _ => rfl) (a' := ((uh M 0), (upd (fun _ => 0) 0 x))) (fun ct hA => hA.st h59) dX2_build_63 (fun H locs h => ?_)
  refine lv_dup hx hb dX2_build_64 rfl ?_
  refine lv_iconst (v := 1) hx hb dX2_build_65 (by decide) ?_
  refine lv_iload_n hx hb dX2_build_66 rfl (lv_at hl 2 rfl) ?_
  refine G_iastN C0 hKk h (k := zn z) (by omega) (fun ct hA => hA.2.1) (j := 1) rfl (by decide) (by decide) (f2 := (upd (upd (fun _ => 0) 0 x) 1 y)) (fun _ _ => rfl) (a' := ((uh M 0), (upd (upd (fun _ => 0) 0 x) 1 y))) (fun ct hA => hA.st h59) dX2_build_67 (fun H locs h => ?_)
  refine lv_dup hx hb dX2_build_68 rfl ?_
  refine lv_iconst (v := 2) hx hb dX2_build_69 (by decide) ?_
  refine lv_iload_n hx hb dX2_build_70 rfl (lv_at hl 3 rfl) ?_
  refine G_iastN C0 hKk h (k := zn z) (by omega) (fun ct hA => hA.2.1) (j := 2) rfl (by decide) (by decide) (f2 := (upd (upd (upd (fun _ => 0) 0 x) 1 y) 2 v)) (fun _ _ => rfl) (a' := ((uh M 0), (upd (upd (upd (fun _ => 0) 0 x) 1 y) 2 v))) (fun ct hA => hA.st h59) dX2_build_71 (fun H locs h => ?_)
  refine lv_dup hx hb dX2_build_72 rfl ?_
  refine lv_iconst (v := 3) hx hb dX2_build_73 (by decide) ?_
  refine lv_iconst (v := 0) hx hb dX2_build_74 (by decide) ?_
  refine G_iastN C0 hKk h (k := zn z) (by omega) (fun ct hA => hA.2.1) (j := 3) rfl (by decide) (by decide) (f2 := (upd (upd (upd (upd (fun _ => 0) 0 x) 1 y) 2 v) 3 0)) (fun _ _ => rfl) (a' := ((uh M 0), (upd (upd (upd (upd (fun _ => 0) 0 x) 1 y) 2 v) 3 0))) (fun ct hA => hA.st h59) dX2_build_75 (fun H locs h => ?_)
  refine lv_dup hx hb dX2_build_76 rfl ?_
  refine lv_iconst (v := 4) hx hb dX2_build_77 (by decide) ?_
  refine lv_iconst (v := 0) hx hb dX2_build_78 (by decide) ?_
  refine G_iastN C0 hKk h (k := zn z) (by omega) (fun ct hA => hA.2.1) (j := 4) rfl (by decide) (by decide) (f2 := (upd (upd (upd (upd (upd (fun _ => 0) 0 x) 1 y) 2 v) 3 0) 4 0)) (fun _ _ => rfl) (a' := ((uh M 0), (upd (upd (upd (upd (upd (fun _ => 0) 0 x) 1 y) 2 v) 3 0) 4 0))) (fun ct hA => hA.st h59) dX2_build_79 (fun H locs h => ?_)
  refine lv_dup hx hb dX2_build_80 rfl ?_
  refine lv_iconst (v := 5) hx hb dX2_build_81 (by decide) ?_
  refine lv_iconst (v := 0) hx hb dX2_build_82 (by decide) ?_
  refine G_iastN C0 hKk h (k := zn z) (by omega) (fun ct hA => hA.2.1) (j := 5) rfl (by decide) (by decide) (f2 := (upd (upd (upd (upd (upd (upd (fun _ => 0) 0 x) 1 y) 2 v) 3 0) 4 0) 5 0)) (fun _ _ => rfl) (a' := ((uh M 0), (upd (upd (upd (upd (upd (upd (fun _ => 0) 0 x) 1 y) 2 v) 3 0) 4 0) 5 0))) (fun ct hA => hA.st h59) dX2_build_83 (fun H locs h => ?_)
  refine lv_dup hx hb dX2_build_84 rfl ?_
  refine lv_bipush (v := 6) hx hb dX2_build_85 (by decide) ?_
  refine lv_iconst (v := 0) hx hb dX2_build_87 (by decide) ?_
  refine G_iastN C0 hKk h (k := zn z) (by omega) (fun ct hA => hA.2.1) (j := 6) rfl (by decide) (by decide) (f2 := (upd (upd (upd (upd (upd (upd (upd (fun _ => 0) 0 x) 1 y) 2 v) 3 0) 4 0) 5 0) 6 0)) (fun _ _ => rfl) (a' := ((uh M 0), (upd (upd (upd (upd (upd (upd (upd (fun _ => 0) 0 x) 1 y) 2 v) 3 0) 4 0) 5 0) 6 0))) (fun ct hA => hA.st h59) dX2_build_88 (fun H locs h => ?_)
  refine lv_dup hx hb dX2_build_89 rfl ?_
  refine lv_bipush (v := 7) hx hb dX2_build_90 (by decide) ?_
  refine lv_iconst (v := 0) hx hb dX2_build_92 (by decide) ?_
  refine G_iastN C0 hKk h (k := zn z) (by omega) (fun ct hA => hA.2.1) (j := 7) rfl (by decide) (by decide) (f2 := (upd (upd (upd (upd (upd (upd (upd (upd (fun _ => 0) 0 x) 1 y) 2 v) 3 0) 4 0) 5 0) 6 0) 7 0)) (fun _ _ => rfl) (a' := ((uh M 0), (upd (upd (upd (upd (upd (upd (upd (upd (fun _ => 0) 0 x) 1 y) 2 v) 3 0) 4 0) 5 0) 6 0) 7 0))) (fun ct hA => hA.st h59) dX2_build_93 (fun H locs h => ?_)
  refine lv_astore (lv' := [(4, .ref (za zk (zn z))), (0, .ref (za zk 55)), (1, .int x), (2, .int y), (3, .int v)]) hx hb dX2_build_94 hl (by decide) rfl (fun ls hl => ?_)
  refine lv_aload hx hb dX2_build_96 (lv_at hl 0 rfl) ?_
  refine lv_iconst (v := 0) hx hb dX2_build_98 (by decide) ?_
  refine lv_aload_n hx hb dX2_build_99 rfl (lv_at hl 1 rfl) ?_
  refine G_get C0 hKk h hin2 2 rfl (by omega) (fun ct hA => hA.1.1) 3 (by decide) (by decide +kernel) (v := .ref (za zk 56)) rfl dX2_build_100 ?_
  refine lv_bipush (v := 8) hx hb dX2_build_103 (by decide) ?_
  refine lv_aload_n hx hb dX2_build_105 rfl (lv_at hl 1 rfl) ?_
  refine G_get C0 hKk h hin2 2 rfl (by omega) (fun ct hA => hA.1.1) 1 (by decide) (by decide +kernel) (v := .int (nI (mt_ M))) rfl dX2_build_106 ?_
  refine lv_imul hx hb dX2_build_109 ?_
  refine lv_bipush (v := 8) hx hb dX2_build_110 (by decide) ?_
  refine G_copyN C0 hKk hl.1 h (k0 := zn z) (k1 := 56) (n0 := 8) (n1 := 80) (sp := 0) (dp := (8 * (mt_ M))) (n := 8) (by omega) (by omega) (fun ct hA => hA.2.1) (fun ct hA => hA.1.2.1) rfl (q_mul rfl rfl) rfl (by omega) (by omega) (by omega) (by omega) (f2 := (va_cpy (upd (upd (upd (upd (upd (upd (upd (upd (fun _ => 0) 0 x) 1 y) 2 v) 3 0) 4 0) 5 0) 6 0) 7 0) (mA (uh M 0)) 0 (8 * (mt_ M)) 8)) (fun _ _ => rfl) (a' := ((uA (uh M 0) (va_cpy (upd (upd (upd (upd (upd (upd (upd (upd (fun _ => 0) 0 x) 1 y) 2 v) 3 0) 4 0) 5 0) 6 0) 7 0) (mA (uh M 0)) 0 (8 * (mt_ M)) 8)), (upd (upd (upd (upd (upd (upd (upd (upd (fun _ => 0) 0 x) 1 y) 2 v) 3 0) 4 0) 5 0) 6 0) 7 0))) (fun ct hA => hA.up (by omega) h59 (hA.1.A _)) (by decide +kernel) (by decide +kernel) (by decide +kernel) (by decide +kernel) (by decide) dX2_build_112 (fun H locs h => ?_)
  refine lv_aload_n hx hb dX2_build_115 rfl (lv_at hl 1 rfl) ?_
  refine lv_dup hx hb dX2_build_116 rfl ?_
  refine G_get C0 hKk h hin2 2 rfl (by omega) (fun ct hA => hA.1.1) 1 (by decide) (by decide +kernel) (v := .int (nI (mt_ M))) rfl dX2_build_117 ?_
  refine lv_iconst (v := 1) hx hb dX2_build_120 (by decide) ?_
  refine lv_iadd hx hb dX2_build_121 ?_
  rw [show ((nI (mt_ M)) + 1) = nI ((mt_ M) + 1) from (q_add rfl rfl)]
  refine G_put C0 hKk h hin2 2 rfl tyX2 tyX2_ok nmX2 (by omega) (fun ct hA => hA.1.1) 1 (by omega) (by decide +kernel) rfl rfl (show 1 < 6 by omega) (a' := ((ut (uA (uh M 0) (va_cpy (upd (upd (upd (upd (upd (upd (upd (upd (fun _ => 0) 0 x) 1 y) 2 v) 3 0) 4 0) 5 0) 6 0) 7 0) (mA (uh M 0)) 0 (8 * (mt_ M)) 8)) ((mt_ M) + 1)), (upd (upd (upd (upd (upd (upd (upd (upd (fun _ => 0) 0 x) 1 y) 2 v) 3 0) 4 0) 5 0) 6 0) 7 0))) (fun ct hA => hA.up (by omega) h59 (hA.1.t _)) dX2_build_122 (fun H locs h => ?_)
  refine lv_aload_n hx hb dX2_build_125 rfl (lv_at hl 1 rfl) ?_
  refine G_get C0 hKk h hin2 2 rfl (by omega) (fun ct hA => hA.1.1) 1 (by decide) (by decide +kernel) (v := .int (nI ((mt_ M) + 1))) rfl dX2_build_126 ?_
  refine lv_iconst (v := 1) hx hb dX2_build_129 (by decide) ?_
  refine lv_isub hx hb dX2_build_130 ?_
  have h := back _ _ _ _ h
  exact G_iret C0 hK h ⟨nI_pred _, rfl⟩ (Nat.le_of_ble_eq_true rfl) (Nat.le_of_ble_eq_true rfl) dX2_build_131
set_option maxHeartbeats 4000000 in
set_option maxRecDepth 100000 in
theorem c_X2_build_no (l : Launch) (z : QZ) (M : QMs) (hk : MOk M) (x y v : Int32) (hno : ¬ ((0 ≤ x ∧ x ≤ 99) ∧ (0 ≤ y ∧ y ≤ 20) ∧ (0 ≤ v ∧ v ≤ 20))) : GI l yX2_build wsX2_build ({ frames := 1, cells := 1, slots := 8, locals := 22 } : Room) z [.ref (za z 55), .int x, .int y, .int v] 1 8 (MAt z) 55 59 M (fun r M' => r = 0 ∧ M' = uh M 1) := by
  intro ct sz hn hq hat
  refine q_entry (lo := 55) (cc := cX2_build) (maxL := 5) (ret := (some .int)) (by decide) rfl (Nat.le_of_ble_eq_true rfl) hn hq hat ?_
  intro p e s m below meth c ls C0 hK hsz h hl
  subst hsz
  obtain ⟨hx, hb, hr, hml, hown, hts, hlocks⟩ := id C0
  have hin2 : ∀ w ∈ u_ws RX2 TX2 6, w ∈ wsX2_build := by decide +kernel
  have hl : lv_has ls 5 [(0, .ref (za z 55)), (1, .int x), (2, .int y), (3, .int v)] := hl
  refine lv_aload_n hx hb dX2_build_0 rfl (lv_at hl 0 rfl) ?_
  refine lv_iconst (v := 0) hx hb dX2_build_1 (by decide) ?_
  refine N_ph C0 hK h hin2 (by decide +kernel) dX2_build_2 (fun H locs M1 eM1 h => ?_)
  subst eM1
  refine lv_iload_n hx hb dX2_build_5 rfl (lv_at hl 1 rfl) ?_
  refine lv_iconst (v := 0) hx hb dX2_build_6 (by decide) ?_
  refine lv_bipush (v := 99) hx hb dX2_build_7 (by decide) ?_
  refine S_callSi C0 hK h (c_X2_isIn l z (uh M 0) x 0 99) (va_cwS 3 hts gX2_build_X2_isIn rfl rfl rfl (by decide +kernel) ⟨Nat.le_of_ble_eq_true rfl, Nat.le_of_ble_eq_true rfl⟩) rfl hl.1 (rest := []) rfl (Nat.le_of_ble_eq_true rfl) ⟨Nat.le_of_ble_eq_true rfl, Nat.le_of_ble_eq_true rfl⟩ dX2_build_9 (fun r u H locs hp h => ?_)
  rcases q_bool _ hp with ⟨hc2, rfl, hu9⟩ | ⟨hc2, rfl, hu9⟩
  · rw [hu9] at h
    refine lv_if_eq (tgt := 35) hx hb dX2_build_12 (by decide) (fun q9 => absurd q9 (by decide)) (fun _ => ?_)
    refine lv_iload_n hx hb dX2_build_15 rfl (lv_at hl 2 rfl) ?_
    refine lv_iconst (v := 0) hx hb dX2_build_16 (by decide) ?_
    refine lv_bipush (v := 20) hx hb dX2_build_17 (by decide) ?_
    refine S_callSi C0 hK h (c_X2_isIn l z (uh M 0) y 0 20) (va_cwS 3 hts gX2_build_X2_isIn rfl rfl rfl (by decide +kernel) ⟨Nat.le_of_ble_eq_true rfl, Nat.le_of_ble_eq_true rfl⟩) rfl hl.1 (rest := []) rfl (Nat.le_of_ble_eq_true rfl) ⟨Nat.le_of_ble_eq_true rfl, Nat.le_of_ble_eq_true rfl⟩ dX2_build_19 (fun r u H locs hp h => ?_)
    rcases q_bool _ hp with ⟨hc3, rfl, hu9⟩ | ⟨hc3, rfl, hu9⟩
    · rw [hu9] at h
      refine lv_if_eq (tgt := 35) hx hb dX2_build_22 (by decide) (fun q9 => absurd q9 (by decide)) (fun _ => ?_)
      refine lv_iload_n hx hb dX2_build_25 rfl (lv_at hl 3 rfl) ?_
      refine lv_iconst (v := 0) hx hb dX2_build_26 (by decide) ?_
      refine lv_bipush (v := 20) hx hb dX2_build_27 (by decide) ?_
      refine S_callSi C0 hK h (c_X2_isIn l z (uh M 0) v 0 20) (va_cwS 3 hts gX2_build_X2_isIn rfl rfl rfl (by decide +kernel) ⟨Nat.le_of_ble_eq_true rfl, Nat.le_of_ble_eq_true rfl⟩) rfl hl.1 (rest := []) rfl (Nat.le_of_ble_eq_true rfl) ⟨Nat.le_of_ble_eq_true rfl, Nat.le_of_ble_eq_true rfl⟩ dX2_build_29 (fun r u H locs hp h => ?_)
      rcases q_bool _ hp with ⟨hc4, rfl, hu9⟩ | ⟨hc4, rfl, hu9⟩
      · rw [hu9] at h
        refine lv_if_ne (tgt := 41) hx hb dX2_build_32 (by decide) (fun _ => ?_) (fun q9 => absurd q9 (by decide))
        exact absurd ⟨hc2, hc3, hc4⟩ hno
      · rw [hu9] at h
        refine lv_if_ne (tgt := 41) hx hb dX2_build_32 (by decide) (fun q9 => absurd (by decide) q9) (fun _ => ?_)
        refine lv_aload_n hx hb dX2_build_35 rfl (lv_at hl 0 rfl) ?_
        refine lv_iconst (v := 1) hx hb dX2_build_36 (by decide) ?_
        refine S_callVi C0 hK h (c_X2_fail l z (uh M 0) 1) (cwV 1 hts gX2_build_X2_fail rfl rfl rfl (by decide +kernel) ⟨Nat.le_of_ble_eq_true rfl, Nat.le_of_ble_eq_true rfl⟩) (k := 55) (ci := 2) (by omega) (fun ct hA => hA.1) rfl rfl rfl hl.1 (rest := []) rfl (Nat.le_of_ble_eq_true rfl) ⟨Nat.le_of_ble_eq_true rfl, Nat.le_of_ble_eq_true rfl⟩ dX2_build_37 (fun r u H locs hp h => ?_)
        obtain ⟨rfl, hp⟩ := hp
        obtain ⟨M5, eM5⟩ : ∃ z9, z9 = uh (uh M 0) 1 := ⟨_, rfl⟩
        rw [hp, ← eM5] at h
        exact G_iret C0 hK h ⟨rfl, by subst eM5; rfl⟩ (Nat.le_of_ble_eq_true rfl) (Nat.le_of_ble_eq_true rfl) dX2_build_40
    · rw [hu9] at h
      refine lv_if_eq (tgt := 35) hx hb dX2_build_22 (by decide) (fun _ => ?_) (fun q9 => absurd (by decide) q9)
      refine lv_aload_n hx hb dX2_build_35 rfl (lv_at hl 0 rfl) ?_
      refine lv_iconst (v := 1) hx hb dX2_build_36 (by decide) ?_
      refine S_callVi C0 hK h (c_X2_fail l z (uh M 0) 1) (cwV 1 hts gX2_build_X2_fail rfl rfl rfl (by decide +kernel) ⟨Nat.le_of_ble_eq_true rfl, Nat.le_of_ble_eq_true rfl⟩) (k := 55) (ci := 2) (by omega) (fun ct hA => hA.1) rfl rfl rfl hl.1 (rest := []) rfl (Nat.le_of_ble_eq_true rfl) ⟨Nat.le_of_ble_eq_true rfl, Nat.le_of_ble_eq_true rfl⟩ dX2_build_37 (fun r u H locs hp h => ?_)
      obtain ⟨rfl, hp⟩ := hp
      obtain ⟨M6, eM6⟩ : ∃ z9, z9 = uh (uh M 0) 1 := ⟨_, rfl⟩
      rw [hp, ← eM6] at h
      exact G_iret C0 hK h ⟨rfl, by subst eM6; rfl⟩ (Nat.le_of_ble_eq_true rfl) (Nat.le_of_ble_eq_true rfl) dX2_build_40
  · rw [hu9] at h
    refine lv_if_eq (tgt := 35) hx hb dX2_build_12 (by decide) (fun _ => ?_) (fun q9 => absurd (by decide) q9)
    refine lv_aload_n hx hb dX2_build_35 rfl (lv_at hl 0 rfl) ?_
    refine lv_iconst (v := 1) hx hb dX2_build_36 (by decide) ?_
    refine S_callVi C0 hK h (c_X2_fail l z (uh M 0) 1) (cwV 1 hts gX2_build_X2_fail rfl rfl rfl (by decide +kernel) ⟨Nat.le_of_ble_eq_true rfl, Nat.le_of_ble_eq_true rfl⟩) (k := 55) (ci := 2) (by omega) (fun ct hA => hA.1) rfl rfl rfl hl.1 (rest := []) rfl (Nat.le_of_ble_eq_true rfl) ⟨Nat.le_of_ble_eq_true rfl, Nat.le_of_ble_eq_true rfl⟩ dX2_build_37 (fun r u H locs hp h => ?_)
    obtain ⟨rfl, hp⟩ := hp
    obtain ⟨M7, eM7⟩ : ∃ z9, z9 = uh (uh M 0) 1 := ⟨_, rfl⟩
    rw [hp, ← eM7] at h
    exact G_iret C0 hK h ⟨rfl, by subst eM7; rfl⟩ (Nat.le_of_ble_eq_true rfl) (Nat.le_of_ble_eq_true rfl) dX2_build_40
set_option maxHeartbeats 4000000 in
set_option maxRecDepth 100000 in
theorem c_X2_build_no2 (l : Launch) (z : QZ) (M : QMs) (hk : MOk M) (ht : mt_ M = 10) (x y v : Int32) (h9 : (0 ≤ x ∧ x ≤ 99) ∧ (0 ≤ y ∧ y ≤ 20) ∧ (0 ≤ v ∧ v ≤ 20)) : GI l yX2_build wsX2_build ({ frames := 1, cells := 1, slots := 8, locals := 22 } : Room) z [.ref (za z 55), .int x, .int y, .int v] 1 8 (MAt z) 55 59 M (fun r M' => r = 0 ∧ M' = uh M 2) := by
  intro ct sz hn hq hat
  refine q_entry (lo := 55) (cc := cX2_build) (maxL := 5) (ret := (some .int)) (by decide) rfl (Nat.le_of_ble_eq_true rfl) hn hq hat ?_
  intro p e s m below meth c ls C0 hK hsz h hl
  subst hsz
  obtain ⟨hx, hb, hr, hml, hown, hts, hlocks⟩ := id C0
  have hin2 : ∀ w ∈ u_ws RX2 TX2 6, w ∈ wsX2_build := by decide +kernel
  have hl : lv_has ls 5 [(0, .ref (za z 55)), (1, .int x), (2, .int y), (3, .int v)] := hl
  refine lv_aload_n hx hb dX2_build_0 rfl (lv_at hl 0 rfl) ?_
  refine lv_iconst (v := 0) hx hb dX2_build_1 (by decide) ?_
  refine N_ph C0 hK h hin2 (by decide +kernel) dX2_build_2 (fun H locs M1 eM1 h => ?_)
  subst eM1
  refine lv_iload_n hx hb dX2_build_5 rfl (lv_at hl 1 rfl) ?_
  refine lv_iconst (v := 0) hx hb dX2_build_6 (by decide) ?_
  refine lv_bipush (v := 99) hx hb dX2_build_7 (by decide) ?_
  refine S_callSi C0 hK h (c_X2_isIn l z (uh M 0) x 0 99) (va_cwS 3 hts gX2_build_X2_isIn rfl rfl rfl (by decide +kernel) ⟨Nat.le_of_ble_eq_true rfl, Nat.le_of_ble_eq_true rfl⟩) rfl hl.1 (rest := []) rfl (Nat.le_of_ble_eq_true rfl) ⟨Nat.le_of_ble_eq_true rfl, Nat.le_of_ble_eq_true rfl⟩ dX2_build_9 (fun r u H locs hp h => ?_)
  obtain ⟨hr9, hu9⟩ := hp
  have hr9 := hr9.trans (if_pos h9.1)
  subst hr9
  rw [hu9] at h
  refine lv_if_eq (tgt := 35) hx hb dX2_build_12 (by decide) (fun q9 => absurd q9 (by decide)) (fun _ => ?_)
  refine lv_iload_n hx hb dX2_build_15 rfl (lv_at hl 2 rfl) ?_
  refine lv_iconst (v := 0) hx hb dX2_build_16 (by decide) ?_
  refine lv_bipush (v := 20) hx hb dX2_build_17 (by decide) ?_
  refine S_callSi C0 hK h (c_X2_isIn l z (uh M 0) y 0 20) (va_cwS 3 hts gX2_build_X2_isIn rfl rfl rfl (by decide +kernel) ⟨Nat.le_of_ble_eq_true rfl, Nat.le_of_ble_eq_true rfl⟩) rfl hl.1 (rest := []) rfl (Nat.le_of_ble_eq_true rfl) ⟨Nat.le_of_ble_eq_true rfl, Nat.le_of_ble_eq_true rfl⟩ dX2_build_19 (fun r u H locs hp h => ?_)
  obtain ⟨hr9, hu9⟩ := hp
  have hr9 := hr9.trans (if_pos h9.2.1)
  subst hr9
  rw [hu9] at h
  refine lv_if_eq (tgt := 35) hx hb dX2_build_22 (by decide) (fun q9 => absurd q9 (by decide)) (fun _ => ?_)
  refine lv_iload_n hx hb dX2_build_25 rfl (lv_at hl 3 rfl) ?_
  refine lv_iconst (v := 0) hx hb dX2_build_26 (by decide) ?_
  refine lv_bipush (v := 20) hx hb dX2_build_27 (by decide) ?_
  refine S_callSi C0 hK h (c_X2_isIn l z (uh M 0) v 0 20) (va_cwS 3 hts gX2_build_X2_isIn rfl rfl rfl (by decide +kernel) ⟨Nat.le_of_ble_eq_true rfl, Nat.le_of_ble_eq_true rfl⟩) rfl hl.1 (rest := []) rfl (Nat.le_of_ble_eq_true rfl) ⟨Nat.le_of_ble_eq_true rfl, Nat.le_of_ble_eq_true rfl⟩ dX2_build_29 (fun r u H locs hp h => ?_)
  obtain ⟨hr9, hu9⟩ := hp
  have hr9 := hr9.trans (if_pos h9.2.2)
  subst hr9
  rw [hu9] at h
  refine lv_if_ne (tgt := 41) hx hb dX2_build_32 (by decide) (fun _ => ?_) (fun q9 => absurd q9 (by decide))
  refine lv_aload_n hx hb dX2_build_41 rfl (lv_at hl 0 rfl) ?_
  refine M_g C0 hK h hin2 1 (by decide) (by decide +kernel) rfl dX2_build_42 ?_
  refine lv_bipush (v := 10) hx hb dX2_build_45 (by decide) ?_
  refine lv_icmp_ne (tgt := 56) hx hb dX2_build_47 (by decide) (fun q9 => absurd (show nI (mt_ M) = 10 by rw [ht]; rfl) q9) (fun _ => ?_)
  refine lv_aload_n hx hb dX2_build_50 rfl (lv_at hl 0 rfl) ?_
  refine lv_iconst (v := 2) hx hb dX2_build_51 (by decide) ?_
  refine S_callVi C0 hK h (c_X2_fail l z (uh M 0) 2) (cwV 1 hts gX2_build_X2_fail rfl rfl rfl (by decide +kernel) ⟨Nat.le_of_ble_eq_true rfl, Nat.le_of_ble_eq_true rfl⟩) (k := 55) (ci := 2) (by omega) (fun ct hA => hA.1) rfl rfl rfl hl.1 (rest := []) rfl (Nat.le_of_ble_eq_true rfl) ⟨Nat.le_of_ble_eq_true rfl, Nat.le_of_ble_eq_true rfl⟩ dX2_build_52 (fun r u H locs hp h => ?_)
  obtain ⟨rfl, hp⟩ := hp
  obtain ⟨M2, eM2⟩ : ∃ z9, z9 = uh (uh M 0) 2 := ⟨_, rfl⟩
  rw [hp, ← eM2] at h
  exact G_iret C0 hK h ⟨rfl, by subst eM2; rfl⟩ (Nat.le_of_ble_eq_true rfl) (Nat.le_of_ble_eq_true rfl) dX2_build_55
set_option maxHeartbeats 4000000 in
set_option maxRecDepth 100000 in
theorem c_X2_lay_ok (l : Launch) (z : QZ) (M : QMs) (hk : MOk M) (i : Nat) (hi : i < mt_ M) (j : Nat) (hj : j < mt_ M) (hp : mp_ M < 14) (hne : i ≠ j) (x y : Int32) (h9 : (1 ≤ x ∧ x ≤ 20) ∧ (0 ≤ y ∧ y ≤ 60)) : GI l yX2_lay wsX2_lay ({ frames := 2, cells := 1, slots := 9, locals := 60 } : Room) z [.ref (za z 55), .int (nI i), .int (nI j), .int x, .int y] 1 9 (MAt z) 55 59 M (fun r M' => r = nI (mp_ M) ∧ M' = mLay (uh M 0) i j x y) := by
  intro ct sz hn hq hat
  refine q_entry (lo := 55) (cc := cX2_lay) (maxL := 6) (ret := (some .int)) (by decide) rfl (Nat.le_of_ble_eq_true rfl) hn hq hat ?_
  intro p e s m below meth c ls C0 hK hsz h hl
  subst hsz
  obtain ⟨hx, hb, hr, hml, hown, hts, hlocks⟩ := id C0
  have hin2 : ∀ w ∈ u_ws RX2 TX2 6, w ∈ wsX2_lay := by decide +kernel
  have hl : lv_has ls 6 [(0, .ref (za z 55)), (1, .int (nI i)), (2, .int (nI j)), (3, .int x), (4, .int y)] := hl
  have hk1 := hk.1
  have hk2 := hk.2.1
  refine lv_aload_n hx hb dX2_lay_0 rfl (lv_at hl 0 rfl) ?_
  refine lv_iconst (v := 0) hx hb dX2_lay_1 (by decide) ?_
  refine N_ph C0 hK h hin2 (by decide +kernel) dX2_lay_2 (fun H locs M1 eM1 h => ?_)
  subst eM1
  refine lv_aload_n hx hb dX2_lay_5 rfl (lv_at hl 0 rfl) ?_
  refine lv_iload_n hx hb dX2_lay_6 rfl (lv_at hl 1 rfl) ?_
  refine S_callVi C0 hK h (c_X2_isTank l z (uh M 0) (nI i) hk) (cwV 1 hts gX2_lay_X2_isTank rfl rfl rfl (by decide +kernel) ⟨Nat.le_of_ble_eq_true rfl, Nat.le_of_ble_eq_true rfl⟩) (k := 55) (ci := 2) (by omega) (fun ct hA => hA.1) rfl rfl rfl hl.1 (rest := []) rfl (Nat.le_of_ble_eq_true rfl) ⟨Nat.le_of_ble_eq_true rfl, Nat.le_of_ble_eq_true rfl⟩ dX2_lay_7 (fun r u H locs hp h => ?_)
  obtain ⟨hr9, hu9⟩ := hp
  have hr9 := hr9.trans (if_pos (qin_nI (n := mt_ M) (by have := hk.1; have := hk.2.1; omega) hi))
  subst hr9
  rw [hu9] at h
  refine lv_if_eq (tgt := 21) hx hb dX2_lay_10 (by decide) (fun q9 => absurd q9 (by decide)) (fun _ => ?_)
  refine lv_aload_n hx hb dX2_lay_13 rfl (lv_at hl 0 rfl) ?_
  refine lv_iload_n hx hb dX2_lay_14 rfl (lv_at hl 2 rfl) ?_
  refine S_callVi C0 hK h (c_X2_isTank l z (uh M 0) (nI j) hk) (cwV 1 hts gX2_lay_X2_isTank rfl rfl rfl (by decide +kernel) ⟨Nat.le_of_ble_eq_true rfl, Nat.le_of_ble_eq_true rfl⟩) (k := 55) (ci := 2) (by omega) (fun ct hA => hA.1) rfl rfl rfl hl.1 (rest := []) rfl (Nat.le_of_ble_eq_true rfl) ⟨Nat.le_of_ble_eq_true rfl, Nat.le_of_ble_eq_true rfl⟩ dX2_lay_15 (fun r u H locs hp h => ?_)
  obtain ⟨hr9, hu9⟩ := hp
  have hr9 := hr9.trans (if_pos (qin_nI (n := mt_ M) (by have := hk.1; have := hk.2.1; omega) hj))
  subst hr9
  rw [hu9] at h
  refine lv_if_ne (tgt := 27) hx hb dX2_lay_18 (by decide) (fun _ => ?_) (fun q9 => absurd q9 (by decide))
  refine lv_iload_n hx hb dX2_lay_27 rfl (lv_at hl 1 rfl) ?_
  refine lv_iload_n hx hb dX2_lay_28 rfl (lv_at hl 2 rfl) ?_
  refine lv_icmp_eq (tgt := 53) hx hb dX2_lay_29 (by decide) (fun q9 => absurd q9 (fun q => hne (q_nIc _ q (by omega)))) (fun _ => ?_)
  refine lv_iload_n hx hb dX2_lay_32 rfl (lv_at hl 3 rfl) ?_
  refine lv_iconst (v := 1) hx hb dX2_lay_33 (by decide) ?_
  refine lv_bipush (v := 20) hx hb dX2_lay_34 (by decide) ?_
  refine S_callSi C0 hK h (c_X2_isIn l z (uh M 0) x 1 20) (va_cwS 3 hts gX2_lay_X2_isIn rfl rfl rfl (by decide +kernel) ⟨Nat.le_of_ble_eq_true rfl, Nat.le_of_ble_eq_true rfl⟩) rfl hl.1 (rest := []) rfl (Nat.le_of_ble_eq_true rfl) ⟨Nat.le_of_ble_eq_true rfl, Nat.le_of_ble_eq_true rfl⟩ dX2_lay_36 (fun r u H locs hp h => ?_)
  obtain ⟨hr9, hu9⟩ := hp
  have hr9 := hr9.trans (if_pos h9.1)
  subst hr9
  rw [hu9] at h
  refine lv_if_eq (tgt := 53) hx hb dX2_lay_39 (by decide) (fun q9 => absurd q9 (by decide)) (fun _ => ?_)
  refine lv_iload hx hb dX2_lay_42 (lv_at hl 4 rfl) ?_
  refine lv_iconst (v := 0) hx hb dX2_lay_44 (by decide) ?_
  refine lv_bipush (v := 60) hx hb dX2_lay_45 (by decide) ?_
  refine S_callSi C0 hK h (c_X2_isIn l z (uh M 0) y 0 60) (va_cwS 3 hts gX2_lay_X2_isIn rfl rfl rfl (by decide +kernel) ⟨Nat.le_of_ble_eq_true rfl, Nat.le_of_ble_eq_true rfl⟩) rfl hl.1 (rest := []) rfl (Nat.le_of_ble_eq_true rfl) ⟨Nat.le_of_ble_eq_true rfl, Nat.le_of_ble_eq_true rfl⟩ dX2_lay_47 (fun r u H locs hp h => ?_)
  obtain ⟨hr9, hu9⟩ := hp
  have hr9 := hr9.trans (if_pos h9.2)
  subst hr9
  rw [hu9] at h
  refine lv_if_ne (tgt := 59) hx hb dX2_lay_50 (by decide) (fun _ => ?_) (fun q9 => absurd q9 (by decide))
  refine lv_aload_n hx hb dX2_lay_59 rfl (lv_at hl 0 rfl) ?_
  refine M_g C0 hK h hin2 2 (by decide) (by decide +kernel) rfl dX2_lay_60 ?_
  refine lv_bipush (v := 14) hx hb dX2_lay_63 (by decide) ?_
  refine lv_icmp_ne (tgt := 74) hx hb dX2_lay_65 (by decide) (fun _ => ?_) (fun q9 => absurd q9 (fun q => by have := q_nIc (k := mp_ M) 14 q (by omega); omega))
  refine lv_bipush (v := 9) hx hb dX2_lay_74 (by decide) ?_
  refine G_newi C0 hK h (by decide +kernel) (n := 9) rfl (by decide) (Nat.le_of_ble_eq_true rfl) (Nat.le_of_ble_eq_true rfl) dX2_lay_76 (fun zk c1 H hKk hz1 h59 hag h back => ?_)
  have hag5 := hag 55 (by omega)
  have hl : lv_has ls 6 [(0, .ref (za zk 55)), (1, .int (nI i)), (2, .int (nI j)), (3, .int x), (4, .int y)] := by rw [hag5]; exact hl
  refine lv_dup hx hb dX2_lay_78 rfl ?_
  refine lv_iconst (v := 0) hx hb dX2_lay_79 (by decide) ?_
  refine lv_iload_n hx hb dX2_lay_80 rfl (lv_at hl 1 rfl) ?_
  refine G_iastN C0 hKk h (k := zn z) (by omega) (fun ct hA => hA.2.1) (j := 0) rfl (by decide) (by decide) (f2 := (upd (fun _ => 0) 0 (nI i))) (fun _ _ => rfl) (a' := ((uh M 0), (upd (fun _ => 0) 0 (nI i)))) (fun ct hA => hA.st h59) dX2_lay_81 (fun H locs h => ?_)
  refine lv_dup hx hb dX2_lay_82 rfl ?_
  refine lv_iconst (v := 1) hx hb dX2_lay_83 (by decide) ?_
  refine lv_iload_n hx hb dX2_lay_84 rfl (lv_at hl 2 rfl) ?_
  refine G_iastN C0 hKk h (k := zn z) (by omega) (fun ct hA => hA.2.1) (j := 1) rfl (by decide) (by decide) (f2 := (upd (upd (fun _ => 0) 0 (nI i)) 1 (nI j))) (fun _ _ => rfl) (a' := ((uh M 0), (upd (upd (fun _ => 0) 0 (nI i)) 1 (nI j)))) (fun ct hA => hA.st h59) dX2_lay_85 (fun H locs h => ?_)
  refine lv_dup hx hb dX2_lay_86 rfl ?_
  refine lv_iconst (v := 2) hx hb dX2_lay_87 (by decide) ?_
  refine lv_iload_n hx hb dX2_lay_88 rfl (lv_at hl 3 rfl) ?_
  refine G_iastN C0 hKk h (k := zn z) (by omega) (fun ct hA => hA.2.1) (j := 2) rfl (by decide) (by decide) (f2 := (upd (upd (upd (fun _ => 0) 0 (nI i)) 1 (nI j)) 2 x)) (fun _ _ => rfl) (a' := ((uh M 0), (upd (upd (upd (fun _ => 0) 0 (nI i)) 1 (nI j)) 2 x))) (fun ct hA => hA.st h59) dX2_lay_89 (fun H locs h => ?_)
  refine lv_dup hx hb dX2_lay_90 rfl ?_
  refine lv_iconst (v := 3) hx hb dX2_lay_91 (by decide) ?_
  refine lv_iload hx hb dX2_lay_92 (lv_at hl 4 rfl) ?_
  refine G_iastN C0 hKk h (k := zn z) (by omega) (fun ct hA => hA.2.1) (j := 3) rfl (by decide) (by decide) (f2 := (upd (upd (upd (upd (fun _ => 0) 0 (nI i)) 1 (nI j)) 2 x) 3 y)) (fun _ _ => rfl) (a' := ((uh M 0), (upd (upd (upd (upd (fun _ => 0) 0 (nI i)) 1 (nI j)) 2 x) 3 y))) (fun ct hA => hA.st h59) dX2_lay_94 (fun H locs h => ?_)
  refine lv_dup hx hb dX2_lay_95 rfl ?_
  refine lv_iconst (v := 4) hx hb dX2_lay_96 (by decide) ?_
  refine lv_iconst (v := 0) hx hb dX2_lay_97 (by decide) ?_
  refine G_iastN C0 hKk h (k := zn z) (by omega) (fun ct hA => hA.2.1) (j := 4) rfl (by decide) (by decide) (f2 := (upd (upd (upd (upd (upd (fun _ => 0) 0 (nI i)) 1 (nI j)) 2 x) 3 y) 4 0)) (fun _ _ => rfl) (a' := ((uh M 0), (upd (upd (upd (upd (upd (fun _ => 0) 0 (nI i)) 1 (nI j)) 2 x) 3 y) 4 0))) (fun ct hA => hA.st h59) dX2_lay_98 (fun H locs h => ?_)
  refine lv_dup hx hb dX2_lay_99 rfl ?_
  refine lv_iconst (v := 5) hx hb dX2_lay_100 (by decide) ?_
  refine lv_iconst (v := 0) hx hb dX2_lay_101 (by decide) ?_
  refine G_iastN C0 hKk h (k := zn z) (by omega) (fun ct hA => hA.2.1) (j := 5) rfl (by decide) (by decide) (f2 := (upd (upd (upd (upd (upd (upd (fun _ => 0) 0 (nI i)) 1 (nI j)) 2 x) 3 y) 4 0) 5 0)) (fun _ _ => rfl) (a' := ((uh M 0), (upd (upd (upd (upd (upd (upd (fun _ => 0) 0 (nI i)) 1 (nI j)) 2 x) 3 y) 4 0) 5 0))) (fun ct hA => hA.st h59) dX2_lay_102 (fun H locs h => ?_)
  refine lv_dup hx hb dX2_lay_103 rfl ?_
  refine lv_bipush (v := 6) hx hb dX2_lay_104 (by decide) ?_
  refine lv_iconst (v := 0) hx hb dX2_lay_106 (by decide) ?_
  refine G_iastN C0 hKk h (k := zn z) (by omega) (fun ct hA => hA.2.1) (j := 6) rfl (by decide) (by decide) (f2 := (upd (upd (upd (upd (upd (upd (upd (fun _ => 0) 0 (nI i)) 1 (nI j)) 2 x) 3 y) 4 0) 5 0) 6 0)) (fun _ _ => rfl) (a' := ((uh M 0), (upd (upd (upd (upd (upd (upd (upd (fun _ => 0) 0 (nI i)) 1 (nI j)) 2 x) 3 y) 4 0) 5 0) 6 0))) (fun ct hA => hA.st h59) dX2_lay_107 (fun H locs h => ?_)
  refine lv_dup hx hb dX2_lay_108 rfl ?_
  refine lv_bipush (v := 7) hx hb dX2_lay_109 (by decide) ?_
  refine lv_iconst (v := 0) hx hb dX2_lay_111 (by decide) ?_
  refine G_iastN C0 hKk h (k := zn z) (by omega) (fun ct hA => hA.2.1) (j := 7) rfl (by decide) (by decide) (f2 := (upd (upd (upd (upd (upd (upd (upd (upd (fun _ => 0) 0 (nI i)) 1 (nI j)) 2 x) 3 y) 4 0) 5 0) 6 0) 7 0)) (fun _ _ => rfl) (a' := ((uh M 0), (upd (upd (upd (upd (upd (upd (upd (upd (fun _ => 0) 0 (nI i)) 1 (nI j)) 2 x) 3 y) 4 0) 5 0) 6 0) 7 0))) (fun ct hA => hA.st h59) dX2_lay_112 (fun H locs h => ?_)
  refine lv_dup hx hb dX2_lay_113 rfl ?_
  refine lv_bipush (v := 8) hx hb dX2_lay_114 (by decide) ?_
  refine lv_iconst (v := 0) hx hb dX2_lay_116 (by decide) ?_
  refine G_iastN C0 hKk h (k := zn z) (by omega) (fun ct hA => hA.2.1) (j := 8) rfl (by decide) (by decide) (f2 := (upd (upd (upd (upd (upd (upd (upd (upd (upd (fun _ => 0) 0 (nI i)) 1 (nI j)) 2 x) 3 y) 4 0) 5 0) 6 0) 7 0) 8 0)) (fun _ _ => rfl) (a' := ((uh M 0), (upd (upd (upd (upd (upd (upd (upd (upd (upd (fun _ => 0) 0 (nI i)) 1 (nI j)) 2 x) 3 y) 4 0) 5 0) 6 0) 7 0) 8 0))) (fun ct hA => hA.st h59) dX2_lay_117 (fun H locs h => ?_)
  refine lv_astore (lv' := [(5, .ref (za zk (zn z))), (0, .ref (za zk 55)), (1, .int (nI i)), (2, .int (nI j)), (3, .int x), (4, .int y)]) hx hb dX2_lay_118 hl (by decide) rfl (fun ls hl => ?_)
  refine lv_aload hx hb dX2_lay_120 (lv_at hl 0 rfl) ?_
  refine lv_iconst (v := 0) hx hb dX2_lay_122 (by decide) ?_
  refine lv_aload_n hx hb dX2_lay_123 rfl (lv_at hl 1 rfl) ?_
  refine G_get C0 hKk h hin2 2 rfl (by omega) (fun ct hA => hA.1.1) 4 (by decide) (by decide +kernel) (v := .ref (za zk 57)) rfl dX2_lay_124 ?_
  refine lv_bipush (v := 9) hx hb dX2_lay_127 (by decide) ?_
  refine lv_aload_n hx hb dX2_lay_129 rfl (lv_at hl 1 rfl) ?_
  refine G_get C0 hKk h hin2 2 rfl (by omega) (fun ct hA => hA.1.1) 2 (by decide) (by decide +kernel) (v := .int (nI (mp_ M))) rfl dX2_lay_130 ?_
  refine lv_imul hx hb dX2_lay_133 ?_
  refine lv_bipush (v := 9) hx hb dX2_lay_134 (by decide) ?_
  refine G_copyN C0 hKk hl.1 h (k0 := zn z) (k1 := 57) (n0 := 9) (n1 := 126) (sp := 0) (dp := (9 * (mp_ M))) (n := 9) (by omega) (by omega) (fun ct hA => hA.2.1) (fun ct hA => hA.1.2.2.1) rfl (q_mul rfl rfl) rfl (by omega) (by omega) (by omega) (by omega) (f2 := (va_cpy (upd (upd (upd (upd (upd (upd (upd (upd (upd (fun _ => 0) 0 (nI i)) 1 (nI j)) 2 x) 3 y) 4 0) 5 0) 6 0) 7 0) 8 0) (mB (uh M 0)) 0 (9 * (mp_ M)) 9)) (fun _ _ => rfl) (a' := ((uB (uh M 0) (va_cpy (upd (upd (upd (upd (upd (upd (upd (upd (upd (fun _ => 0) 0 (nI i)) 1 (nI j)) 2 x) 3 y) 4 0) 5 0) 6 0) 7 0) 8 0) (mB (uh M 0)) 0 (9 * (mp_ M)) 9)), (upd (upd (upd (upd (upd (upd (upd (upd (upd (fun _ => 0) 0 (nI i)) 1 (nI j)) 2 x) 3 y) 4 0) 5 0) 6 0) 7 0) 8 0))) (fun ct hA => hA.up (by omega) h59 (hA.1.B _)) (by decide +kernel) (by decide +kernel) (by decide +kernel) (by decide +kernel) (by decide) dX2_lay_136 (fun H locs h => ?_)
  refine lv_aload_n hx hb dX2_lay_139 rfl (lv_at hl 1 rfl) ?_
  refine lv_dup hx hb dX2_lay_140 rfl ?_
  refine G_get C0 hKk h hin2 2 rfl (by omega) (fun ct hA => hA.1.1) 2 (by decide) (by decide +kernel) (v := .int (nI (mp_ M))) rfl dX2_lay_141 ?_
  refine lv_iconst (v := 1) hx hb dX2_lay_144 (by decide) ?_
  refine lv_iadd hx hb dX2_lay_145 ?_
  rw [show ((nI (mp_ M)) + 1) = nI ((mp_ M) + 1) from (q_add rfl rfl)]
  refine G_put C0 hKk h hin2 2 rfl tyX2 tyX2_ok nmX2 (by omega) (fun ct hA => hA.1.1) 2 (by omega) (by decide +kernel) rfl rfl (show 2 < 6 by omega) (a' := ((up_ (uB (uh M 0) (va_cpy (upd (upd (upd (upd (upd (upd (upd (upd (upd (fun _ => 0) 0 (nI i)) 1 (nI j)) 2 x) 3 y) 4 0) 5 0) 6 0) 7 0) 8 0) (mB (uh M 0)) 0 (9 * (mp_ M)) 9)) ((mp_ M) + 1)), (upd (upd (upd (upd (upd (upd (upd (upd (upd (fun _ => 0) 0 (nI i)) 1 (nI j)) 2 x) 3 y) 4 0) 5 0) 6 0) 7 0) 8 0))) (fun ct hA => hA.up (by omega) h59 (hA.1.p _)) dX2_lay_146 (fun H locs h => ?_)
  refine lv_aload_n hx hb dX2_lay_149 rfl (lv_at hl 1 rfl) ?_
  refine G_get C0 hKk h hin2 2 rfl (by omega) (fun ct hA => hA.1.1) 2 (by decide) (by decide +kernel) (v := .int (nI ((mp_ M) + 1))) rfl dX2_lay_150 ?_
  refine lv_iconst (v := 1) hx hb dX2_lay_153 (by decide) ?_
  refine lv_isub hx hb dX2_lay_154 ?_
  have h := back _ _ _ _ h
  exact G_iret C0 hK h ⟨nI_pred _, rfl⟩ (Nat.le_of_ble_eq_true rfl) (Nat.le_of_ble_eq_true rfl) dX2_lay_155
set_option maxHeartbeats 4000000 in
set_option maxRecDepth 100000 in
theorem c_X2_lay_no (l : Launch) (z : QZ) (M : QMs) (hk : MOk M) (x y v w : Int32) (hno : ¬ (qin x (mt_ M) ∧ qin y (mt_ M))) : GI l yX2_lay wsX2_lay ({ frames := 2, cells := 1, slots := 9, locals := 43 } : Room) z [.ref (za z 55), .int x, .int y, .int v, .int w] 1 9 (MAt z) 55 59 M (fun r M' => r = 0 ∧ M' = uh M 1) := by
  intro ct sz hn hq hat
  refine q_entry (lo := 55) (cc := cX2_lay) (maxL := 6) (ret := (some .int)) (by decide) rfl (Nat.le_of_ble_eq_true rfl) hn hq hat ?_
  intro p e s m below meth c ls C0 hK hsz h hl
  subst hsz
  obtain ⟨hx, hb, hr, hml, hown, hts, hlocks⟩ := id C0
  have hin2 : ∀ w ∈ u_ws RX2 TX2 6, w ∈ wsX2_lay := by decide +kernel
  have hl : lv_has ls 6 [(0, .ref (za z 55)), (1, .int x), (2, .int y), (3, .int v), (4, .int w)] := hl
  refine lv_aload_n hx hb dX2_lay_0 rfl (lv_at hl 0 rfl) ?_
  refine lv_iconst (v := 0) hx hb dX2_lay_1 (by decide) ?_
  refine N_ph C0 hK h hin2 (by decide +kernel) dX2_lay_2 (fun H locs M1 eM1 h => ?_)
  subst eM1
  refine lv_aload_n hx hb dX2_lay_5 rfl (lv_at hl 0 rfl) ?_
  refine lv_iload_n hx hb dX2_lay_6 rfl (lv_at hl 1 rfl) ?_
  refine S_callVi C0 hK h (c_X2_isTank l z (uh M 0) x hk) (cwV 1 hts gX2_lay_X2_isTank rfl rfl rfl (by decide +kernel) ⟨Nat.le_of_ble_eq_true rfl, Nat.le_of_ble_eq_true rfl⟩) (k := 55) (ci := 2) (by omega) (fun ct hA => hA.1) rfl rfl rfl hl.1 (rest := []) rfl (Nat.le_of_ble_eq_true rfl) ⟨Nat.le_of_ble_eq_true rfl, Nat.le_of_ble_eq_true rfl⟩ dX2_lay_7 (fun r u H locs hp h => ?_)
  rcases q_bool _ hp with ⟨hc2, rfl, hu9⟩ | ⟨hc2, rfl, hu9⟩
  · rw [hu9] at h
    refine lv_if_eq (tgt := 21) hx hb dX2_lay_10 (by decide) (fun q9 => absurd q9 (by decide)) (fun _ => ?_)
    refine lv_aload_n hx hb dX2_lay_13 rfl (lv_at hl 0 rfl) ?_
    refine lv_iload_n hx hb dX2_lay_14 rfl (lv_at hl 2 rfl) ?_
    refine S_callVi C0 hK h (c_X2_isTank l z (uh M 0) y hk) (cwV 1 hts gX2_lay_X2_isTank rfl rfl rfl (by decide +kernel) ⟨Nat.le_of_ble_eq_true rfl, Nat.le_of_ble_eq_true rfl⟩) (k := 55) (ci := 2) (by omega) (fun ct hA => hA.1) rfl rfl rfl hl.1 (rest := []) rfl (Nat.le_of_ble_eq_true rfl) ⟨Nat.le_of_ble_eq_true rfl, Nat.le_of_ble_eq_true rfl⟩ dX2_lay_15 (fun r u H locs hp h => ?_)
    rcases q_bool _ hp with ⟨hc3, rfl, hu9⟩ | ⟨hc3, rfl, hu9⟩
    · rw [hu9] at h
      refine lv_if_ne (tgt := 27) hx hb dX2_lay_18 (by decide) (fun _ => ?_) (fun q9 => absurd q9 (by decide))
      exact absurd ⟨hc2, hc3⟩ hno
    · rw [hu9] at h
      refine lv_if_ne (tgt := 27) hx hb dX2_lay_18 (by decide) (fun q9 => absurd (by decide) q9) (fun _ => ?_)
      refine lv_aload_n hx hb dX2_lay_21 rfl (lv_at hl 0 rfl) ?_
      refine lv_iconst (v := 1) hx hb dX2_lay_22 (by decide) ?_
      refine S_callVi C0 hK h (c_X2_fail l z (uh M 0) 1) (cwV 1 hts gX2_lay_X2_fail rfl rfl rfl (by decide +kernel) ⟨Nat.le_of_ble_eq_true rfl, Nat.le_of_ble_eq_true rfl⟩) (k := 55) (ci := 2) (by omega) (fun ct hA => hA.1) rfl rfl rfl hl.1 (rest := []) rfl (Nat.le_of_ble_eq_true rfl) ⟨Nat.le_of_ble_eq_true rfl, Nat.le_of_ble_eq_true rfl⟩ dX2_lay_23 (fun r u H locs hp h => ?_)
      obtain ⟨rfl, hp⟩ := hp
      obtain ⟨M4, eM4⟩ : ∃ z9, z9 = uh (uh M 0) 1 := ⟨_, rfl⟩
      rw [hp, ← eM4] at h
      exact G_iret C0 hK h ⟨rfl, by subst eM4; rfl⟩ (Nat.le_of_ble_eq_true rfl) (Nat.le_of_ble_eq_true rfl) dX2_lay_26
  · rw [hu9] at h
    refine lv_if_eq (tgt := 21) hx hb dX2_lay_10 (by decide) (fun _ => ?_) (fun q9 => absurd (by decide) q9)
    refine lv_aload_n hx hb dX2_lay_21 rfl (lv_at hl 0 rfl) ?_
    refine lv_iconst (v := 1) hx hb dX2_lay_22 (by decide) ?_
    refine S_callVi C0 hK h (c_X2_fail l z (uh M 0) 1) (cwV 1 hts gX2_lay_X2_fail rfl rfl rfl (by decide +kernel) ⟨Nat.le_of_ble_eq_true rfl, Nat.le_of_ble_eq_true rfl⟩) (k := 55) (ci := 2) (by omega) (fun ct hA => hA.1) rfl rfl rfl hl.1 (rest := []) rfl (Nat.le_of_ble_eq_true rfl) ⟨Nat.le_of_ble_eq_true rfl, Nat.le_of_ble_eq_true rfl⟩ dX2_lay_23 (fun r u H locs hp h => ?_)
    obtain ⟨rfl, hp⟩ := hp
    obtain ⟨M5, eM5⟩ : ∃ z9, z9 = uh (uh M 0) 1 := ⟨_, rfl⟩
    rw [hp, ← eM5] at h
    exact G_iret C0 hK h ⟨rfl, by subst eM5; rfl⟩ (Nat.le_of_ble_eq_true rfl) (Nat.le_of_ble_eq_true rfl) dX2_lay_26
set_option maxHeartbeats 4000000 in
set_option maxRecDepth 100000 in
theorem c_X2_lay_no2 (l : Launch) (z : QZ) (M : QMs) (hk : MOk M) (i : Nat) (hi : i < mt_ M) (j : Nat) (hj : j < mt_ M) (x y : Int32) (hno : ¬ (i ≠ j ∧ (1 ≤ x ∧ x ≤ 20) ∧ (0 ≤ y ∧ y ≤ 60))) : GI l yX2_lay wsX2_lay ({ frames := 2, cells := 1, slots := 9, locals := 43 } : Room) z [.ref (za z 55), .int (nI i), .int (nI j), .int x, .int y] 1 9 (MAt z) 55 59 M (fun r M' => r = 0 ∧ M' = uh M 2) := by
  intro ct sz hn hq hat
  refine q_entry (lo := 55) (cc := cX2_lay) (maxL := 6) (ret := (some .int)) (by decide) rfl (Nat.le_of_ble_eq_true rfl) hn hq hat ?_
  intro p e s m below meth c ls C0 hK hsz h hl
  subst hsz
  obtain ⟨hx, hb, hr, hml, hown, hts, hlocks⟩ := id C0
  have hin2 : ∀ w ∈ u_ws RX2 TX2 6, w ∈ wsX2_lay := by decide +kernel
  have hl : lv_has ls 6 [(0, .ref (za z 55)), (1, .int (nI i)), (2, .int (nI j)), (3, .int x), (4, .int y)] := hl
  refine lv_aload_n hx hb dX2_lay_0 rfl (lv_at hl 0 rfl) ?_
  refine lv_iconst (v := 0) hx hb dX2_lay_1 (by decide) ?_
  refine N_ph C0 hK h hin2 (by decide +kernel) dX2_lay_2 (fun H locs M1 eM1 h => ?_)
  subst eM1
  refine lv_aload_n hx hb dX2_lay_5 rfl (lv_at hl 0 rfl) ?_
  refine lv_iload_n hx hb dX2_lay_6 rfl (lv_at hl 1 rfl) ?_
  refine S_callVi C0 hK h (c_X2_isTank l z (uh M 0) (nI i) hk) (cwV 1 hts gX2_lay_X2_isTank rfl rfl rfl (by decide +kernel) ⟨Nat.le_of_ble_eq_true rfl, Nat.le_of_ble_eq_true rfl⟩) (k := 55) (ci := 2) (by omega) (fun ct hA => hA.1) rfl rfl rfl hl.1 (rest := []) rfl (Nat.le_of_ble_eq_true rfl) ⟨Nat.le_of_ble_eq_true rfl, Nat.le_of_ble_eq_true rfl⟩ dX2_lay_7 (fun r u H locs hp h => ?_)
  obtain ⟨hr9, hu9⟩ := hp
  have hr9 := hr9.trans (if_pos (qin_nI (n := mt_ M) (by have := hk.1; have := hk.2.1; omega) hi))
  subst hr9
  rw [hu9] at h
  refine lv_if_eq (tgt := 21) hx hb dX2_lay_10 (by decide) (fun q9 => absurd q9 (by decide)) (fun _ => ?_)
  refine lv_aload_n hx hb dX2_lay_13 rfl (lv_at hl 0 rfl) ?_
  refine lv_iload_n hx hb dX2_lay_14 rfl (lv_at hl 2 rfl) ?_
  refine S_callVi C0 hK h (c_X2_isTank l z (uh M 0) (nI j) hk) (cwV 1 hts gX2_lay_X2_isTank rfl rfl rfl (by decide +kernel) ⟨Nat.le_of_ble_eq_true rfl, Nat.le_of_ble_eq_true rfl⟩) (k := 55) (ci := 2) (by omega) (fun ct hA => hA.1) rfl rfl rfl hl.1 (rest := []) rfl (Nat.le_of_ble_eq_true rfl) ⟨Nat.le_of_ble_eq_true rfl, Nat.le_of_ble_eq_true rfl⟩ dX2_lay_15 (fun r u H locs hp h => ?_)
  obtain ⟨hr9, hu9⟩ := hp
  have hr9 := hr9.trans (if_pos (qin_nI (n := mt_ M) (by have := hk.1; have := hk.2.1; omega) hj))
  subst hr9
  rw [hu9] at h
  refine lv_if_ne (tgt := 27) hx hb dX2_lay_18 (by decide) (fun _ => ?_) (fun q9 => absurd q9 (by decide))
  refine lv_iload_n hx hb dX2_lay_27 rfl (lv_at hl 1 rfl) ?_
  refine lv_iload_n hx hb dX2_lay_28 rfl (lv_at hl 2 rfl) ?_
  refine lv_icmp_eq (tgt := 53) hx hb dX2_lay_29 (by decide) (fun c_29 => ?_) (fun c_29 => ?_)
  · refine lv_aload_n hx hb dX2_lay_53 rfl (lv_at hl 0 rfl) ?_
    refine lv_iconst (v := 2) hx hb dX2_lay_54 (by decide) ?_
    refine S_callVi C0 hK h (c_X2_fail l z (uh M 0) 2) (cwV 1 hts gX2_lay_X2_fail rfl rfl rfl (by decide +kernel) ⟨Nat.le_of_ble_eq_true rfl, Nat.le_of_ble_eq_true rfl⟩) (k := 55) (ci := 2) (by omega) (fun ct hA => hA.1) rfl rfl rfl hl.1 (rest := []) rfl (Nat.le_of_ble_eq_true rfl) ⟨Nat.le_of_ble_eq_true rfl, Nat.le_of_ble_eq_true rfl⟩ dX2_lay_55 (fun r u H locs hp h => ?_)
    obtain ⟨rfl, hp⟩ := hp
    obtain ⟨M2, eM2⟩ : ∃ z9, z9 = uh (uh M 0) 2 := ⟨_, rfl⟩
    rw [hp, ← eM2] at h
    exact G_iret C0 hK h ⟨rfl, by subst eM2; rfl⟩ (Nat.le_of_ble_eq_true rfl) (Nat.le_of_ble_eq_true rfl) dX2_lay_58
  · refine lv_iload_n hx hb dX2_lay_32 rfl (lv_at hl 3 rfl) ?_
    refine lv_iconst (v := 1) hx hb dX2_lay_33 (by decide) ?_
    refine lv_bipush (v := 20) hx hb dX2_lay_34 (by decide) ?_
    refine S_callSi C0 hK h (c_X2_isIn l z (uh M 0) x 1 20) (va_cwS 3 hts gX2_lay_X2_isIn rfl rfl rfl (by decide +kernel) ⟨Nat.le_of_ble_eq_true rfl, Nat.le_of_ble_eq_true rfl⟩) rfl hl.1 (rest := []) rfl (Nat.le_of_ble_eq_true rfl) ⟨Nat.le_of_ble_eq_true rfl, Nat.le_of_ble_eq_true rfl⟩ dX2_lay_36 (fun r u H locs hp h => ?_)
    rcases q_bool _ hp with ⟨hc3, rfl, hu9⟩ | ⟨hc3, rfl, hu9⟩
    · rw [hu9] at h
      refine lv_if_eq (tgt := 53) hx hb dX2_lay_39 (by decide) (fun q9 => absurd q9 (by decide)) (fun _ => ?_)
      refine lv_iload hx hb dX2_lay_42 (lv_at hl 4 rfl) ?_
      refine lv_iconst (v := 0) hx hb dX2_lay_44 (by decide) ?_
      refine lv_bipush (v := 60) hx hb dX2_lay_45 (by decide) ?_
      refine S_callSi C0 hK h (c_X2_isIn l z (uh M 0) y 0 60) (va_cwS 3 hts gX2_lay_X2_isIn rfl rfl rfl (by decide +kernel) ⟨Nat.le_of_ble_eq_true rfl, Nat.le_of_ble_eq_true rfl⟩) rfl hl.1 (rest := []) rfl (Nat.le_of_ble_eq_true rfl) ⟨Nat.le_of_ble_eq_true rfl, Nat.le_of_ble_eq_true rfl⟩ dX2_lay_47 (fun r u H locs hp h => ?_)
      rcases q_bool _ hp with ⟨hc4, rfl, hu9⟩ | ⟨hc4, rfl, hu9⟩
      · rw [hu9] at h
        refine lv_if_ne (tgt := 59) hx hb dX2_lay_50 (by decide) (fun _ => ?_) (fun q9 => absurd q9 (by decide))
        exact absurd ⟨fun q => c_29 (by rw [q]), hc3, hc4⟩ hno
      · rw [hu9] at h
        refine lv_if_ne (tgt := 59) hx hb dX2_lay_50 (by decide) (fun q9 => absurd (by decide) q9) (fun _ => ?_)
        refine lv_aload_n hx hb dX2_lay_53 rfl (lv_at hl 0 rfl) ?_
        refine lv_iconst (v := 2) hx hb dX2_lay_54 (by decide) ?_
        refine S_callVi C0 hK h (c_X2_fail l z (uh M 0) 2) (cwV 1 hts gX2_lay_X2_fail rfl rfl rfl (by decide +kernel) ⟨Nat.le_of_ble_eq_true rfl, Nat.le_of_ble_eq_true rfl⟩) (k := 55) (ci := 2) (by omega) (fun ct hA => hA.1) rfl rfl rfl hl.1 (rest := []) rfl (Nat.le_of_ble_eq_true rfl) ⟨Nat.le_of_ble_eq_true rfl, Nat.le_of_ble_eq_true rfl⟩ dX2_lay_55 (fun r u H locs hp h => ?_)
        obtain ⟨rfl, hp⟩ := hp
        obtain ⟨M5, eM5⟩ : ∃ z9, z9 = uh (uh M 0) 2 := ⟨_, rfl⟩
        rw [hp, ← eM5] at h
        exact G_iret C0 hK h ⟨rfl, by subst eM5; rfl⟩ (Nat.le_of_ble_eq_true rfl) (Nat.le_of_ble_eq_true rfl) dX2_lay_58
    · rw [hu9] at h
      refine lv_if_eq (tgt := 53) hx hb dX2_lay_39 (by decide) (fun _ => ?_) (fun q9 => absurd (by decide) q9)
      refine lv_aload_n hx hb dX2_lay_53 rfl (lv_at hl 0 rfl) ?_
      refine lv_iconst (v := 2) hx hb dX2_lay_54 (by decide) ?_
      refine S_callVi C0 hK h (c_X2_fail l z (uh M 0) 2) (cwV 1 hts gX2_lay_X2_fail rfl rfl rfl (by decide +kernel) ⟨Nat.le_of_ble_eq_true rfl, Nat.le_of_ble_eq_true rfl⟩) (k := 55) (ci := 2) (by omega) (fun ct hA => hA.1) rfl rfl rfl hl.1 (rest := []) rfl (Nat.le_of_ble_eq_true rfl) ⟨Nat.le_of_ble_eq_true rfl, Nat.le_of_ble_eq_true rfl⟩ dX2_lay_55 (fun r u H locs hp h => ?_)
      obtain ⟨rfl, hp⟩ := hp
      obtain ⟨M6, eM6⟩ : ∃ z9, z9 = uh (uh M 0) 2 := ⟨_, rfl⟩
      rw [hp, ← eM6] at h
      exact G_iret C0 hK h ⟨rfl, by subst eM6; rfl⟩ (Nat.le_of_ble_eq_true rfl) (Nat.le_of_ble_eq_true rfl) dX2_lay_58
set_option maxHeartbeats 4000000 in
set_option maxRecDepth 100000 in
theorem c_X2_lay_no3 (l : Launch) (z : QZ) (M : QMs) (hk : MOk M) (i : Nat) (hi : i < mt_ M) (j : Nat) (hj : j < mt_ M) (hp : mp_ M = 14) (hne : i ≠ j) (x y : Int32) (h9 : (1 ≤ x ∧ x ≤ 20) ∧ (0 ≤ y ∧ y ≤ 60)) : GI l yX2_lay wsX2_lay ({ frames := 2, cells := 1, slots := 9, locals := 43 } : Room) z [.ref (za z 55), .int (nI i), .int (nI j), .int x, .int y] 1 9 (MAt z) 55 59 M (fun r M' => r = 0 ∧ M' = uh M 3) := by
  intro ct sz hn hq hat
  refine q_entry (lo := 55) (cc := cX2_lay) (maxL := 6) (ret := (some .int)) (by decide) rfl (Nat.le_of_ble_eq_true rfl) hn hq hat ?_
  intro p e s m below meth c ls C0 hK hsz h hl
  subst hsz
  obtain ⟨hx, hb, hr, hml, hown, hts, hlocks⟩ := id C0
  have hin2 : ∀ w ∈ u_ws RX2 TX2 6, w ∈ wsX2_lay := by decide +kernel
  have hl : lv_has ls 6 [(0, .ref (za z 55)), (1, .int (nI i)), (2, .int (nI j)), (3, .int x), (4, .int y)] := hl
  have hk1 := hk.1
  have hk2 := hk.2.1
  refine lv_aload_n hx hb dX2_lay_0 rfl (lv_at hl 0 rfl) ?_
  refine lv_iconst (v := 0) hx hb dX2_lay_1 (by decide) ?_
  refine N_ph C0 hK h hin2 (by decide +kernel) dX2_lay_2 (fun H locs M1 eM1 h => ?_)
  subst eM1
  refine lv_aload_n hx hb dX2_lay_5 rfl (lv_at hl 0 rfl) ?_
  refine lv_iload_n hx hb dX2_lay_6 rfl (lv_at hl 1 rfl) ?_
  refine S_callVi C0 hK h (c_X2_isTank l z (uh M 0) (nI i) hk) (cwV 1 hts gX2_lay_X2_isTank rfl rfl rfl (by decide +kernel) ⟨Nat.le_of_ble_eq_true rfl, Nat.le_of_ble_eq_true rfl⟩) (k := 55) (ci := 2) (by omega) (fun ct hA => hA.1) rfl rfl rfl hl.1 (rest := []) rfl (Nat.le_of_ble_eq_true rfl) ⟨Nat.le_of_ble_eq_true rfl, Nat.le_of_ble_eq_true rfl⟩ dX2_lay_7 (fun r u H locs hp h => ?_)
  obtain ⟨hr9, hu9⟩ := hp
  have hr9 := hr9.trans (if_pos (qin_nI (n := mt_ M) (by have := hk.1; have := hk.2.1; omega) hi))
  subst hr9
  rw [hu9] at h
  refine lv_if_eq (tgt := 21) hx hb dX2_lay_10 (by decide) (fun q9 => absurd q9 (by decide)) (fun _ => ?_)
  refine lv_aload_n hx hb dX2_lay_13 rfl (lv_at hl 0 rfl) ?_
  refine lv_iload_n hx hb dX2_lay_14 rfl (lv_at hl 2 rfl) ?_
  refine S_callVi C0 hK h (c_X2_isTank l z (uh M 0) (nI j) hk) (cwV 1 hts gX2_lay_X2_isTank rfl rfl rfl (by decide +kernel) ⟨Nat.le_of_ble_eq_true rfl, Nat.le_of_ble_eq_true rfl⟩) (k := 55) (ci := 2) (by omega) (fun ct hA => hA.1) rfl rfl rfl hl.1 (rest := []) rfl (Nat.le_of_ble_eq_true rfl) ⟨Nat.le_of_ble_eq_true rfl, Nat.le_of_ble_eq_true rfl⟩ dX2_lay_15 (fun r u H locs hp h => ?_)
  obtain ⟨hr9, hu9⟩ := hp
  have hr9 := hr9.trans (if_pos (qin_nI (n := mt_ M) (by have := hk.1; have := hk.2.1; omega) hj))
  subst hr9
  rw [hu9] at h
  refine lv_if_ne (tgt := 27) hx hb dX2_lay_18 (by decide) (fun _ => ?_) (fun q9 => absurd q9 (by decide))
  refine lv_iload_n hx hb dX2_lay_27 rfl (lv_at hl 1 rfl) ?_
  refine lv_iload_n hx hb dX2_lay_28 rfl (lv_at hl 2 rfl) ?_
  refine lv_icmp_eq (tgt := 53) hx hb dX2_lay_29 (by decide) (fun q9 => absurd q9 (fun q => hne (q_nIc _ q (by omega)))) (fun _ => ?_)
  refine lv_iload_n hx hb dX2_lay_32 rfl (lv_at hl 3 rfl) ?_
  refine lv_iconst (v := 1) hx hb dX2_lay_33 (by decide) ?_
  refine lv_bipush (v := 20) hx hb dX2_lay_34 (by decide) ?_
  refine S_callSi C0 hK h (c_X2_isIn l z (uh M 0) x 1 20) (va_cwS 3 hts gX2_lay_X2_isIn rfl rfl rfl (by decide +kernel) ⟨Nat.le_of_ble_eq_true rfl, Nat.le_of_ble_eq_true rfl⟩) rfl hl.1 (rest := []) rfl (Nat.le_of_ble_eq_true rfl) ⟨Nat.le_of_ble_eq_true rfl, Nat.le_of_ble_eq_true rfl⟩ dX2_lay_36 (fun r u H locs hp h => ?_)
  obtain ⟨hr9, hu9⟩ := hp
  have hr9 := hr9.trans (if_pos h9.1)
  subst hr9
  rw [hu9] at h
  refine lv_if_eq (tgt := 53) hx hb dX2_lay_39 (by decide) (fun q9 => absurd q9 (by decide)) (fun _ => ?_)
  refine lv_iload hx hb dX2_lay_42 (lv_at hl 4 rfl) ?_
  refine lv_iconst (v := 0) hx hb dX2_lay_44 (by decide) ?_
  refine lv_bipush (v := 60) hx hb dX2_lay_45 (by decide) ?_
  refine S_callSi C0 hK h (c_X2_isIn l z (uh M 0) y 0 60) (va_cwS 3 hts gX2_lay_X2_isIn rfl rfl rfl (by decide +kernel) ⟨Nat.le_of_ble_eq_true rfl, Nat.le_of_ble_eq_true rfl⟩) rfl hl.1 (rest := []) rfl (Nat.le_of_ble_eq_true rfl) ⟨Nat.le_of_ble_eq_true rfl, Nat.le_of_ble_eq_true rfl⟩ dX2_lay_47 (fun r u H locs hp h => ?_)
  obtain ⟨hr9, hu9⟩ := hp
  have hr9 := hr9.trans (if_pos h9.2)
  subst hr9
  rw [hu9] at h
  refine lv_if_ne (tgt := 59) hx hb dX2_lay_50 (by decide) (fun _ => ?_) (fun q9 => absurd q9 (by decide))
  refine lv_aload_n hx hb dX2_lay_59 rfl (lv_at hl 0 rfl) ?_
  refine M_g C0 hK h hin2 2 (by decide) (by decide +kernel) rfl dX2_lay_60 ?_
  refine lv_bipush (v := 14) hx hb dX2_lay_63 (by decide) ?_
  refine lv_icmp_ne (tgt := 74) hx hb dX2_lay_65 (by decide) (fun q9 => absurd (show nI (mp_ M) = 14 by rw [hp]; rfl) q9) (fun _ => ?_)
  refine lv_aload_n hx hb dX2_lay_68 rfl (lv_at hl 0 rfl) ?_
  refine lv_iconst (v := 3) hx hb dX2_lay_69 (by decide) ?_
  refine S_callVi C0 hK h (c_X2_fail l z (uh M 0) 3) (cwV 1 hts gX2_lay_X2_fail rfl rfl rfl (by decide +kernel) ⟨Nat.le_of_ble_eq_true rfl, Nat.le_of_ble_eq_true rfl⟩) (k := 55) (ci := 2) (by omega) (fun ct hA => hA.1) rfl rfl rfl hl.1 (rest := []) rfl (Nat.le_of_ble_eq_true rfl) ⟨Nat.le_of_ble_eq_true rfl, Nat.le_of_ble_eq_true rfl⟩ dX2_lay_70 (fun r u H locs hp h => ?_)
  obtain ⟨rfl, hp⟩ := hp
  obtain ⟨M2, eM2⟩ : ∃ z9, z9 = uh (uh M 0) 3 := ⟨_, rfl⟩
  rw [hp, ← eM2] at h
  exact G_iret C0 hK h ⟨rfl, by subst eM2; rfl⟩ (Nat.le_of_ble_eq_true rfl) (Nat.le_of_ble_eq_true rfl) dX2_lay_73
