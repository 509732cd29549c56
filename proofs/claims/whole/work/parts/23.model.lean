set_option maxHeartbeats 4000000 in
set_option maxRecDepth 100000 in
theorem c_X2_tank_ok (l : Launch) (z : QZ) (M : QMs) (hk : MOk M) (i : Nat) (hi : i < mt_ M) (k : Nat) (hk9 : k < 8) : GI l yX2_tank wsX2_tank ({ frames := 2, cells := 0, slots := 0, locals := 43 } : Room) z [.ref (za z 55), .int (nI i), .int (nI k)] 0 0 (MAt z) 55 59 M (fun r M' => r = mA M (8 * i + k) ∧ M' = uh M 0) := by
  intro ct sz hn hq hat
  refine q_entry (lo := 55) (cc := cX2_tank) (maxL := 3) (ret := (some .int)) (by decide) rfl (Nat.le_of_ble_eq_true rfl) hn hq hat ?_
  intro p e s m below meth c ls C0 hK hsz h hl
  subst hsz
  obtain ⟨hx, hb, hr, hml, hown, hts, hlocks⟩ := id C0
  have hin2 : ∀ w ∈ u_ws RX2 TX2 6, w ∈ wsX2_tank := by decide +kernel
  have hl : lv_has ls 3 [(0, .ref (za z 55)), (1, .int (nI i)), (2, .int (nI k))] := hl
  have hk1 := hk.1
  have hk2 := hk.2.1
  refine lv_aload_n hx hb dX2_tank_0 rfl (lv_at hl 0 rfl) ?_
  refine lv_iconst (v := 0) hx hb dX2_tank_1 (by decide) ?_
  refine N_ph C0 hK h hin2 (by decide +kernel) dX2_tank_2 (fun H locs M1 eM1 h => ?_)
  subst eM1
  refine lv_aload_n hx hb dX2_tank_5 rfl (lv_at hl 0 rfl) ?_
  refine lv_iload_n hx hb dX2_tank_6 rfl (lv_at hl 1 rfl) ?_
  refine S_callVi C0 hK h (c_X2_isTank l z (uh M 0) (nI i) hk) (cwV 1 hts gX2_tank_X2_isTank rfl rfl rfl (by decide +kernel) ⟨Nat.le_of_ble_eq_true rfl, Nat.le_of_ble_eq_true rfl⟩) (k := 55) (ci := 2) (by omega) (fun ct hA => hA.1) rfl rfl rfl hl.1 (rest := []) rfl (Nat.le_of_ble_eq_true rfl) ⟨Nat.le_of_ble_eq_true rfl, Nat.le_of_ble_eq_true rfl⟩ dX2_tank_7 (fun r u H locs hp h => ?_)
  obtain ⟨hr9, hu9⟩ := hp
  have hr9 := hr9.trans (if_pos (qin_nI (n := mt_ M) (by have := hk.1; have := hk.2.1; omega) hi))
  subst hr9
  rw [hu9] at h
  refine lv_if_eq (tgt := 32) hx hb dX2_tank_10 (by decide) (fun q9 => absurd q9 (by decide)) (fun _ => ?_)
  refine lv_iload_n hx hb dX2_tank_13 rfl (lv_at hl 2 rfl) ?_
  refine lv_iconst (v := 0) hx hb dX2_tank_14 (by decide) ?_
  refine lv_bipush (v := 7) hx hb dX2_tank_15 (by decide) ?_
  refine S_callSi C0 hK h (c_X2_isIn l z (uh M 0) (nI k) 0 7) (va_cwS 3 hts gX2_tank_X2_isIn rfl rfl rfl (by decide +kernel) ⟨Nat.le_of_ble_eq_true rfl, Nat.le_of_ble_eq_true rfl⟩) rfl hl.1 (rest := []) rfl (Nat.le_of_ble_eq_true rfl) ⟨Nat.le_of_ble_eq_true rfl, Nat.le_of_ble_eq_true rfl⟩ dX2_tank_17 (fun r u H locs hp h => ?_)
  obtain ⟨hr9, hu9⟩ := hp
  have hr9 := hr9.trans (if_pos (q_rng (k := k) 0 7 rfl rfl))
  subst hr9
  rw [hu9] at h
  refine lv_if_eq (tgt := 32) hx hb dX2_tank_20 (by decide) (fun q9 => absurd q9 (by decide)) (fun _ => ?_)
  refine lv_aload_n hx hb dX2_tank_23 rfl (lv_at hl 0 rfl) ?_
  refine lv_iload_n hx hb dX2_tank_24 rfl (lv_at hl 1 rfl) ?_
  refine lv_iload_n hx hb dX2_tank_25 rfl (lv_at hl 2 rfl) ?_
  refine S_callVi C0 hK h (c_X2_la l z (uh M 0) i (by omega) k (by omega)) (cwV 2 hts gX2_tank_X2_la rfl rfl rfl (by decide +kernel) ⟨Nat.le_of_ble_eq_true rfl, Nat.le_of_ble_eq_true rfl⟩) (k := 55) (ci := 2) (by omega) (fun ct hA => hA.1) rfl rfl rfl hl.1 (rest := []) rfl (Nat.le_of_ble_eq_true rfl) ⟨Nat.le_of_ble_eq_true rfl, Nat.le_of_ble_eq_true rfl⟩ dX2_tank_26 (fun r u H locs hp h => ?_)
  obtain ⟨rfl, hu9⟩ := hp
  rw [hu9] at h
  refine lv_goto (tgt := 37) hx hb dX2_tank_29 (by decide) ?_
  exact G_iret C0 hK h ⟨rfl, by rfl⟩ (Nat.le_of_ble_eq_true rfl) (Nat.le_of_ble_eq_true rfl) dX2_tank_37
set_option maxHeartbeats 4000000 in
set_option maxRecDepth 100000 in
theorem c_X2_tank_no (l : Launch) (z : QZ) (M : QMs) (hk : MOk M) (x y : Int32) (hno : ¬ (qin x (mt_ M) ∧ (0 ≤ y ∧ y ≤ 7))) : GI l yX2_tank wsX2_tank ({ frames := 2, cells := 0, slots := 0, locals := 43 } : Room) z [.ref (za z 55), .int x, .int y] 0 0 (MAt z) 55 59 M (fun r M' => r = 0 ∧ M' = uh M 1) := by
  intro ct sz hn hq hat
  refine q_entry (lo := 55) (cc := cX2_tank) (maxL := 3) (ret := (some .int)) (by decide) rfl (Nat.le_of_ble_eq_true rfl) hn hq hat ?_
  intro p e s m below meth c ls C0 hK hsz h hl
  subst hsz
  obtain ⟨hx, hb, hr, hml, hown, hts, hlocks⟩ := id C0
  have hin2 : ∀ w ∈ u_ws RX2 TX2 6, w ∈ wsX2_tank := by decide +kernel
  have hl : lv_has ls 3 [(0, .ref (za z 55)), (1, .int x), (2, .int y)] := hl
  refine lv_aload_n hx hb dX2_tank_0 rfl (lv_at hl 0 rfl) ?_
  refine lv_iconst (v := 0) hx hb dX2_tank_1 (by decide) ?_
  refine N_ph C0 hK h hin2 (by decide +kernel) dX2_tank_2 (fun H locs M1 eM1 h => ?_)
  subst eM1
  refine lv_aload_n hx hb dX2_tank_5 rfl (lv_at hl 0 rfl) ?_
  refine lv_iload_n hx hb dX2_tank_6 rfl (lv_at hl 1 rfl) ?_
  refine S_callVi C0 hK h (c_X2_isTank l z (uh M 0) x hk) (cwV 1 hts gX2_tank_X2_isTank rfl rfl rfl (by decide +kernel) ⟨Nat.le_of_ble_eq_true rfl, Nat.le_of_ble_eq_true rfl⟩) (k := 55) (ci := 2) (by omega) (fun ct hA => hA.1) rfl rfl rfl hl.1 (rest := []) rfl (Nat.le_of_ble_eq_true rfl) ⟨Nat.le_of_ble_eq_true rfl, Nat.le_of_ble_eq_true rfl⟩ dX2_tank_7 (fun r u H locs hp h => ?_)
  rcases q_bool _ hp with ⟨hc2, rfl, hu9⟩ | ⟨hc2, rfl, hu9⟩
  · rw [hu9] at h
    refine lv_if_eq (tgt := 32) hx hb dX2_tank_10 (by decide) (fun q9 => absurd q9 (by decide)) (fun _ => ?_)
    refine lv_iload_n hx hb dX2_tank_13 rfl (lv_at hl 2 rfl) ?_
    refine lv_iconst (v := 0) hx hb dX2_tank_14 (by decide) ?_
    refine lv_bipush (v := 7) hx hb dX2_tank_15 (by decide) ?_
    refine S_callSi C0 hK h (c_X2_isIn l z (uh M 0) y 0 7) (va_cwS 3 hts gX2_tank_X2_isIn rfl rfl rfl (by decide +kernel) ⟨Nat.le_of_ble_eq_true rfl, Nat.le_of_ble_eq_true rfl⟩) rfl hl.1 (rest := []) rfl (Nat.le_of_ble_eq_true rfl) ⟨Nat.le_of_ble_eq_true rfl, Nat.le_of_ble_eq_true rfl⟩ dX2_tank_17 (fun r u H locs hp h => ?_)
    rcases q_bool _ hp with ⟨hc3, rfl, hu9⟩ | ⟨hc3, rfl, hu9⟩
    · rw [hu9] at h
      refine lv_if_eq (tgt := 32) hx hb dX2_tank_20 (by decide) (fun q9 => absurd q9 (by decide)) (fun _ => ?_)
      exact absurd ⟨hc2, hc3⟩ hno
    · rw [hu9] at h
      refine lv_if_eq (tgt := 32) hx hb dX2_tank_20 (by decide) (fun _ => ?_) (fun q9 => absurd (by decide) q9)
      refine lv_aload_n hx hb dX2_tank_32 rfl (lv_at hl 0 rfl) ?_
      refine lv_iconst (v := 1) hx hb dX2_tank_33 (by decide) ?_
      refine S_callVi C0 hK h (c_X2_fail l z (uh M 0) 1) (cwV 1 hts gX2_tank_X2_fail rfl rfl rfl (by decide +kernel) ⟨Nat.le_of_ble_eq_true rfl, Nat.le_of_ble_eq_true rfl⟩) (k := 55) (ci := 2) (by omega) (fun ct hA => hA.1) rfl rfl rfl hl.1 (rest := []) rfl (Nat.le_of_ble_eq_true rfl) ⟨Nat.le_of_ble_eq_true rfl, Nat.le_of_ble_eq_true rfl⟩ dX2_tank_34 (fun r u H locs hp h => ?_)
      obtain ⟨rfl, hp⟩ := hp
      obtain ⟨M4, eM4⟩ : ∃ z9, z9 = uh (uh M 0) 1 := ⟨_, rfl⟩
      rw [hp, ← eM4] at h
      exact G_iret C0 hK h ⟨rfl, by subst eM4; rfl⟩ (Nat.le_of_ble_eq_true rfl) (Nat.le_of_ble_eq_true rfl) dX2_tank_37
  · rw [hu9] at h
    refine lv_if_eq (tgt := 32) hx hb dX2_tank_10 (by decide) (fun _ => ?_) (fun q9 => absurd (by decide) q9)
    refine lv_aload_n hx hb dX2_tank_32 rfl (lv_at hl 0 rfl) ?_
    refine lv_iconst (v := 1) hx hb dX2_tank_33 (by decide) ?_
    refine S_callVi C0 hK h (c_X2_fail l z (uh M 0) 1) (cwV 1 hts gX2_tank_X2_fail rfl rfl rfl (by decide +kernel) ⟨Nat.le_of_ble_eq_true rfl, Nat.le_of_ble_eq_true rfl⟩) (k := 55) (ci := 2) (by omega) (fun ct hA => hA.1) rfl rfl rfl hl.1 (rest := []) rfl (Nat.le_of_ble_eq_true rfl) ⟨Nat.le_of_ble_eq_true rfl, Nat.le_of_ble_eq_true rfl⟩ dX2_tank_34 (fun r u H locs hp h => ?_)
    obtain ⟨rfl, hp⟩ := hp
    obtain ⟨M5, eM5⟩ : ∃ z9, z9 = uh (uh M 0) 1 := ⟨_, rfl⟩
    rw [hp, ← eM5] at h
    exact G_iret C0 hK h ⟨rfl, by subst eM5; rfl⟩ (Nat.le_of_ble_eq_true rfl) (Nat.le_of_ble_eq_true rfl) dX2_tank_37
set_option maxHeartbeats 4000000 in
set_option maxRecDepth 100000 in
theorem c_X2_pipe_ok (l : Launch) (z : QZ) (M : QMs) (hk : MOk M) (i : Nat) (hi : i < mp_ M) (k : Nat) (hk9 : k < 9) : GI l yX2_pipe wsX2_pipe ({ frames := 4, cells := 0, slots := 0, locals := 87 } : Room) z [.ref (za z 55), .int (nI i), .int (nI k)] 0 0 (MAt z) 55 59 M (fun r M' => r = mtold M i k ∧ M' = uh M 0) := by
  intro ct sz hn hq hat
  refine q_entry (lo := 55) (cc := cX2_pipe) (maxL := 3) (ret := (some .int)) (by decide) rfl (Nat.le_of_ble_eq_true rfl) hn hq hat ?_
  intro p e s m below meth c ls C0 hK hsz h hl
  subst hsz
  obtain ⟨hx, hb, hr, hml, hown, hts, hlocks⟩ := id C0
  have hin2 : ∀ w ∈ u_ws RX2 TX2 6, w ∈ wsX2_pipe := by decide +kernel
  have hl : lv_has ls 3 [(0, .ref (za z 55)), (1, .int (nI i)), (2, .int (nI k))] := hl
  have hk1 := hk.1
  have hk2 := hk.2.1
  refine lv_aload_n hx hb dX2_pipe_0 rfl (lv_at hl 0 rfl) ?_
  refine lv_iconst (v := 0) hx hb dX2_pipe_1 (by decide) ?_
  refine N_ph C0 hK h hin2 (by decide +kernel) dX2_pipe_2 (fun H locs M1 eM1 h => ?_)
  subst eM1
  refine lv_aload_n hx hb dX2_pipe_5 rfl (lv_at hl 0 rfl) ?_
  refine lv_iload_n hx hb dX2_pipe_6 rfl (lv_at hl 1 rfl) ?_
  refine S_callVi C0 hK h (c_X2_isPipe l z (uh M 0) (nI i) hk) (cwV 1 hts gX2_pipe_X2_isPipe rfl rfl rfl (by decide +kernel) ⟨Nat.le_of_ble_eq_true rfl, Nat.le_of_ble_eq_true rfl⟩) (k := 55) (ci := 2) (by omega) (fun ct hA => hA.1) rfl rfl rfl hl.1 (rest := []) rfl (Nat.le_of_ble_eq_true rfl) ⟨Nat.le_of_ble_eq_true rfl, Nat.le_of_ble_eq_true rfl⟩ dX2_pipe_7 (fun r u H locs hp h => ?_)
  obtain ⟨hr9, hu9⟩ := hp
  have hr9 := hr9.trans (if_pos (qin_nI (n := mp_ M) (by have := hk.1; have := hk.2.1; omega) hi))
  subst hr9
  rw [hu9] at h
  refine lv_if_eq (tgt := 32) hx hb dX2_pipe_10 (by decide) (fun q9 => absurd q9 (by decide)) (fun _ => ?_)
  refine lv_iload_n hx hb dX2_pipe_13 rfl (lv_at hl 2 rfl) ?_
  refine lv_iconst (v := 0) hx hb dX2_pipe_14 (by decide) ?_
  refine lv_bipush (v := 8) hx hb dX2_pipe_15 (by decide) ?_
  refine S_callSi C0 hK h (c_X2_isIn l z (uh M 0) (nI k) 0 8) (va_cwS 3 hts gX2_pipe_X2_isIn rfl rfl rfl (by decide +kernel) ⟨Nat.le_of_ble_eq_true rfl, Nat.le_of_ble_eq_true rfl⟩) rfl hl.1 (rest := []) rfl (Nat.le_of_ble_eq_true rfl) ⟨Nat.le_of_ble_eq_true rfl, Nat.le_of_ble_eq_true rfl⟩ dX2_pipe_17 (fun r u H locs hp h => ?_)
  obtain ⟨hr9, hu9⟩ := hp
  have hr9 := hr9.trans (if_pos (q_rng (k := k) 0 8 rfl rfl))
  subst hr9
  rw [hu9] at h
  refine lv_if_eq (tgt := 32) hx hb dX2_pipe_20 (by decide) (fun q9 => absurd q9 (by decide)) (fun _ => ?_)
  refine lv_aload_n hx hb dX2_pipe_23 rfl (lv_at hl 0 rfl) ?_
  refine lv_iload_n hx hb dX2_pipe_24 rfl (lv_at hl 1 rfl) ?_
  refine lv_iload_n hx hb dX2_pipe_25 rfl (lv_at hl 2 rfl) ?_
  refine S_callVi C0 hK h (c_X2_pipeTold l z (uh M 0) hk i hi k (by omega)) (cwV 2 hts gX2_pipe_X2_pipeTold rfl rfl rfl (by decide +kernel) ⟨Nat.le_of_ble_eq_true rfl, Nat.le_of_ble_eq_true rfl⟩) (k := 55) (ci := 2) (by omega) (fun ct hA => hA.1) rfl rfl rfl hl.1 (rest := []) rfl (Nat.le_of_ble_eq_true rfl) ⟨Nat.le_of_ble_eq_true rfl, Nat.le_of_ble_eq_true rfl⟩ dX2_pipe_26 (fun r u H locs hp h => ?_)
  obtain ⟨rfl, hu9⟩ := hp
  rw [hu9] at h
  refine lv_goto (tgt := 37) hx hb dX2_pipe_29 (by decide) ?_
  exact G_iret C0 hK h ⟨rfl, by rfl⟩ (Nat.le_of_ble_eq_true rfl) (Nat.le_of_ble_eq_true rfl) dX2_pipe_37
set_option maxHeartbeats 4000000 in
set_option maxRecDepth 100000 in
theorem c_X2_pipe_no (l : Launch) (z : QZ) (M : QMs) (hk : MOk M) (x y : Int32) (hno : ¬ (qin x (mp_ M) ∧ (0 ≤ y ∧ y ≤ 8))) : GI l yX2_pipe wsX2_pipe ({ frames := 2, cells := 0, slots := 0, locals := 43 } : Room) z [.ref (za z 55), .int x, .int y] 0 0 (MAt z) 55 59 M (fun r M' => r = 0 ∧ M' = uh M 1) := by
  intro ct sz hn hq hat
  refine q_entry (lo := 55) (cc := cX2_pipe) (maxL := 3) (ret := (some .int)) (by decide) rfl (Nat.le_of_ble_eq_true rfl) hn hq hat ?_
  intro p e s m below meth c ls C0 hK hsz h hl
  subst hsz
  obtain ⟨hx, hb, hr, hml, hown, hts, hlocks⟩ := id C0
  have hin2 : ∀ w ∈ u_ws RX2 TX2 6, w ∈ wsX2_pipe := by decide +kernel
  have hl : lv_has ls 3 [(0, .ref (za z 55)), (1, .int x), (2, .int y)] := hl
  refine lv_aload_n hx hb dX2_pipe_0 rfl (lv_at hl 0 rfl) ?_
  refine lv_iconst (v := 0) hx hb dX2_pipe_1 (by decide) ?_
  refine N_ph C0 hK h hin2 (by decide +kernel) dX2_pipe_2 (fun H locs M1 eM1 h => ?_)
  subst eM1
  refine lv_aload_n hx hb dX2_pipe_5 rfl (lv_at hl 0 rfl) ?_
  refine lv_iload_n hx hb dX2_pipe_6 rfl (lv_at hl 1 rfl) ?_
  refine S_callVi C0 hK h (c_X2_isPipe l z (uh M 0) x hk) (cwV 1 hts gX2_pipe_X2_isPipe rfl rfl rfl (by decide +kernel) ⟨Nat.le_of_ble_eq_true rfl, Nat.le_of_ble_eq_true rfl⟩) (k := 55) (ci := 2) (by omega) (fun ct hA => hA.1) rfl rfl rfl hl.1 (rest := []) rfl (Nat.le_of_ble_eq_true rfl) ⟨Nat.le_of_ble_eq_true rfl, Nat.le_of_ble_eq_true rfl⟩ dX2_pipe_7 (fun r u H locs hp h => ?_)
  rcases q_bool _ hp with ⟨hc2, rfl, hu9⟩ | ⟨hc2, rfl, hu9⟩
  · rw [hu9] at h
    refine lv_if_eq (tgt := 32) hx hb dX2_pipe_10 (by decide) (fun q9 => absurd q9 (by decide)) (fun _ => ?_)
    refine lv_iload_n hx hb dX2_pipe_13 rfl (lv_at hl 2 rfl) ?_
    refine lv_iconst (v := 0) hx hb dX2_pipe_14 (by decide) ?_
    refine lv_bipush (v := 8) hx hb dX2_pipe_15 (by decide) ?_
    refine S_callSi C0 hK h (c_X2_isIn l z (uh M 0) y 0 8) (va_cwS 3 hts gX2_pipe_X2_isIn rfl rfl rfl (by decide +kernel) ⟨Nat.le_of_ble_eq_true rfl, Nat.le_of_ble_eq_true rfl⟩) rfl hl.1 (rest := []) rfl (Nat.le_of_ble_eq_true rfl) ⟨Nat.le_of_ble_eq_true rfl, Nat.le_of_ble_eq_true rfl⟩ dX2_pipe_17 (fun r u H locs hp h => ?_)
    rcases q_bool _ hp with ⟨hc3, rfl, hu9⟩ | ⟨hc3, rfl, hu9⟩
    · rw [hu9] at h
      refine lv_if_eq (tgt := 32) hx hb dX2_pipe_20 (by decide) (fun q9 => absurd q9 (by decide)) (fun _ => ?_)
      exact absurd ⟨hc2, hc3⟩ hno
    · rw [hu9] at h
      refine lv_if_eq (tgt := 32) hx hb dX2_pipe_20 (by decide) (fun _ => ?_) (fun q9 => absurd (by decide) q9)
      refine lv_aload_n hx hb dX2_pipe_32 rfl (lv_at hl 0 rfl) ?_
      refine lv_iconst (v := 1) hx hb dX2_pipe_33 (by decide) ?_
      refine S_callVi C0 hK h (c_X2_fail l z (uh M 0) 1) (cwV 1 hts gX2_pipe_X2_fail rfl rfl rfl (by decide +kernel) ⟨Nat.le_of_ble_eq_true rfl, Nat.le_of_ble_eq_true rfl⟩) (k := 55) (ci := 2) (by omega) (fun ct hA => hA.1) rfl rfl rfl hl.1 (rest := []) rfl (Nat.le_of_ble_eq_true rfl) ⟨Nat.le_of_ble_eq_true rfl, Nat.le_of_ble_eq_true rfl⟩ dX2_pipe_34 (fun r u H locs hp h => ?_)
      obtain ⟨rfl, hp⟩ := hp
      obtain ⟨M4, eM4⟩ : ∃ z9, z9 = uh (uh M 0) 1 := ⟨_, rfl⟩
      rw [hp, ← eM4] at h
      exact G_iret C0 hK h ⟨rfl, by subst eM4; rfl⟩ (Nat.le_of_ble_eq_true rfl) (Nat.le_of_ble_eq_true rfl) dX2_pipe_37
  · rw [hu9] at h
    refine lv_if_eq (tgt := 32) hx hb dX2_pipe_10 (by decide) (fun _ => ?_) (fun q9 => absurd (by decide) q9)
    refine lv_aload_n hx hb dX2_pipe_32 rfl (lv_at hl 0 rfl) ?_
    refine lv_iconst (v := 1) hx hb dX2_pipe_33 (by decide) ?_
    refine S_callVi C0 hK h (c_X2_fail l z (uh M 0) 1) (cwV 1 hts gX2_pipe_X2_fail rfl rfl rfl (by decide +kernel) ⟨Nat.le_of_ble_eq_true rfl, Nat.le_of_ble_eq_true rfl⟩) (k := 55) (ci := 2) (by omega) (fun ct hA => hA.1) rfl rfl rfl hl.1 (rest := []) rfl (Nat.le_of_ble_eq_true rfl) ⟨Nat.le_of_ble_eq_true rfl, Nat.le_of_ble_eq_true rfl⟩ dX2_pipe_34 (fun r u H locs hp h => ?_)
    obtain ⟨rfl, hp⟩ := hp
    obtain ⟨M5, eM5⟩ : ∃ z9, z9 = uh (uh M 0) 1 := ⟨_, rfl⟩
    rw [hp, ← eM5] at h
    exact G_iret C0 hK h ⟨rfl, by subst eM5; rfl⟩ (Nat.le_of_ble_eq_true rfl) (Nat.le_of_ble_eq_true rfl) dX2_pipe_37
set_option maxHeartbeats 4000000 in
set_option maxRecDepth 100000 in
theorem c_X2_counted (l : Launch) (z : QZ) (M : QMs) (hk : MOk M) (n : Nat) (hn9 : n ≤ 8) : GI l yX2_counted wsX2_counted ({ frames := 2, cells := 0, slots := 0, locals := 45 } : Room) z [.ref (za z 55), .int (nI n)] 0 0 (MAt z) 55 59 M (fun r M' => r = mcount M n ∧ M' = M) := by
  intro ct sz hn hq hat
  refine q_entry (lo := 55) (cc := cX2_counted) (maxL := 4) (ret := (some .int)) (by decide) rfl (Nat.le_of_ble_eq_true rfl) hn hq hat ?_
  intro p e s m below meth c ls C0 hK hsz h hl
  subst hsz
  obtain ⟨hx, hb, hr, hml, hown, hts, hlocks⟩ := id C0
  have hin2 : ∀ w ∈ u_ws RX2 TX2 6, w ∈ wsX2_counted := by decide +kernel
  have hl : lv_has ls 4 [(0, .ref (za z 55)), (1, .int (nI n))] := hl
  have hk1 := hk.1
  have hk2 := hk.2.1
  rcases (show n = 0 ∨ n = 1 ∨ n = 2 ∨ n = 3 ∨ n = 4 ∨ n = 5 ∨ n = 6 ∨ n = 7 ∨ n = 8 by omega) with rfl | rfl | rfl | rfl | rfl | rfl | rfl | rfl | rfl
  · refine lv_iconst (v := 0) hx hb dX2_counted_0 (by decide) ?_
    refine lv_istore_n (lv' := [(2, .int 0), (0, .ref (za z 55)), (1, .int (nI 0))]) hx hb dX2_counted_1 rfl hl (by decide) rfl (fun ls hl => ?_)
    refine lv_iload_n hx hb dX2_counted_2 rfl (lv_at hl 2 rfl) ?_
    refine lv_tableIn (off := 45) (tgt := 48) hx hb dX2_counted_3 (by decide +kernel) (by decide +kernel) rfl (by decide) ?_
    refine lv_aload_n hx hb dX2_counted_48 rfl (lv_at hl 1 rfl) ?_
    refine M_g C0 hK h hin2 5 (by decide) (by decide +kernel) rfl dX2_counted_49 ?_
    refine lv_iconst (v := 0) hx hb dX2_counted_52 (by decide) ?_
    refine M_ldY C0 hK h (k := 0) rfl (by omega) dX2_counted_53 ?_
    exact G_iret C0 hK h ⟨rfl, rfl⟩ (Nat.le_of_ble_eq_true rfl) (Nat.le_of_ble_eq_true rfl) dX2_counted_54
  · refine lv_iconst (v := 0) hx hb dX2_counted_0 (by decide) ?_
    refine lv_istore_n (lv' := [(2, .int 0), (0, .ref (za z 55)), (1, .int (nI 1))]) hx hb dX2_counted_1 rfl hl (by decide) rfl (fun ls hl => ?_)
    refine lv_iload_n hx hb dX2_counted_2 rfl (lv_at hl 2 rfl) ?_
    refine lv_tableIn (off := 52) (tgt := 55) hx hb dX2_counted_3 (by decide +kernel) (by decide +kernel) rfl (by decide) ?_
    refine lv_aload_n hx hb dX2_counted_55 rfl (lv_at hl 1 rfl) ?_
    refine M_g C0 hK h hin2 1 (by decide) (by decide +kernel) rfl dX2_counted_56 ?_
    exact G_iret C0 hK h ⟨rfl, rfl⟩ (Nat.le_of_ble_eq_true rfl) (Nat.le_of_ble_eq_true rfl) dX2_counted_59
  · refine lv_iconst (v := 0) hx hb dX2_counted_0 (by decide) ?_
    refine lv_istore_n (lv' := [(2, .int 0), (0, .ref (za z 55)), (1, .int (nI 2))]) hx hb dX2_counted_1 rfl hl (by decide) rfl (fun ls hl => ?_)
    refine lv_iload_n hx hb dX2_counted_2 rfl (lv_at hl 2 rfl) ?_
    refine lv_tableIn (off := 57) (tgt := 60) hx hb dX2_counted_3 (by decide +kernel) (by decide +kernel) rfl (by decide) ?_
    refine lv_aload_n hx hb dX2_counted_60 rfl (lv_at hl 1 rfl) ?_
    refine M_g C0 hK h hin2 2 (by decide) (by decide +kernel) rfl dX2_counted_61 ?_
    exact G_iret C0 hK h ⟨rfl, rfl⟩ (Nat.le_of_ble_eq_true rfl) (Nat.le_of_ble_eq_true rfl) dX2_counted_64
  · refine lv_iconst (v := 0) hx hb dX2_counted_0 (by decide) ?_
    refine lv_istore_n (lv' := [(2, .int 0), (0, .ref (za z 55)), (1, .int (nI 3))]) hx hb dX2_counted_1 rfl hl (by decide) rfl (fun ls hl => ?_)
    refine lv_iload_n hx hb dX2_counted_2 rfl (lv_at hl 2 rfl) ?_
    refine lv_tableIn (off := 62) (tgt := 65) hx hb dX2_counted_3 (by decide +kernel) (by decide +kernel) rfl (by decide) ?_
    refine lv_aload_n hx hb dX2_counted_65 rfl (lv_at hl 1 rfl) ?_
    refine lv_iconst (v := 3) hx hb dX2_counted_66 (by decide) ?_
    refine S_callVi C0 hK h (c_X2_all l z M hk 3 (by decide)) (cwV 1 hts gX2_counted_X2_all rfl rfl rfl (by decide +kernel) ⟨Nat.le_of_ble_eq_true rfl, Nat.le_of_ble_eq_true rfl⟩) (k := 55) (ci := 2) (by omega) (fun ct hA => hA.1) rfl rfl rfl hl.1 (rest := []) rfl (Nat.le_of_ble_eq_true rfl) ⟨Nat.le_of_ble_eq_true rfl, Nat.le_of_ble_eq_true rfl⟩ dX2_counted_67 (fun r u H locs hp h => ?_)
    obtain ⟨rfl, hu9⟩ := hp
    rw [hu9] at h
    exact G_iret C0 hK h ⟨rfl, rfl⟩ (Nat.le_of_ble_eq_true rfl) (Nat.le_of_ble_eq_true rfl) dX2_counted_70
  · refine lv_iconst (v := 0) hx hb dX2_counted_0 (by decide) ?_
    refine lv_istore_n (lv' := [(2, .int 0), (0, .ref (za z 55)), (1, .int (nI 4))]) hx hb dX2_counted_1 rfl hl (by decide) rfl (fun ls hl => ?_)
    refine lv_iload_n hx hb dX2_counted_2 rfl (lv_at hl 2 rfl) ?_
    refine lv_tableIn (off := 68) (tgt := 71) hx hb dX2_counted_3 (by decide +kernel) (by decide +kernel) rfl (by decide) ?_
    refine lv_aload_n hx hb dX2_counted_71 rfl (lv_at hl 1 rfl) ?_
    refine lv_iconst (v := 4) hx hb dX2_counted_72 (by decide) ?_
    refine S_callVi C0 hK h (c_X2_all l z M hk 4 (by decide)) (cwV 1 hts gX2_counted_X2_all rfl rfl rfl (by decide +kernel) ⟨Nat.le_of_ble_eq_true rfl, Nat.le_of_ble_eq_true rfl⟩) (k := 55) (ci := 2) (by omega) (fun ct hA => hA.1) rfl rfl rfl hl.1 (rest := []) rfl (Nat.le_of_ble_eq_true rfl) ⟨Nat.le_of_ble_eq_true rfl, Nat.le_of_ble_eq_true rfl⟩ dX2_counted_73 (fun r u H locs hp h => ?_)
    obtain ⟨rfl, hu9⟩ := hp
    rw [hu9] at h
    exact G_iret C0 hK h ⟨rfl, rfl⟩ (Nat.le_of_ble_eq_true rfl) (Nat.le_of_ble_eq_true rfl) dX2_counted_76
  · refine lv_iconst (v := 0) hx hb dX2_counted_0 (by decide) ?_
    refine lv_istore_n (lv' := [(2, .int 0), (0, .ref (za z 55)), (1, .int (nI 5))]) hx hb dX2_counted_1 rfl hl (by decide) rfl (fun ls hl => ?_)
    refine lv_iload_n hx hb dX2_counted_2 rfl (lv_at hl 2 rfl) ?_
    refine lv_tableIn (off := 74) (tgt := 77) hx hb dX2_counted_3 (by decide +kernel) (by decide +kernel) rfl (by decide) ?_
    refine lv_aload_n hx hb dX2_counted_77 rfl (lv_at hl 1 rfl) ?_
    refine lv_bipush (v := 6) hx hb dX2_counted_78 (by decide) ?_
    refine S_callVi C0 hK h (c_X2_all l z M hk 6 (by decide)) (cwV 1 hts gX2_counted_X2_all rfl rfl rfl (by decide +kernel) ⟨Nat.le_of_ble_eq_true rfl, Nat.le_of_ble_eq_true rfl⟩) (k := 55) (ci := 2) (by omega) (fun ct hA => hA.1) rfl rfl rfl hl.1 (rest := []) rfl (Nat.le_of_ble_eq_true rfl) ⟨Nat.le_of_ble_eq_true rfl, Nat.le_of_ble_eq_true rfl⟩ dX2_counted_80 (fun r u H locs hp h => ?_)
    obtain ⟨rfl, hu9⟩ := hp
    rw [hu9] at h
    exact G_iret C0 hK h ⟨rfl, rfl⟩ (Nat.le_of_ble_eq_true rfl) (Nat.le_of_ble_eq_true rfl) dX2_counted_83
  · refine lv_iconst (v := 0) hx hb dX2_counted_0 (by decide) ?_
    refine lv_istore_n (lv' := [(2, .int 0), (0, .ref (za z 55)), (1, .int (nI 6))]) hx hb dX2_counted_1 rfl hl (by decide) rfl (fun ls hl => ?_)
    refine lv_iload_n hx hb dX2_counted_2 rfl (lv_at hl 2 rfl) ?_
    refine lv_tableIn (off := 81) (tgt := 84) hx hb dX2_counted_3 (by decide +kernel) (by decide +kernel) rfl (by decide) ?_
    refine lv_aload_n hx hb dX2_counted_84 rfl (lv_at hl 1 rfl) ?_
    refine lv_bipush (v := 7) hx hb dX2_counted_85 (by decide) ?_
    refine S_callVi C0 hK h (c_X2_allPipes l z M hk 7 (by decide)) (cwV 1 hts gX2_counted_X2_allPipes rfl rfl rfl (by decide +kernel) ⟨Nat.le_of_ble_eq_true rfl, Nat.le_of_ble_eq_true rfl⟩) (k := 55) (ci := 2) (by omega) (fun ct hA => hA.1) rfl rfl rfl hl.1 (rest := []) rfl (Nat.le_of_ble_eq_true rfl) ⟨Nat.le_of_ble_eq_true rfl, Nat.le_of_ble_eq_true rfl⟩ dX2_counted_87 (fun r u H locs hp h => ?_)
    obtain ⟨rfl, hu9⟩ := hp
    rw [hu9] at h
    exact G_iret C0 hK h ⟨rfl, rfl⟩ (Nat.le_of_ble_eq_true rfl) (Nat.le_of_ble_eq_true rfl) dX2_counted_90
  · refine lv_iconst (v := 0) hx hb dX2_counted_0 (by decide) ?_
    refine lv_istore_n (lv' := [(2, .int 0), (0, .ref (za z 55)), (1, .int (nI 7))]) hx hb dX2_counted_1 rfl hl (by decide) rfl (fun ls hl => ?_)
    refine lv_iload_n hx hb dX2_counted_2 rfl (lv_at hl 2 rfl) ?_
    refine lv_tableIn (off := 88) (tgt := 91) hx hb dX2_counted_3 (by decide +kernel) (by decide +kernel) rfl (by decide) ?_
    refine lv_aload_n hx hb dX2_counted_91 rfl (lv_at hl 1 rfl) ?_
    refine lv_bipush (v := 7) hx hb dX2_counted_92 (by decide) ?_
    refine S_callVi C0 hK h (c_X2_all l z M hk 7 (by decide)) (cwV 1 hts gX2_counted_X2_all rfl rfl rfl (by decide +kernel) ⟨Nat.le_of_ble_eq_true rfl, Nat.le_of_ble_eq_true rfl⟩) (k := 55) (ci := 2) (by omega) (fun ct hA => hA.1) rfl rfl rfl hl.1 (rest := []) rfl (Nat.le_of_ble_eq_true rfl) ⟨Nat.le_of_ble_eq_true rfl, Nat.le_of_ble_eq_true rfl⟩ dX2_counted_94 (fun r u H locs hp h => ?_)
    obtain ⟨rfl, hu9⟩ := hp
    rw [hu9] at h
    exact G_iret C0 hK h ⟨rfl, rfl⟩ (Nat.le_of_ble_eq_true rfl) (Nat.le_of_ble_eq_true rfl) dX2_counted_97
  · have L100 : ∀ (d i : Nat), i + d = mt_ M → ∀ (H : Heap) (locs : List Loc) (ls : Array Slot), GW z (MAt z) 55 59 s.heap ct M H locs → lv_has ls 4 [(3, .int (nI i)), (2, .int (mthc M i)), (0, .ref (za z 55)), (1, .int (nI 8))] → W p l e ({ frames := 2, cells := 0, slots := 0, locals := 45 } : Room) s m [.ref (za z 55), .int (nI 8)].toArray below meth c H locs 0 0 (EI z (MAt z) 55 59 ct s below [.ref (za z 55), .int (nI 8)] 0 0 (fun r M' => r = mcount M 8 ∧ M' = M)) (F0 m 100 ls []) := by
      intro  d
      induction d with
      | zero =>
        intro i hdi H locs ls h hl
        have hEi : i = mt_ M := by omega
        refine lv_iload_n hx hb dX2_counted_100 rfl (lv_at hl 0 rfl) ?_
        refine lv_aload_n hx hb dX2_counted_101 rfl (lv_at hl 2 rfl) ?_
        refine M_g C0 hK h hin2 1 (by decide) (by decide +kernel) rfl dX2_counted_102 ?_
        refine lv_icmp_ge (tgt := 137) hx hb dX2_counted_105 (by decide) (fun _ => ?_) (fun q9 => absurd (nI_le (by omega) (by omega)) q9)
        refine lv_iload_n hx hb dX2_counted_137 rfl (lv_at hl 1 rfl) ?_
        exact G_iret C0 hK h ⟨by rw [hEi]; rfl, rfl⟩ (Nat.le_of_ble_eq_true rfl) (Nat.le_of_ble_eq_true rfl) dX2_counted_138
      | succ d ihL100 =>
        intro i hdi H locs ls h hl
        have hEi : i < mt_ M := by omega
        refine lv_iload_n hx hb dX2_counted_100 rfl (lv_at hl 0 rfl) ?_
        refine lv_aload_n hx hb dX2_counted_101 rfl (lv_at hl 2 rfl) ?_
        refine M_g C0 hK h hin2 1 (by decide) (by decide +kernel) rfl dX2_counted_102 ?_
        refine lv_icmp_ge (tgt := 137) hx hb dX2_counted_105 (by decide) (fun q9 => absurd q9 (nI_ge (by omega) (by omega))) (fun _ => ?_)
        refine lv_iload_n hx hb dX2_counted_108 rfl (lv_at hl 1 rfl) ?_
        refine lv_aload_n hx hb dX2_counted_109 rfl (lv_at hl 2 rfl) ?_
        refine lv_iload_n hx hb dX2_counted_110 rfl (lv_at hl 0 rfl) ?_
        refine lv_iconst (v := 5) hx hb dX2_counted_111 (by decide) ?_
        refine S_callVi C0 hK h (c_X2_la l z M i (by omega) 5 (by omega)) (cwV 2 hts gX2_counted_X2_la rfl rfl rfl (by decide +kernel) ⟨Nat.le_of_ble_eq_true rfl, Nat.le_of_ble_eq_true rfl⟩) (k := 55) (ci := 2) (by omega) (fun ct hA => hA.1) rfl rfl rfl hl.1 (rest := [.int (mthc M i)]) rfl (Nat.le_of_ble_eq_true rfl) ⟨Nat.le_of_ble_eq_true rfl, Nat.le_of_ble_eq_true rfl⟩ dX2_counted_112 (fun r u H locs hp h => ?_)
        obtain ⟨rfl, hu9⟩ := hp
        rw [hu9] at h
        refine lv_aload_n hx hb dX2_counted_115 rfl (lv_at hl 2 rfl) ?_
        refine lv_iload_n hx hb dX2_counted_116 rfl (lv_at hl 0 rfl) ?_
        refine lv_iconst (v := 2) hx hb dX2_counted_117 (by decide) ?_
        refine S_callVi C0 hK h (c_X2_la l z M i (by omega) 2 (by omega)) (cwV 2 hts gX2_counted_X2_la rfl rfl rfl (by decide +kernel) ⟨Nat.le_of_ble_eq_true rfl, Nat.le_of_ble_eq_true rfl⟩) (k := 55) (ci := 2) (by omega) (fun ct hA => hA.1) rfl rfl rfl hl.1 (rest := [.int (mA M (8 * i + 5)), .int (mthc M i)]) rfl (Nat.le_of_ble_eq_true rfl) ⟨Nat.le_of_ble_eq_true rfl, Nat.le_of_ble_eq_true rfl⟩ dX2_counted_118 (fun r u H locs hp h => ?_)
        obtain ⟨rfl, hu9⟩ := hp
        rw [hu9] at h
        refine lv_icmp_ge (tgt := 128) hx hb dX2_counted_121 (by decide) (fun c_121 => ?_) (fun c_121 => ?_)
        · refine lv_iconst (v := 0) hx hb dX2_counted_128 (by decide) ?_
          refine lv_iadd hx hb dX2_counted_129 ?_
          refine lv_istore_n (lv' := [(2, .int ((mthc M i) + 0)), (3, .int (nI i)), (0, .ref (za z 55)), (1, .int (nI 8))]) hx hb dX2_counted_130 rfl hl (by decide) rfl (fun ls hl => ?_)
          refine lv_iinc (v := nI (i + 1)) (lv' := [(3, .int (nI (i + 1))), (2, .int ((mthc M i) + 0)), (0, .ref (za z 55)), (1, .int (nI 8))]) hx hb dX2_counted_131 hl (k := 1) rfl (q_inc i 1) (by decide) rfl (fun ls hl => ?_)
          refine lv_goto (tgt := 100) hx hb dX2_counted_134 (by decide) ?_
          have e9 : mthc M (i + 1) = mthc M i + 0 := by simp only [mthc, if_neg (Int32.not_lt.mpr c_121)]
          rw [← e9] at hl
          exact ihL100 (i + 1) (by omega) _ _ _ h (lv_sub hl [0, 1, 2, 3] rfl)
        · refine lv_iconst (v := 1) hx hb dX2_counted_124 (by decide) ?_
          refine lv_goto (tgt := 129) hx hb dX2_counted_125 (by decide) ?_
          refine lv_iadd hx hb dX2_counted_129 ?_
          refine lv_istore_n (lv' := [(2, .int ((mthc M i) + 1)), (3, .int (nI i)), (0, .ref (za z 55)), (1, .int (nI 8))]) hx hb dX2_counted_130 rfl hl (by decide) rfl (fun ls hl => ?_)
          refine lv_iinc (v := nI (i + 1)) (lv' := [(3, .int (nI (i + 1))), (2, .int ((mthc M i) + 1)), (0, .ref (za z 55)), (1, .int (nI 8))]) hx hb dX2_counted_131 hl (k := 1) rfl (q_inc i 1) (by decide) rfl (fun ls hl => ?_)
          refine lv_goto (tgt := 100) hx hb dX2_counted_134 (by decide) ?_
          have e9 : mthc M (i + 1) = mthc M i + 1 := by simp only [mthc, if_pos (Int32.not_le.mp c_121)]
          rw [← e9] at hl
          exact ihL100 (i + 1) (by omega) _ _ _ h (lv_sub hl [0, 1, 2, 3] rfl)
    refine lv_iconst (v := 0) hx hb dX2_counted_0 (by decide) ?_
    refine lv_istore_n (lv' := [(2, .int 0), (0, .ref (za z 55)), (1, .int (nI 8))]) hx hb dX2_counted_1 rfl hl (by decide) rfl (fun ls hl => ?_)
    refine lv_iload_n hx hb dX2_counted_2 rfl (lv_at hl 2 rfl) ?_
    refine lv_tableOut (tgt := 98) hx hb dX2_counted_3 (by decide +kernel) (by decide) ?_
    refine lv_iconst (v := 0) hx hb dX2_counted_98 (by decide) ?_
    refine lv_istore_n (lv' := [(3, .int 0), (2, .int 0), (0, .ref (za z 55)), (1, .int (nI 8))]) hx hb dX2_counted_99 rfl hl (by decide) rfl (fun ls hl => ?_)
    exact L100 (mt_ M) 0 (by omega) _ _ _ h (lv_sub hl [0, 1, 2, 3] rfl)
set_option maxHeartbeats 4000000 in
set_option maxRecDepth 100000 in
theorem c_X2_count_ok (l : Launch) (z : QZ) (M : QMs) (hk : MOk M) (k : Nat) (hk9 : k ≤ 8) : GI l yX2_count wsX2_count ({ frames := 3, cells := 0, slots := 0, locals := 68 } : Room) z [.ref (za z 55), .int (nI k)] 0 0 (MAt z) 55 59 M (fun r M' => r = mcount M k ∧ M' = uh M 0) := by
  intro ct sz hn hq hat
  refine q_entry (lo := 55) (cc := cX2_count) (maxL := 2) (ret := (some .int)) (by decide) rfl (Nat.le_of_ble_eq_true rfl) hn hq hat ?_
  intro p e s m below meth c ls C0 hK hsz h hl
  subst hsz
  obtain ⟨hx, hb, hr, hml, hown, hts, hlocks⟩ := id C0
  have hin2 : ∀ w ∈ u_ws RX2 TX2 6, w ∈ wsX2_count := by decide +kernel
  have hl : lv_has ls 2 [(0, .ref (za z 55)), (1, .int (nI k))] := hl
  refine lv_aload_n hx hb dX2_count_0 rfl (lv_at hl 0 rfl) ?_
  refine lv_iconst (v := 0) hx hb dX2_count_1 (by decide) ?_
  refine N_ph C0 hK h hin2 (by decide +kernel) dX2_count_2 (fun H locs M1 eM1 h => ?_)
  subst eM1
  refine lv_iload_n hx hb dX2_count_5 rfl (lv_at hl 1 rfl) ?_
  refine lv_iconst (v := 0) hx hb dX2_count_6 (by decide) ?_
  refine lv_bipush (v := 8) hx hb dX2_count_7 (by decide) ?_
  refine S_callSi C0 hK h (c_X2_isIn l z (uh M 0) (nI k) 0 8) (va_cwS 3 hts gX2_count_X2_isIn rfl rfl rfl (by decide +kernel) ⟨Nat.le_of_ble_eq_true rfl, Nat.le_of_ble_eq_true rfl⟩) rfl hl.1 (rest := []) rfl (Nat.le_of_ble_eq_true rfl) ⟨Nat.le_of_ble_eq_true rfl, Nat.le_of_ble_eq_true rfl⟩ dX2_count_9 (fun r u H locs hp h => ?_)
  obtain ⟨hr9, hu9⟩ := hp
  have hr9 := hr9.trans (if_pos (q_rng (k := k) 0 8 rfl rfl))
  subst hr9
  rw [hu9] at h
  refine lv_if_eq (tgt := 23) hx hb dX2_count_12 (by decide) (fun q9 => absurd q9 (by decide)) (fun _ => ?_)
  refine lv_aload_n hx hb dX2_count_15 rfl (lv_at hl 0 rfl) ?_
  refine lv_iload_n hx hb dX2_count_16 rfl (lv_at hl 1 rfl) ?_
  refine S_callVi C0 hK h (c_X2_counted l z (uh M 0) hk k (by omega)) (cwV 1 hts gX2_count_X2_counted rfl rfl rfl (by decide +kernel) ⟨Nat.le_of_ble_eq_true rfl, Nat.le_of_ble_eq_true rfl⟩) (k := 55) (ci := 2) (by omega) (fun ct hA => hA.1) rfl rfl rfl hl.1 (rest := []) rfl (Nat.le_of_ble_eq_true rfl) ⟨Nat.le_of_ble_eq_true rfl, Nat.le_of_ble_eq_true rfl⟩ dX2_count_17 (fun r u H locs hp h => ?_)
  obtain ⟨rfl, hu9⟩ := hp
  rw [hu9] at h
  refine lv_goto (tgt := 28) hx hb dX2_count_20 (by decide) ?_
  exact G_iret C0 hK h ⟨mcount_uh M 0 k, rfl⟩ (Nat.le_of_ble_eq_true rfl) (Nat.le_of_ble_eq_true rfl) dX2_count_28
set_option maxHeartbeats 4000000 in
set_option maxRecDepth 100000 in
theorem c_X2_count_no (l : Launch) (z : QZ) (M : QMs) (hk : MOk M) (x : Int32) (hno : ¬ (0 ≤ x ∧ x ≤ 8)) : GI l yX2_count wsX2_count ({ frames := 1, cells := 0, slots := 0, locals := 22 } : Room) z [.ref (za z 55), .int x] 0 0 (MAt z) 55 59 M (fun r M' => r = 0 ∧ M' = uh M 1) := by
  intro ct sz hn hq hat
  refine q_entry (lo := 55) (cc := cX2_count) (maxL := 2) (ret := (some .int)) (by decide) rfl (Nat.le_of_ble_eq_true rfl) hn hq hat ?_
  intro p e s m below meth c ls C0 hK hsz h hl
  subst hsz
  obtain ⟨hx, hb, hr, hml, hown, hts, hlocks⟩ := id C0
  have hin2 : ∀ w ∈ u_ws RX2 TX2 6, w ∈ wsX2_count := by decide +kernel
  have hl : lv_has ls 2 [(0, .ref (za z 55)), (1, .int x)] := hl
  refine lv_aload_n hx hb dX2_count_0 rfl (lv_at hl 0 rfl) ?_
  refine lv_iconst (v := 0) hx hb dX2_count_1 (by decide) ?_
  refine N_ph C0 hK h hin2 (by decide +kernel) dX2_count_2 (fun H locs M1 eM1 h => ?_)
  subst eM1
  refine lv_iload_n hx hb dX2_count_5 rfl (lv_at hl 1 rfl) ?_
  refine lv_iconst (v := 0) hx hb dX2_count_6 (by decide) ?_
  refine lv_bipush (v := 8) hx hb dX2_count_7 (by decide) ?_
  refine S_callSi C0 hK h (c_X2_isIn l z (uh M 0) x 0 8) (va_cwS 3 hts gX2_count_X2_isIn rfl rfl rfl (by decide +kernel) ⟨Nat.le_of_ble_eq_true rfl, Nat.le_of_ble_eq_true rfl⟩) rfl hl.1 (rest := []) rfl (Nat.le_of_ble_eq_true rfl) ⟨Nat.le_of_ble_eq_true rfl, Nat.le_of_ble_eq_true rfl⟩ dX2_count_9 (fun r u H locs hp h => ?_)
  rcases q_bool _ hp with ⟨hc2, rfl, hu9⟩ | ⟨hc2, rfl, hu9⟩
  · rw [hu9] at h
    refine lv_if_eq (tgt := 23) hx hb dX2_count_12 (by decide) (fun q9 => absurd q9 (by decide)) (fun _ => ?_)
    exact absurd hc2 hno
  · rw [hu9] at h
    refine lv_if_eq (tgt := 23) hx hb dX2_count_12 (by decide) (fun _ => ?_) (fun q9 => absurd (by decide) q9)
    refine lv_aload_n hx hb dX2_count_23 rfl (lv_at hl 0 rfl) ?_
    refine lv_iconst (v := 1) hx hb dX2_count_24 (by decide) ?_
    refine S_callVi C0 hK h (c_X2_fail l z (uh M 0) 1) (cwV 1 hts gX2_count_X2_fail rfl rfl rfl (by decide +kernel) ⟨Nat.le_of_ble_eq_true rfl, Nat.le_of_ble_eq_true rfl⟩) (k := 55) (ci := 2) (by omega) (fun ct hA => hA.1) rfl rfl rfl hl.1 (rest := []) rfl (Nat.le_of_ble_eq_true rfl) ⟨Nat.le_of_ble_eq_true rfl, Nat.le_of_ble_eq_true rfl⟩ dX2_count_25 (fun r u H locs hp h => ?_)
    obtain ⟨rfl, hp⟩ := hp
    obtain ⟨M3, eM3⟩ : ∃ z9, z9 = uh (uh M 0) 1 := ⟨_, rfl⟩
    rw [hp, ← eM3] at h
    exact G_iret C0 hK h ⟨rfl, by subst eM3; rfl⟩ (Nat.le_of_ble_eq_true rfl) (Nat.le_of_ble_eq_true rfl) dX2_count_28
set_option maxHeartbeats 4000000 in
set_option maxRecDepth 100000 in
theorem c_X2_set_ok (l : Launch) (z : QZ) (M : QMs) (hk : MOk M) (i : Nat) (hi : i < mt_ M) (x y : Int32) (hx9 : 0 ≤ x ∧ x ≤ 20) (hy9 : 0 ≤ y ∧ y ≤ 20) : GI l yX2_set wsX2_set ({ frames := 2, cells := 0, slots := 0, locals := 43 } : Room) z [.ref (za z 55), .int (nI i), .int x, .int y] 0 0 (MAt z) 55 59 M (fun r M' => r = 100 * mA M (8 * i + 1) + mA M (8 * i + 2) ∧ M' = mSetT (mSetT (uh M 0) i 1 x) i 2 y) := by
  intro ct sz hn hq hat
  refine q_entry (lo := 55) (cc := cX2_set) (maxL := 5) (ret := (some .int)) (by decide) rfl (Nat.le_of_ble_eq_true rfl) hn hq hat ?_
  intro p e s m below meth c ls C0 hK hsz h hl
  subst hsz
  obtain ⟨hx, hb, hr, hml, hown, hts, hlocks⟩ := id C0
  have hin2 : ∀ w ∈ u_ws RX2 TX2 6, w ∈ wsX2_set := by decide +kernel
  have hl : lv_has ls 5 [(0, .ref (za z 55)), (1, .int (nI i)), (2, .int x), (3, .int y)] := hl
  have hk1 := hk.1
  have hk2 := hk.2.1
  refine lv_aload_n hx hb dX2_set_0 rfl (lv_at hl 0 rfl) ?_
  refine lv_iconst (v := 0) hx hb dX2_set_1 (by decide) ?_
  refine N_ph C0 hK h hin2 (by decide +kernel) dX2_set_2 (fun H locs M1 eM1 h => ?_)
  subst eM1
  refine lv_aload_n hx hb dX2_set_5 rfl (lv_at hl 0 rfl) ?_
  refine lv_iload_n hx hb dX2_set_6 rfl (lv_at hl 1 rfl) ?_
  refine S_callVi C0 hK h (c_X2_isTank l z (uh M 0) (nI i) hk) (cwV 1 hts gX2_set_X2_isTank rfl rfl rfl (by decide +kernel) ⟨Nat.le_of_ble_eq_true rfl, Nat.le_of_ble_eq_true rfl⟩) (k := 55) (ci := 2) (by omega) (fun ct hA => hA.1) rfl rfl rfl hl.1 (rest := []) rfl (Nat.le_of_ble_eq_true rfl) ⟨Nat.le_of_ble_eq_true rfl, Nat.le_of_ble_eq_true rfl⟩ dX2_set_7 (fun r u H locs hp h => ?_)
  obtain ⟨hr9, hu9⟩ := hp
  have hr9 := hr9.trans (if_pos (qin_nI (n := mt_ M) (by have := hk.1; have := hk.2.1; omega) hi))
  subst hr9
  rw [hu9] at h
  refine lv_if_ne (tgt := 19) hx hb dX2_set_10 (by decide) (fun _ => ?_) (fun q9 => absurd q9 (by decide))
  refine lv_iload_n hx hb dX2_set_19 rfl (lv_at hl 2 rfl) ?_
  refine lv_iconst (v := 0) hx hb dX2_set_20 (by decide) ?_
  refine lv_bipush (v := 20) hx hb dX2_set_21 (by decide) ?_
  refine S_callSi C0 hK h (c_X2_isIn l z (uh M 0) x 0 20) (va_cwS 3 hts gX2_set_X2_isIn rfl rfl rfl (by decide +kernel) ⟨Nat.le_of_ble_eq_true rfl, Nat.le_of_ble_eq_true rfl⟩) rfl hl.1 (rest := []) rfl (Nat.le_of_ble_eq_true rfl) ⟨Nat.le_of_ble_eq_true rfl, Nat.le_of_ble_eq_true rfl⟩ dX2_set_23 (fun r u H locs hp h => ?_)
  obtain ⟨hr9, hu9⟩ := hp
  have hr9 := hr9.trans (if_pos hx9)
  subst hr9
  rw [hu9] at h
  refine lv_if_eq (tgt := 39) hx hb dX2_set_26 (by decide) (fun q9 => absurd q9 (by decide)) (fun _ => ?_)
  refine lv_iload_n hx hb dX2_set_29 rfl (lv_at hl 3 rfl) ?_
  refine lv_iconst (v := 0) hx hb dX2_set_30 (by decide) ?_
  refine lv_bipush (v := 20) hx hb dX2_set_31 (by decide) ?_
  refine S_callSi C0 hK h (c_X2_isIn l z (uh M 0) y 0 20) (va_cwS 3 hts gX2_set_X2_isIn rfl rfl rfl (by decide +kernel) ⟨Nat.le_of_ble_eq_true rfl, Nat.le_of_ble_eq_true rfl⟩) rfl hl.1 (rest := []) rfl (Nat.le_of_ble_eq_true rfl) ⟨Nat.le_of_ble_eq_true rfl, Nat.le_of_ble_eq_true rfl⟩ dX2_set_33 (fun r u H locs hp h => ?_)
  obtain ⟨hr9, hu9⟩ := hp
  have hr9 := hr9.trans (if_pos hy9)
  subst hr9
  rw [hu9] at h
  refine lv_if_ne (tgt := 45) hx hb dX2_set_36 (by decide) (fun _ => ?_) (fun q9 => absurd q9 (by decide))
  refine lv_bipush (v := 100) hx hb dX2_set_45 (by decide) ?_
  refine lv_aload_n hx hb dX2_set_47 rfl (lv_at hl 0 rfl) ?_
  refine lv_iload_n hx hb dX2_set_48 rfl (lv_at hl 1 rfl) ?_
  refine lv_iconst (v := 1) hx hb dX2_set_49 (by decide) ?_
  refine S_callVi C0 hK h (c_X2_la l z (uh M 0) i (by omega) 1 (by omega)) (cwV 2 hts gX2_set_X2_la rfl rfl rfl (by decide +kernel) ⟨Nat.le_of_ble_eq_true rfl, Nat.le_of_ble_eq_true rfl⟩) (k := 55) (ci := 2) (by omega) (fun ct hA => hA.1) rfl rfl rfl hl.1 (rest := [.int 100]) rfl (Nat.le_of_ble_eq_true rfl) ⟨Nat.le_of_ble_eq_true rfl, Nat.le_of_ble_eq_true rfl⟩ dX2_set_50 (fun r u H locs hp h => ?_)
  obtain ⟨rfl, hu9⟩ := hp
  rw [hu9] at h
  refine lv_imul hx hb dX2_set_53 ?_
  refine lv_aload_n hx hb dX2_set_54 rfl (lv_at hl 0 rfl) ?_
  refine lv_iload_n hx hb dX2_set_55 rfl (lv_at hl 1 rfl) ?_
  refine lv_iconst (v := 2) hx hb dX2_set_56 (by decide) ?_
  refine S_callVi C0 hK h (c_X2_la l z (uh M 0) i (by omega) 2 (by omega)) (cwV 2 hts gX2_set_X2_la rfl rfl rfl (by decide +kernel) ⟨Nat.le_of_ble_eq_true rfl, Nat.le_of_ble_eq_true rfl⟩) (k := 55) (ci := 2) (by omega) (fun ct hA => hA.1) rfl rfl rfl hl.1 (rest := [.int (100 * (mA (uh M 0) (8 * i + 1)))]) rfl (Nat.le_of_ble_eq_true rfl) ⟨Nat.le_of_ble_eq_true rfl, Nat.le_of_ble_eq_true rfl⟩ dX2_set_57 (fun r u H locs hp h => ?_)
  obtain ⟨rfl, hu9⟩ := hp
  rw [hu9] at h
  refine lv_iadd hx hb dX2_set_60 ?_
  refine lv_istore (lv' := [(4, .int ((100 * (mA (uh M 0) (8 * i + 1))) + (mA (uh M 0) (8 * i + 2)))), (0, .ref (za z 55)), (1, .int (nI i)), (2, .int x), (3, .int y)]) hx hb dX2_set_61 hl (by decide) rfl (fun ls hl => ?_)
  refine lv_aload_n hx hb dX2_set_63 rfl (lv_at hl 1 rfl) ?_
  refine lv_iload_n hx hb dX2_set_64 rfl (lv_at hl 2 rfl) ?_
  refine lv_iconst (v := 1) hx hb dX2_set_65 (by decide) ?_
  refine lv_iload_n hx hb dX2_set_66 rfl (lv_at hl 3 rfl) ?_
  refine S_callVv C0 hK h (c_X2_setTank l z (uh M 0) i (by omega) 1 (by omega) x) (cwV 3 hts gX2_set_X2_setTank rfl rfl rfl (by decide +kernel) ⟨Nat.le_of_ble_eq_true rfl, Nat.le_of_ble_eq_true rfl⟩) (k := 55) (ci := 2) (by omega) (fun ct hA => hA.1) rfl rfl rfl hl.1 (rest := []) rfl (Nat.le_of_ble_eq_true rfl) ⟨Nat.le_of_ble_eq_true rfl, Nat.le_of_ble_eq_true rfl⟩ dX2_set_67 (fun u H locs hp h => ?_)
  obtain ⟨M2, eM2⟩ : ∃ z9, z9 = mSetT (uh M 0) i 1 x := ⟨_, rfl⟩
  rw [hp, ← eM2] at h
  refine lv_aload_n hx hb dX2_set_70 rfl (lv_at hl 1 rfl) ?_
  refine lv_iload_n hx hb dX2_set_71 rfl (lv_at hl 2 rfl) ?_
  refine lv_iconst (v := 2) hx hb dX2_set_72 (by decide) ?_
  refine lv_iload_n hx hb dX2_set_73 rfl (lv_at hl 4 rfl) ?_
  refine S_callVv C0 hK h (c_X2_setTank l z M2 i (by omega) 2 (by omega) y) (cwV 3 hts gX2_set_X2_setTank rfl rfl rfl (by decide +kernel) ⟨Nat.le_of_ble_eq_true rfl, Nat.le_of_ble_eq_true rfl⟩) (k := 55) (ci := 2) (by omega) (fun ct hA => hA.1) rfl rfl rfl hl.1 (rest := []) rfl (Nat.le_of_ble_eq_true rfl) ⟨Nat.le_of_ble_eq_true rfl, Nat.le_of_ble_eq_true rfl⟩ dX2_set_74 (fun u H locs hp h => ?_)
  obtain ⟨M3, eM3⟩ : ∃ z9, z9 = mSetT M2 i 2 y := ⟨_, rfl⟩
  rw [hp, ← eM3] at h
  refine lv_iload hx hb dX2_set_77 (lv_at hl 0 rfl) ?_
  exact G_iret C0 hK h ⟨rfl, by subst eM3 eM2; rfl⟩ (Nat.le_of_ble_eq_true rfl) (Nat.le_of_ble_eq_true rfl) dX2_set_79
set_option maxHeartbeats 4000000 in
set_option maxRecDepth 100000 in
theorem c_X2_set_no (l : Launch) (z : QZ) (M : QMs) (hk : MOk M) (x y v : Int32) (hno : ¬ qin x (mt_ M)) : GI l yX2_set wsX2_set ({ frames := 2, cells := 0, slots := 0, locals := 43 } : Room) z [.ref (za z 55), .int x, .int y, .int v] 0 0 (MAt z) 55 59 M (fun r M' => r = 0 ∧ M' = uh M 1) := by
  intro ct sz hn hq hat
  refine q_entry (lo := 55) (cc := cX2_set) (maxL := 5) (ret := (some .int)) (by decide) rfl (Nat.le_of_ble_eq_true rfl) hn hq hat ?_
  intro p e s m below meth c ls C0 hK hsz h hl
  subst hsz
  obtain ⟨hx, hb, hr, hml, hown, hts, hlocks⟩ := id C0
  have hin2 : ∀ w ∈ u_ws RX2 TX2 6, w ∈ wsX2_set := by decide +kernel
  have hl : lv_has ls 5 [(0, .ref (za z 55)), (1, .int x), (2, .int y), (3, .int v)] := hl
  refine lv_aload_n hx hb dX2_set_0 rfl (lv_at hl 0 rfl) ?_
  refine lv_iconst (v := 0) hx hb dX2_set_1 (by decide) ?_
  refine N_ph C0 hK h hin2 (by decide +kernel) dX2_set_2 (fun H locs M1 eM1 h => ?_)
  subst eM1
  refine lv_aload_n hx hb dX2_set_5 rfl (lv_at hl 0 rfl) ?_
  refine lv_iload_n hx hb dX2_set_6 rfl (lv_at hl 1 rfl) ?_
  refine S_callVi C0 hK h (c_X2_isTank l z (uh M 0) x hk) (cwV 1 hts gX2_set_X2_isTank rfl rfl rfl (by decide +kernel) ⟨Nat.le_of_ble_eq_true rfl, Nat.le_of_ble_eq_true rfl⟩) (k := 55) (ci := 2) (by omega) (fun ct hA => hA.1) rfl rfl rfl hl.1 (rest := []) rfl (Nat.le_of_ble_eq_true rfl) ⟨Nat.le_of_ble_eq_true rfl, Nat.le_of_ble_eq_true rfl⟩ dX2_set_7 (fun r u H locs hp h => ?_)
  obtain ⟨hr9, hu9⟩ := hp
  have hr9 := hr9.trans (if_neg hno)
  subst hr9
  rw [hu9] at h
  refine lv_if_ne (tgt := 19) hx hb dX2_set_10 (by decide) (fun q9 => absurd (by decide) q9) (fun _ => ?_)
  refine lv_aload_n hx hb dX2_set_13 rfl (lv_at hl 0 rfl) ?_
  refine lv_iconst (v := 1) hx hb dX2_set_14 (by decide) ?_
  refine S_callVi C0 hK h (c_X2_fail l z (uh M 0) 1) (cwV 1 hts gX2_set_X2_fail rfl rfl rfl (by decide +kernel) ⟨Nat.le_of_ble_eq_true rfl, Nat.le_of_ble_eq_true rfl⟩) (k := 55) (ci := 2) (by omega) (fun ct hA => hA.1) rfl rfl rfl hl.1 (rest := []) rfl (Nat.le_of_ble_eq_true rfl) ⟨Nat.le_of_ble_eq_true rfl, Nat.le_of_ble_eq_true rfl⟩ dX2_set_15 (fun r u H locs hp h => ?_)
  obtain ⟨rfl, hp⟩ := hp
  obtain ⟨M2, eM2⟩ : ∃ z9, z9 = uh (uh M 0) 1 := ⟨_, rfl⟩
  rw [hp, ← eM2] at h
  exact G_iret C0 hK h ⟨rfl, by subst eM2; rfl⟩ (Nat.le_of_ble_eq_true rfl) (Nat.le_of_ble_eq_true rfl) dX2_set_18
set_option maxHeartbeats 4000000 in
set_option maxRecDepth 100000 in
theorem c_X2_set_no2 (l : Launch) (z : QZ) (M : QMs) (hk : MOk M) (i : Nat) (hi : i < mt_ M) (x y : Int32) (hno : ¬ ((0 ≤ x ∧ x ≤ 20) ∧ (0 ≤ y ∧ y ≤ 20))) : GI l yX2_set wsX2_set ({ frames := 2, cells := 0, slots := 0, locals := 43 } : Room) z [.ref (za z 55), .int (nI i), .int x, .int y] 0 0 (MAt z) 55 59 M (fun r M' => r = 0 ∧ M' = uh M 2) := by
  intro ct sz hn hq hat
  refine q_entry (lo := 55) (cc := cX2_set) (maxL := 5) (ret := (some .int)) (by decide) rfl (Nat.le_of_ble_eq_true rfl) hn hq hat ?_
  intro p e s m below meth c ls C0 hK hsz h hl
  subst hsz
  obtain ⟨hx, hb, hr, hml, hown, hts, hlocks⟩ := id C0
  have hin2 : ∀ w ∈ u_ws RX2 TX2 6, w ∈ wsX2_set := by decide +kernel
  have hl : lv_has ls 5 [(0, .ref (za z 55)), (1, .int (nI i)), (2, .int x), (3, .int y)] := hl
  refine lv_aload_n hx hb dX2_set_0 rfl (lv_at hl 0 rfl) ?_
  refine lv_iconst (v := 0) hx hb dX2_set_1 (by decide) ?_
  refine N_ph C0 hK h hin2 (by decide +kernel) dX2_set_2 (fun H locs M1 eM1 h => ?_)
  subst eM1
  refine lv_aload_n hx hb dX2_set_5 rfl (lv_at hl 0 rfl) ?_
  refine lv_iload_n hx hb dX2_set_6 rfl (lv_at hl 1 rfl) ?_
  refine S_callVi C0 hK h (c_X2_isTank l z (uh M 0) (nI i) hk) (cwV 1 hts gX2_set_X2_isTank rfl rfl rfl (by decide +kernel) ⟨Nat.le_of_ble_eq_true rfl, Nat.le_of_ble_eq_true rfl⟩) (k := 55) (ci := 2) (by omega) (fun ct hA => hA.1) rfl rfl rfl hl.1 (rest := []) rfl (Nat.le_of_ble_eq_true rfl) ⟨Nat.le_of_ble_eq_true rfl, Nat.le_of_ble_eq_true rfl⟩ dX2_set_7 (fun r u H locs hp h => ?_)
  obtain ⟨hr9, hu9⟩ := hp
  have hr9 := hr9.trans (if_pos (qin_nI (n := mt_ M) (by have := hk.1; have := hk.2.1; omega) hi))
  subst hr9
  rw [hu9] at h
  refine lv_if_ne (tgt := 19) hx hb dX2_set_10 (by decide) (fun _ => ?_) (fun q9 => absurd q9 (by decide))
  refine lv_iload_n hx hb dX2_set_19 rfl (lv_at hl 2 rfl) ?_
  refine lv_iconst (v := 0) hx hb dX2_set_20 (by decide) ?_
  refine lv_bipush (v := 20) hx hb dX2_set_21 (by decide) ?_
  refine S_callSi C0 hK h (c_X2_isIn l z (uh M 0) x 0 20) (va_cwS 3 hts gX2_set_X2_isIn rfl rfl rfl (by decide +kernel) ⟨Nat.le_of_ble_eq_true rfl, Nat.le_of_ble_eq_true rfl⟩) rfl hl.1 (rest := []) rfl (Nat.le_of_ble_eq_true rfl) ⟨Nat.le_of_ble_eq_true rfl, Nat.le_of_ble_eq_true rfl⟩ dX2_set_23 (fun r u H locs hp h => ?_)
  rcases q_bool _ hp with ⟨hc2, rfl, hu9⟩ | ⟨hc2, rfl, hu9⟩
  · rw [hu9] at h
    refine lv_if_eq (tgt := 39) hx hb dX2_set_26 (by decide) (fun q9 => absurd q9 (by decide)) (fun _ => ?_)
    refine lv_iload_n hx hb dX2_set_29 rfl (lv_at hl 3 rfl) ?_
    refine lv_iconst (v := 0) hx hb dX2_set_30 (by decide) ?_
    refine lv_bipush (v := 20) hx hb dX2_set_31 (by decide) ?_
    refine S_callSi C0 hK h (c_X2_isIn l z (uh M 0) y 0 20) (va_cwS 3 hts gX2_set_X2_isIn rfl rfl rfl (by decide +kernel) ⟨Nat.le_of_ble_eq_true rfl, Nat.le_of_ble_eq_true rfl⟩) rfl hl.1 (rest := []) rfl (Nat.le_of_ble_eq_true rfl) ⟨Nat.le_of_ble_eq_true rfl, Nat.le_of_ble_eq_true rfl⟩ dX2_set_33 (fun r u H locs hp h => ?_)
    rcases q_bool _ hp with ⟨hc3, rfl, hu9⟩ | ⟨hc3, rfl, hu9⟩
    · rw [hu9] at h
      refine lv_if_ne (tgt := 45) hx hb dX2_set_36 (by decide) (fun _ => ?_) (fun q9 => absurd q9 (by decide))
      exact absurd ⟨hc2, hc3⟩ hno
    · rw [hu9] at h
      refine lv_if_ne (tgt := 45) hx hb dX2_set_36 (by decide) (fun q9 => absurd (by decide) q9) (fun _ => ?_)
      refine lv_aload_n hx hb dX2_set_39 rfl (lv_at hl 0 rfl) ?_
      refine lv_iconst (v := 2) hx hb dX2_set_40 (by decide) ?_
      refine S_callVi C0 hK h (c_X2_fail l z (uh M 0) 2) (cwV 1 hts gX2_set_X2_fail rfl rfl rfl (by decide +kernel) ⟨Nat.le_of_ble_eq_true rfl, Nat.le_of_ble_eq_true rfl⟩) (k := 55) (ci := 2) (by omega) (fun ct hA => hA.1) rfl rfl rfl hl.1 (rest := []) rfl (Nat.le_of_ble_eq_true rfl) ⟨Nat.le_of_ble_eq_true rfl, Nat.le_of_ble_eq_true rfl⟩ dX2_set_41 (fun r u H locs hp h => ?_)
      obtain ⟨rfl, hp⟩ := hp
      obtain ⟨M4, eM4⟩ : ∃ z9, z9 = uh (uh M 0) 2 := ⟨_, rfl⟩
      rw [hp, ← eM4] at h
      exact G_iret C0 hK h ⟨rfl, by subst eM4; rfl⟩ (Nat.le_of_ble_eq_true rfl) (Nat.le_of_ble_eq_true rfl) dX2_set_44
  · rw [hu9] at h
    refine lv_if_eq (tgt := 39) hx hb dX2_set_26 (by decide) (fun _ => ?_) (fun q9 => absurd (by decide) q9)
    refine lv_aload_n hx hb dX2_set_39 rfl (lv_at hl 0 rfl) ?_
    refine lv_iconst (v := 2) hx hb dX2_set_40 (by decide) ?_
    refine S_callVi C0 hK h (c_X2_fail l z (uh M 0) 2) (cwV 1 hts gX2_set_X2_fail rfl rfl rfl (by decide +kernel) ⟨Nat.le_of_ble_eq_true rfl, Nat.le_of_ble_eq_true rfl⟩) (k := 55) (ci := 2) (by omega) (fun ct hA => hA.1) rfl rfl rfl hl.1 (rest := []) rfl (Nat.le_of_ble_eq_true rfl) ⟨Nat.le_of_ble_eq_true rfl, Nat.le_of_ble_eq_true rfl⟩ dX2_set_41 (fun r u H locs hp h => ?_)
    obtain ⟨rfl, hp⟩ := hp
    obtain ⟨M5, eM5⟩ : ∃ z9, z9 = uh (uh M 0) 2 := ⟨_, rfl⟩
    rw [hp, ← eM5] at h
    exact G_iret C0 hK h ⟨rfl, by subst eM5; rfl⟩ (Nat.le_of_ble_eq_true rfl) (Nat.le_of_ble_eq_true rfl) dX2_set_44
set_option maxHeartbeats 4000000 in
set_option maxRecDepth 100000 in
theorem c_X2_flush_ok (l : Launch) (z : QZ) (M : QMs) (hk : MOk M) (i : Nat) (hi : i < mt_ M) : GI l yX2_flush wsX2_flush ({ frames := 2, cells := 0, slots := 0, locals := 43 } : Room) z [.ref (za z 55), .int (nI i)] 0 0 (MAt z) 55 59 M (fun r M' => r = mA M (8 * i + 4) ∧ M' = mSetT (mSetT (uh M 0) i 4 0) i 3 (mA (mSetT (uh M 0) i 4 0) (8 * i + 3) / 2)) := by
  intro ct sz hn hq hat
  refine q_entry (lo := 55) (cc := cX2_flush) (maxL := 3) (ret := (some .int)) (by decide) rfl (Nat.le_of_ble_eq_true rfl) hn hq hat ?_
  intro p e s m below meth c ls C0 hK hsz h hl
  subst hsz
  obtain ⟨hx, hb, hr, hml, hown, hts, hlocks⟩ := id C0
  have hin2 : ∀ w ∈ u_ws RX2 TX2 6, w ∈ wsX2_flush := by decide +kernel
  have hl : lv_has ls 3 [(0, .ref (za z 55)), (1, .int (nI i))] := hl
  have hk1 := hk.1
  have hk2 := hk.2.1
  refine lv_aload_n hx hb dX2_flush_0 rfl (lv_at hl 0 rfl) ?_
  refine lv_iconst (v := 0) hx hb dX2_flush_1 (by decide) ?_
  refine N_ph C0 hK h hin2 (by decide +kernel) dX2_flush_2 (fun H locs M1 eM1 h => ?_)
  subst eM1
  refine lv_aload_n hx hb dX2_flush_5 rfl (lv_at hl 0 rfl) ?_
  refine lv_iload_n hx hb dX2_flush_6 rfl (lv_at hl 1 rfl) ?_
  refine S_callVi C0 hK h (c_X2_isTank l z (uh M 0) (nI i) hk) (cwV 1 hts gX2_flush_X2_isTank rfl rfl rfl (by decide +kernel) ⟨Nat.le_of_ble_eq_true rfl, Nat.le_of_ble_eq_true rfl⟩) (k := 55) (ci := 2) (by omega) (fun ct hA => hA.1) rfl rfl rfl hl.1 (rest := []) rfl (Nat.le_of_ble_eq_true rfl) ⟨Nat.le_of_ble_eq_true rfl, Nat.le_of_ble_eq_true rfl⟩ dX2_flush_7 (fun r u H locs hp h => ?_)
  obtain ⟨hr9, hu9⟩ := hp
  have hr9 := hr9.trans (if_pos (qin_nI (n := mt_ M) (by have := hk.1; have := hk.2.1; omega) hi))
  subst hr9
  rw [hu9] at h
  refine lv_if_ne (tgt := 19) hx hb dX2_flush_10 (by decide) (fun _ => ?_) (fun q9 => absurd q9 (by decide))
  refine lv_aload_n hx hb dX2_flush_19 rfl (lv_at hl 0 rfl) ?_
  refine lv_iload_n hx hb dX2_flush_20 rfl (lv_at hl 1 rfl) ?_
  refine lv_iconst (v := 4) hx hb dX2_flush_21 (by decide) ?_
  refine S_callVi C0 hK h (c_X2_la l z (uh M 0) i (by omega) 4 (by omega)) (cwV 2 hts gX2_flush_X2_la rfl rfl rfl (by decide +kernel) ⟨Nat.le_of_ble_eq_true rfl, Nat.le_of_ble_eq_true rfl⟩) (k := 55) (ci := 2) (by omega) (fun ct hA => hA.1) rfl rfl rfl hl.1 (rest := []) rfl (Nat.le_of_ble_eq_true rfl) ⟨Nat.le_of_ble_eq_true rfl, Nat.le_of_ble_eq_true rfl⟩ dX2_flush_22 (fun r u H locs hp h => ?_)
  obtain ⟨rfl, hu9⟩ := hp
  rw [hu9] at h
  refine lv_istore_n (lv' := [(2, .int (mA (uh M 0) (8 * i + 4))), (0, .ref (za z 55)), (1, .int (nI i))]) hx hb dX2_flush_25 rfl hl (by decide) rfl (fun ls hl => ?_)
  refine lv_aload_n hx hb dX2_flush_26 rfl (lv_at hl 1 rfl) ?_
  refine lv_iload_n hx hb dX2_flush_27 rfl (lv_at hl 2 rfl) ?_
  refine lv_iconst (v := 4) hx hb dX2_flush_28 (by decide) ?_
  refine lv_iconst (v := 0) hx hb dX2_flush_29 (by decide) ?_
  refine S_callVv C0 hK h (c_X2_setTank l z (uh M 0) i (by omega) 4 (by omega) 0) (cwV 3 hts gX2_flush_X2_setTank rfl rfl rfl (by decide +kernel) ⟨Nat.le_of_ble_eq_true rfl, Nat.le_of_ble_eq_true rfl⟩) (k := 55) (ci := 2) (by omega) (fun ct hA => hA.1) rfl rfl rfl hl.1 (rest := []) rfl (Nat.le_of_ble_eq_true rfl) ⟨Nat.le_of_ble_eq_true rfl, Nat.le_of_ble_eq_true rfl⟩ dX2_flush_30 (fun u H locs hp h => ?_)
  obtain ⟨M2, eM2⟩ : ∃ z9, z9 = mSetT (uh M 0) i 4 0 := ⟨_, rfl⟩
  rw [hp, ← eM2] at h
  refine lv_aload_n hx hb dX2_flush_33 rfl (lv_at hl 1 rfl) ?_
  refine lv_iload_n hx hb dX2_flush_34 rfl (lv_at hl 2 rfl) ?_
  refine lv_iconst (v := 3) hx hb dX2_flush_35 (by decide) ?_
  refine lv_aload_n hx hb dX2_flush_36 rfl (lv_at hl 1 rfl) ?_
  refine lv_iload_n hx hb dX2_flush_37 rfl (lv_at hl 2 rfl) ?_
  refine lv_iconst (v := 3) hx hb dX2_flush_38 (by decide) ?_
  refine S_callVi C0 hK h (c_X2_la l z M2 i (by omega) 3 (by omega)) (cwV 2 hts gX2_flush_X2_la rfl rfl rfl (by decide +kernel) ⟨Nat.le_of_ble_eq_true rfl, Nat.le_of_ble_eq_true rfl⟩) (k := 55) (ci := 2) (by omega) (fun ct hA => hA.1) rfl rfl rfl hl.1 (rest := [.int 3, .int (nI i), .ref (za z 55)]) rfl (Nat.le_of_ble_eq_true rfl) ⟨Nat.le_of_ble_eq_true rfl, Nat.le_of_ble_eq_true rfl⟩ dX2_flush_39 (fun r u H locs hp h => ?_)
  obtain ⟨rfl, hu9⟩ := hp
  rw [hu9] at h
  refine lv_iconst (v := 2) hx hb dX2_flush_42 (by decide) ?_
  refine lv_idiv hx hb dX2_flush_43 (by decide) ?_
  refine S_callVv C0 hK h (c_X2_setTank l z M2 i (by omega) 3 (by omega) ((mA M2 (8 * i + 3)) / 2)) (cwV 3 hts gX2_flush_X2_setTank rfl rfl rfl (by decide +kernel) ⟨Nat.le_of_ble_eq_true rfl, Nat.le_of_ble_eq_true rfl⟩) (k := 55) (ci := 2) (by omega) (fun ct hA => hA.1) rfl rfl rfl hl.1 (rest := []) rfl (Nat.le_of_ble_eq_true rfl) ⟨Nat.le_of_ble_eq_true rfl, Nat.le_of_ble_eq_true rfl⟩ dX2_flush_44 (fun u H locs hp h => ?_)
  obtain ⟨M3, eM3⟩ : ∃ z9, z9 = mSetT M2 i 3 ((mA M2 (8 * i + 3)) / 2) := ⟨_, rfl⟩
  rw [hp, ← eM3] at h
  refine lv_iload_n hx hb dX2_flush_47 rfl (lv_at hl 0 rfl) ?_
  exact G_iret C0 hK h ⟨rfl, by subst eM3 eM2; rfl⟩ (Nat.le_of_ble_eq_true rfl) (Nat.le_of_ble_eq_true rfl) dX2_flush_48
set_option maxHeartbeats 4000000 in
set_option maxRecDepth 100000 in
theorem c_X2_flush_no (l : Launch) (z : QZ) (M : QMs) (hk : MOk M) (x : Int32) (hno : ¬ qin x (mt_ M)) : GI l yX2_flush wsX2_flush ({ frames := 2, cells := 0, slots := 0, locals := 43 } : Room) z [.ref (za z 55), .int x] 0 0 (MAt z) 55 59 M (fun r M' => r = 0 ∧ M' = uh M 1) := by
  intro ct sz hn hq hat
  refine q_entry (lo := 55) (cc := cX2_flush) (maxL := 3) (ret := (some .int)) (by decide) rfl (Nat.le_of_ble_eq_true rfl) hn hq hat ?_
  intro p e s m below meth c ls C0 hK hsz h hl
  subst hsz
  obtain ⟨hx, hb, hr, hml, hown, hts, hlocks⟩ := id C0
  have hin2 : ∀ w ∈ u_ws RX2 TX2 6, w ∈ wsX2_flush := by decide +kernel
  have hl : lv_has ls 3 [(0, .ref (za z 55)), (1, .int x)] := hl
  refine lv_aload_n hx hb dX2_flush_0 rfl (lv_at hl 0 rfl) ?_
  refine lv_iconst (v := 0) hx hb dX2_flush_1 (by decide) ?_
  refine N_ph C0 hK h hin2 (by decide +kernel) dX2_flush_2 (fun H locs M1 eM1 h => ?_)
  subst eM1
  refine lv_aload_n hx hb dX2_flush_5 rfl (lv_at hl 0 rfl) ?_
  refine lv_iload_n hx hb dX2_flush_6 rfl (lv_at hl 1 rfl) ?_
  refine S_callVi C0 hK h (c_X2_isTank l z (uh M 0) x hk) (cwV 1 hts gX2_flush_X2_isTank rfl rfl rfl (by decide +kernel) ⟨Nat.le_of_ble_eq_true rfl, Nat.le_of_ble_eq_true rfl⟩) (k := 55) (ci := 2) (by omega) (fun ct hA => hA.1) rfl rfl rfl hl.1 (rest := []) rfl (Nat.le_of_ble_eq_true rfl) ⟨Nat.le_of_ble_eq_true rfl, Nat.le_of_ble_eq_true rfl⟩ dX2_flush_7 (fun r u H locs hp h => ?_)
  obtain ⟨hr9, hu9⟩ := hp
  have hr9 := hr9.trans (if_neg hno)
  subst hr9
  rw [hu9] at h
  refine lv_if_ne (tgt := 19) hx hb dX2_flush_10 (by decide) (fun q9 => absurd (by decide) q9) (fun _ => ?_)
  refine lv_aload_n hx hb dX2_flush_13 rfl (lv_at hl 0 rfl) ?_
  refine lv_iconst (v := 1) hx hb dX2_flush_14 (by decide) ?_
  refine S_callVi C0 hK h (c_X2_fail l z (uh M 0) 1) (cwV 1 hts gX2_flush_X2_fail rfl rfl rfl (by decide +kernel) ⟨Nat.le_of_ble_eq_true rfl, Nat.le_of_ble_eq_true rfl⟩) (k := 55) (ci := 2) (by omega) (fun ct hA => hA.1) rfl rfl rfl hl.1 (rest := []) rfl (Nat.le_of_ble_eq_true rfl) ⟨Nat.le_of_ble_eq_true rfl, Nat.le_of_ble_eq_true rfl⟩ dX2_flush_15 (fun r u H locs hp h => ?_)
  obtain ⟨rfl, hp⟩ := hp
  obtain ⟨M2, eM2⟩ : ∃ z9, z9 = uh (uh M 0) 1 := ⟨_, rfl⟩
  rw [hp, ← eM2] at h
  exact G_iret C0 hK h ⟨rfl, by subst eM2; rfl⟩ (Nat.le_of_ble_eq_true rfl) (Nat.le_of_ble_eq_true rfl) dX2_flush_18
set_option maxHeartbeats 4000000 in
set_option maxRecDepth 100000 in
theorem c_X2_scrape_ok (l : Launch) (z : QZ) (M : QMs) (hk : MOk M) (i : Nat) (hi : i < mp_ M) : GI l yX2_scrape wsX2_scrape ({ frames := 2, cells := 0, slots := 0, locals := 43 } : Room) z [.ref (za z 55), .int (nI i)] 0 0 (MAt z) 55 59 M (fun r M' => r = mB M (9 * i + 4) ∧ M' = mSetP (uh M 0) i 4 0) := by
  intro ct sz hn hq hat
  refine q_entry (lo := 55) (cc := cX2_scrape) (maxL := 3) (ret := (some .int)) (by decide) rfl (Nat.le_of_ble_eq_true rfl) hn hq hat ?_
  intro p e s m below meth c ls C0 hK hsz h hl
  subst hsz
  obtain ⟨hx, hb, hr, hml, hown, hts, hlocks⟩ := id C0
  have hin2 : ∀ w ∈ u_ws RX2 TX2 6, w ∈ wsX2_scrape := by decide +kernel
  have hl : lv_has ls 3 [(0, .ref (za z 55)), (1, .int (nI i))] := hl
  have hk1 := hk.1
  have hk2 := hk.2.1
  refine lv_aload_n hx hb dX2_scrape_0 rfl (lv_at hl 0 rfl) ?_
  refine lv_iconst (v := 0) hx hb dX2_scrape_1 (by decide) ?_
  refine N_ph C0 hK h hin2 (by decide +kernel) dX2_scrape_2 (fun H locs M1 eM1 h => ?_)
  subst eM1
  refine lv_aload_n hx hb dX2_scrape_5 rfl (lv_at hl 0 rfl) ?_
  refine lv_iload_n hx hb dX2_scrape_6 rfl (lv_at hl 1 rfl) ?_
  refine S_callVi C0 hK h (c_X2_isPipe l z (uh M 0) (nI i) hk) (cwV 1 hts gX2_scrape_X2_isPipe rfl rfl rfl (by decide +kernel) ⟨Nat.le_of_ble_eq_true rfl, Nat.le_of_ble_eq_true rfl⟩) (k := 55) (ci := 2) (by omega) (fun ct hA => hA.1) rfl rfl rfl hl.1 (rest := []) rfl (Nat.le_of_ble_eq_true rfl) ⟨Nat.le_of_ble_eq_true rfl, Nat.le_of_ble_eq_true rfl⟩ dX2_scrape_7 (fun r u H locs hp h => ?_)
  obtain ⟨hr9, hu9⟩ := hp
  have hr9 := hr9.trans (if_pos (qin_nI (n := mp_ M) (by have := hk.1; have := hk.2.1; omega) hi))
  subst hr9
  rw [hu9] at h
  refine lv_if_ne (tgt := 19) hx hb dX2_scrape_10 (by decide) (fun _ => ?_) (fun q9 => absurd q9 (by decide))
  refine lv_aload_n hx hb dX2_scrape_19 rfl (lv_at hl 0 rfl) ?_
  refine lv_iload_n hx hb dX2_scrape_20 rfl (lv_at hl 1 rfl) ?_
  refine lv_iconst (v := 4) hx hb dX2_scrape_21 (by decide) ?_
  refine S_callVi C0 hK h (c_X2_li l z (uh M 0) i (by omega) 4 (by omega)) (cwV 2 hts gX2_scrape_X2_li rfl rfl rfl (by decide +kernel) ⟨Nat.le_of_ble_eq_true rfl, Nat.le_of_ble_eq_true rfl⟩) (k := 55) (ci := 2) (by omega) (fun ct hA => hA.1) rfl rfl rfl hl.1 (rest := []) rfl (Nat.le_of_ble_eq_true rfl) ⟨Nat.le_of_ble_eq_true rfl, Nat.le_of_ble_eq_true rfl⟩ dX2_scrape_22 (fun r u H locs hp h => ?_)
  obtain ⟨rfl, hu9⟩ := hp
  rw [hu9] at h
  refine lv_istore_n (lv' := [(2, .int (mB (uh M 0) (9 * i + 4))), (0, .ref (za z 55)), (1, .int (nI i))]) hx hb dX2_scrape_25 rfl hl (by decide) rfl (fun ls hl => ?_)
  refine lv_aload_n hx hb dX2_scrape_26 rfl (lv_at hl 1 rfl) ?_
  refine lv_iload_n hx hb dX2_scrape_27 rfl (lv_at hl 2 rfl) ?_
  refine lv_iconst (v := 4) hx hb dX2_scrape_28 (by decide) ?_
  refine lv_iconst (v := 0) hx hb dX2_scrape_29 (by decide) ?_
  refine S_callVv C0 hK h (c_X2_setPipe l z (uh M 0) i (by omega) 4 (by omega) 0) (cwV 3 hts gX2_scrape_X2_setPipe rfl rfl rfl (by decide +kernel) ⟨Nat.le_of_ble_eq_true rfl, Nat.le_of_ble_eq_true rfl⟩) (k := 55) (ci := 2) (by omega) (fun ct hA => hA.1) rfl rfl rfl hl.1 (rest := []) rfl (Nat.le_of_ble_eq_true rfl) ⟨Nat.le_of_ble_eq_true rfl, Nat.le_of_ble_eq_true rfl⟩ dX2_scrape_30 (fun u H locs hp h => ?_)
  obtain ⟨M2, eM2⟩ : ∃ z9, z9 = mSetP (uh M 0) i 4 0 := ⟨_, rfl⟩
  rw [hp, ← eM2] at h
  refine lv_iload_n hx hb dX2_scrape_33 rfl (lv_at hl 0 rfl) ?_
  exact G_iret C0 hK h ⟨rfl, by subst eM2; rfl⟩ (Nat.le_of_ble_eq_true rfl) (Nat.le_of_ble_eq_true rfl) dX2_scrape_34
set_option maxHeartbeats 4000000 in
set_option maxRecDepth 100000 in
theorem c_X2_scrape_no (l : Launch) (z : QZ) (M : QMs) (hk : MOk M) (x : Int32) (hno : ¬ qin x (mp_ M)) : GI l yX2_scrape wsX2_scrape ({ frames := 2, cells := 0, slots := 0, locals := 43 } : Room) z [.ref (za z 55), .int x] 0 0 (MAt z) 55 59 M (fun r M' => r = 0 ∧ M' = uh M 1) := by
  intro ct sz hn hq hat
  refine q_entry (lo := 55) (cc := cX2_scrape) (maxL := 3) (ret := (some .int)) (by decide) rfl (Nat.le_of_ble_eq_true rfl) hn hq hat ?_
  intro p e s m below meth c ls C0 hK hsz h hl
  subst hsz
  obtain ⟨hx, hb, hr, hml, hown, hts, hlocks⟩ := id C0
  have hin2 : ∀ w ∈ u_ws RX2 TX2 6, w ∈ wsX2_scrape := by decide +kernel
  have hl : lv_has ls 3 [(0, .ref (za z 55)), (1, .int x)] := hl
  refine lv_aload_n hx hb dX2_scrape_0 rfl (lv_at hl 0 rfl) ?_
  refine lv_iconst (v := 0) hx hb dX2_scrape_1 (by decide) ?_
  refine N_ph C0 hK h hin2 (by decide +kernel) dX2_scrape_2 (fun H locs M1 eM1 h => ?_)
  subst eM1
  refine lv_aload_n hx hb dX2_scrape_5 rfl (lv_at hl 0 rfl) ?_
  refine lv_iload_n hx hb dX2_scrape_6 rfl (lv_at hl 1 rfl) ?_
  refine S_callVi C0 hK h (c_X2_isPipe l z (uh M 0) x hk) (cwV 1 hts gX2_scrape_X2_isPipe rfl rfl rfl (by decide +kernel) ⟨Nat.le_of_ble_eq_true rfl, Nat.le_of_ble_eq_true rfl⟩) (k := 55) (ci := 2) (by omega) (fun ct hA => hA.1) rfl rfl rfl hl.1 (rest := []) rfl (Nat.le_of_ble_eq_true rfl) ⟨Nat.le_of_ble_eq_true rfl, Nat.le_of_ble_eq_true rfl⟩ dX2_scrape_7 (fun r u H locs hp h => ?_)
  obtain ⟨hr9, hu9⟩ := hp
  have hr9 := hr9.trans (if_neg hno)
  subst hr9
  rw [hu9] at h
  refine lv_if_ne (tgt := 19) hx hb dX2_scrape_10 (by decide) (fun q9 => absurd (by decide) q9) (fun _ => ?_)
  refine lv_aload_n hx hb dX2_scrape_13 rfl (lv_at hl 0 rfl) ?_
  refine lv_iconst (v := 1) hx hb dX2_scrape_14 (by decide) ?_
  refine S_callVi C0 hK h (c_X2_fail l z (uh M 0) 1) (cwV 1 hts gX2_scrape_X2_fail rfl rfl rfl (by decide +kernel) ⟨Nat.le_of_ble_eq_true rfl, Nat.le_of_ble_eq_true rfl⟩) (k := 55) (ci := 2) (by omega) (fun ct hA => hA.1) rfl rfl rfl hl.1 (rest := []) rfl (Nat.le_of_ble_eq_true rfl) ⟨Nat.le_of_ble_eq_true rfl, Nat.le_of_ble_eq_true rfl⟩ dX2_scrape_15 (fun r u H locs hp h => ?_)
  obtain ⟨rfl, hp⟩ := hp
  obtain ⟨M2, eM2⟩ : ∃ z9, z9 = uh (uh M 0) 1 := ⟨_, rfl⟩
  rw [hp, ← eM2] at h
  exact G_iret C0 hK h ⟨rfl, by subst eM2; rfl⟩ (Nat.le_of_ble_eq_true rfl) (Nat.le_of_ble_eq_true rfl) dX2_scrape_18
set_option maxHeartbeats 4000000 in
set_option maxRecDepth 100000 in
theorem c_X2_steal_ok (l : Launch) (z : QZ) (M : QMs) (hk : MOk M) (i : Nat) (hi : i < mp_ M) (x : Int32) (hx9 : 0 ≤ x ∧ x ≤ 9) : GI l yX2_steal wsX2_steal ({ frames := 2, cells := 0, slots := 0, locals := 43 } : Room) z [.ref (za z 55), .int (nI i), .int x] 0 0 (MAt z) 55 59 M (fun r M' => r = mB M (9 * i + 8) ∧ M' = mSetP (uh M 0) i 8 x) := by
  intro ct sz hn hq hat
  refine q_entry (lo := 55) (cc := cX2_steal) (maxL := 4) (ret := (some .int)) (by decide) rfl (Nat.le_of_ble_eq_true rfl) hn hq hat ?_
  intro p e s m below meth c ls C0 hK hsz h hl
  subst hsz
  obtain ⟨hx, hb, hr, hml, hown, hts, hlocks⟩ := id C0
  have hin2 : ∀ w ∈ u_ws RX2 TX2 6, w ∈ wsX2_steal := by decide +kernel
  have hl : lv_has ls 4 [(0, .ref (za z 55)), (1, .int (nI i)), (2, .int x)] := hl
  have hk1 := hk.1
  have hk2 := hk.2.1
  refine lv_aload_n hx hb dX2_steal_0 rfl (lv_at hl 0 rfl) ?_
  refine lv_iconst (v := 0) hx hb dX2_steal_1 (by decide) ?_
  refine N_ph C0 hK h hin2 (by decide +kernel) dX2_steal_2 (fun H locs M1 eM1 h => ?_)
  subst eM1
  refine lv_aload_n hx hb dX2_steal_5 rfl (lv_at hl 0 rfl) ?_
  refine lv_iload_n hx hb dX2_steal_6 rfl (lv_at hl 1 rfl) ?_
  refine S_callVi C0 hK h (c_X2_isPipe l z (uh M 0) (nI i) hk) (cwV 1 hts gX2_steal_X2_isPipe rfl rfl rfl (by decide +kernel) ⟨Nat.le_of_ble_eq_true rfl, Nat.le_of_ble_eq_true rfl⟩) (k := 55) (ci := 2) (by omega) (fun ct hA => hA.1) rfl rfl rfl hl.1 (rest := []) rfl (Nat.le_of_ble_eq_true rfl) ⟨Nat.le_of_ble_eq_true rfl, Nat.le_of_ble_eq_true rfl⟩ dX2_steal_7 (fun r u H locs hp h => ?_)
  obtain ⟨hr9, hu9⟩ := hp
  have hr9 := hr9.trans (if_pos (qin_nI (n := mp_ M) (by have := hk.1; have := hk.2.1; omega) hi))
  subst hr9
  rw [hu9] at h
  refine lv_if_ne (tgt := 19) hx hb dX2_steal_10 (by decide) (fun _ => ?_) (fun q9 => absurd q9 (by decide))
  refine lv_iload_n hx hb dX2_steal_19 rfl (lv_at hl 2 rfl) ?_
  refine lv_iconst (v := 0) hx hb dX2_steal_20 (by decide) ?_
  refine lv_bipush (v := 9) hx hb dX2_steal_21 (by decide) ?_
  refine S_callSi C0 hK h (c_X2_isIn l z (uh M 0) x 0 9) (va_cwS 3 hts gX2_steal_X2_isIn rfl rfl rfl (by decide +kernel) ⟨Nat.le_of_ble_eq_true rfl, Nat.le_of_ble_eq_true rfl⟩) rfl hl.1 (rest := []) rfl (Nat.le_of_ble_eq_true rfl) ⟨Nat.le_of_ble_eq_true rfl, Nat.le_of_ble_eq_true rfl⟩ dX2_steal_23 (fun r u H locs hp h => ?_)
  obtain ⟨hr9, hu9⟩ := hp
  have hr9 := hr9.trans (if_pos hx9)
  subst hr9
  rw [hu9] at h
  refine lv_if_ne (tgt := 35) hx hb dX2_steal_26 (by decide) (fun _ => ?_) (fun q9 => absurd q9 (by decide))
  refine lv_aload_n hx hb dX2_steal_35 rfl (lv_at hl 0 rfl) ?_
  refine lv_iload_n hx hb dX2_steal_36 rfl (lv_at hl 1 rfl) ?_
  refine lv_bipush (v := 8) hx hb dX2_steal_37 (by decide) ?_
  refine S_callVi C0 hK h (c_X2_li l z (uh M 0) i (by omega) 8 (by omega)) (cwV 2 hts gX2_steal_X2_li rfl rfl rfl (by decide +kernel) ⟨Nat.le_of_ble_eq_true rfl, Nat.le_of_ble_eq_true rfl⟩) (k := 55) (ci := 2) (by omega) (fun ct hA => hA.1) rfl rfl rfl hl.1 (rest := []) rfl (Nat.le_of_ble_eq_true rfl) ⟨Nat.le_of_ble_eq_true rfl, Nat.le_of_ble_eq_true rfl⟩ dX2_steal_39 (fun r u H locs hp h => ?_)
  obtain ⟨rfl, hu9⟩ := hp
  rw [hu9] at h
  refine lv_istore_n (lv' := [(3, .int (mB (uh M 0) (9 * i + 8))), (0, .ref (za z 55)), (1, .int (nI i)), (2, .int x)]) hx hb dX2_steal_42 rfl hl (by decide) rfl (fun ls hl => ?_)
  refine lv_aload_n hx hb dX2_steal_43 rfl (lv_at hl 1 rfl) ?_
  refine lv_iload_n hx hb dX2_steal_44 rfl (lv_at hl 2 rfl) ?_
  refine lv_bipush (v := 8) hx hb dX2_steal_45 (by decide) ?_
  refine lv_iload_n hx hb dX2_steal_47 rfl (lv_at hl 3 rfl) ?_
  refine S_callVv C0 hK h (c_X2_setPipe l z (uh M 0) i (by omega) 8 (by omega) x) (cwV 3 hts gX2_steal_X2_setPipe rfl rfl rfl (by decide +kernel) ⟨Nat.le_of_ble_eq_true rfl, Nat.le_of_ble_eq_true rfl⟩) (k := 55) (ci := 2) (by omega) (fun ct hA => hA.1) rfl rfl rfl hl.1 (rest := []) rfl (Nat.le_of_ble_eq_true rfl) ⟨Nat.le_of_ble_eq_true rfl, Nat.le_of_ble_eq_true rfl⟩ dX2_steal_48 (fun u H locs hp h => ?_)
  obtain ⟨M2, eM2⟩ : ∃ z9, z9 = mSetP (uh M 0) i 8 x := ⟨_, rfl⟩
  rw [hp, ← eM2] at h
  refine lv_iload_n hx hb dX2_steal_51 rfl (lv_at hl 0 rfl) ?_
  exact G_iret C0 hK h ⟨rfl, by subst eM2; rfl⟩ (Nat.le_of_ble_eq_true rfl) (Nat.le_of_ble_eq_true rfl) dX2_steal_52
set_option maxHeartbeats 4000000 in
set_option maxRecDepth 100000 in
theorem c_X2_steal_no (l : Launch) (z : QZ) (M : QMs) (hk : MOk M) (x y : Int32) (hno : ¬ qin x (mp_ M)) : GI l yX2_steal wsX2_steal ({ frames := 2, cells := 0, slots := 0, locals := 43 } : Room) z [.ref (za z 55), .int x, .int y] 0 0 (MAt z) 55 59 M (fun r M' => r = 0 ∧ M' = uh M 1) := by
  intro ct sz hn hq hat
  refine q_entry (lo := 55) (cc := cX2_steal) (maxL := 4) (ret := (some .int)) (by decide) rfl (Nat.le_of_ble_eq_true rfl) hn hq hat ?_
  intro p e s m below meth c ls C0 hK hsz h hl
  subst hsz
  obtain ⟨hx, hb, hr, hml, hown, hts, hlocks⟩ := id C0
  have hin2 : ∀ w ∈ u_ws RX2 TX2 6, w ∈ wsX2_steal := by decide +kernel
  have hl : lv_has ls 4 [(0, .ref (za z 55)), (1, .int x), (2, .int y)] := hl
  refine lv_aload_n hx hb dX2_steal_0 rfl (lv_at hl 0 rfl) ?_
  refine lv_iconst (v := 0) hx hb dX2_steal_1 (by decide) ?_
  refine N_ph C0 hK h hin2 (by decide +kernel) dX2_steal_2 (fun H locs M1 eM1 h => ?_)
  subst eM1
  refine lv_aload_n hx hb dX2_steal_5 rfl (lv_at hl 0 rfl) ?_
  refine lv_iload_n hx hb dX2_steal_6 rfl (lv_at hl 1 rfl) ?_
  refine S_callVi C0 hK h (c_X2_isPipe l z (uh M 0) x hk) (cwV 1 hts gX2_steal_X2_isPipe rfl rfl rfl (by decide +kernel) ⟨Nat.le_of_ble_eq_true rfl, Nat.le_of_ble_eq_true rfl⟩) (k := 55) (ci := 2) (by omega) (fun ct hA => hA.1) rfl rfl rfl hl.1 (rest := []) rfl (Nat.le_of_ble_eq_true rfl) ⟨Nat.le_of_ble_eq_true rfl, Nat.le_of_ble_eq_true rfl⟩ dX2_steal_7 (fun r u H locs hp h => ?_)
  obtain ⟨hr9, hu9⟩ := hp
  have hr9 := hr9.trans (if_neg hno)
  subst hr9
  rw [hu9] at h
  refine lv_if_ne (tgt := 19) hx hb dX2_steal_10 (by decide) (fun q9 => absurd (by decide) q9) (fun _ => ?_)
  refine lv_aload_n hx hb dX2_steal_13 rfl (lv_at hl 0 rfl) ?_
  refine lv_iconst (v := 1) hx hb dX2_steal_14 (by decide) ?_
  refine S_callVi C0 hK h (c_X2_fail l z (uh M 0) 1) (cwV 1 hts gX2_steal_X2_fail rfl rfl rfl (by decide +kernel) ⟨Nat.le_of_ble_eq_true rfl, Nat.le_of_ble_eq_true rfl⟩) (k := 55) (ci := 2) (by omega) (fun ct hA => hA.1) rfl rfl rfl hl.1 (rest := []) rfl (Nat.le_of_ble_eq_true rfl) ⟨Nat.le_of_ble_eq_true rfl, Nat.le_of_ble_eq_true rfl⟩ dX2_steal_15 (fun r u H locs hp h => ?_)
  obtain ⟨rfl, hp⟩ := hp
  obtain ⟨M2, eM2⟩ : ∃ z9, z9 = uh (uh M 0) 1 := ⟨_, rfl⟩
  rw [hp, ← eM2] at h
  exact G_iret C0 hK h ⟨rfl, by subst eM2; rfl⟩ (Nat.le_of_ble_eq_true rfl) (Nat.le_of_ble_eq_true rfl) dX2_steal_18
set_option maxHeartbeats 4000000 in
set_option maxRecDepth 100000 in
theorem c_X2_steal_no2 (l : Launch) (z : QZ) (M : QMs) (hk : MOk M) (i : Nat) (hi : i < mp_ M) (x : Int32) (hno : ¬ (0 ≤ x ∧ x ≤ 9)) : GI l yX2_steal wsX2_steal ({ frames := 2, cells := 0, slots := 0, locals := 43 } : Room) z [.ref (za z 55), .int (nI i), .int x] 0 0 (MAt z) 55 59 M (fun r M' => r = 0 ∧ M' = uh M 2) := by
  intro ct sz hn hq hat
  refine q_entry (lo := 55) (cc := cX2_steal) (maxL := 4) (ret := (some .int)) (by decide) rfl (Nat.le_of_ble_eq_true rfl) hn hq hat ?_
  intro p e s m below meth c ls C0 hK hsz h hl
  subst hsz
  obtain ⟨hx, hb, hr, hml, hown, hts, hlocks⟩ := id C0
  have hin2 : ∀ w ∈ u_ws RX2 TX2 6, w ∈ wsX2_steal := by decide +kernel
  have hl : lv_has ls 4 [(0, .ref (za z 55)), (1, .int (nI i)), (2, .int x)] := hl
  refine lv_aload_n hx hb dX2_steal_0 rfl (lv_at hl 0 rfl) ?_
  refine lv_iconst (v := 0) hx hb dX2_steal_1 (by decide) ?_
  refine N_ph C0 hK h hin2 (by decide +kernel) dX2_steal_2 (fun H locs M1 eM1 h => ?_)
  subst eM1
  refine lv_aload_n hx hb dX2_steal_5 rfl (lv_at hl 0 rfl) ?_
  refine lv_iload_n hx hb dX2_steal_6 rfl (lv_at hl 1 rfl) ?_
  refine S_callVi C0 hK h (c_X2_isPipe l z (uh M 0) (nI i) hk) (cwV 1 hts gX2_steal_X2_isPipe rfl rfl rfl (by decide +kernel) ⟨Nat.le_of_ble_eq_true rfl, Nat.le_of_ble_eq_true rfl⟩) (k := 55) (ci := 2) (by omega) (fun ct hA => hA.1) rfl rfl rfl hl.1 (rest := []) rfl (Nat.le_of_ble_eq_true rfl) ⟨Nat.le_of_ble_eq_true rfl, Nat.le_of_ble_eq_true rfl⟩ dX2_steal_7 (fun r u H locs hp h => ?_)
  obtain ⟨hr9, hu9⟩ := hp
  have hr9 := hr9.trans (if_pos (qin_nI (n := mp_ M) (by have := hk.1; have := hk.2.1; omega) hi))
  subst hr9
  rw [hu9] at h
  refine lv_if_ne (tgt := 19) hx hb dX2_steal_10 (by decide) (fun _ => ?_) (fun q9 => absurd q9 (by decide))
  refine lv_iload_n hx hb dX2_steal_19 rfl (lv_at hl 2 rfl) ?_
  refine lv_iconst (v := 0) hx hb dX2_steal_20 (by decide) ?_
  refine lv_bipush (v := 9) hx hb dX2_steal_21 (by decide) ?_
  refine S_callSi C0 hK h (c_X2_isIn l z (uh M 0) x 0 9) (va_cwS 3 hts gX2_steal_X2_isIn rfl rfl rfl (by decide +kernel) ⟨Nat.le_of_ble_eq_true rfl, Nat.le_of_ble_eq_true rfl⟩) rfl hl.1 (rest := []) rfl (Nat.le_of_ble_eq_true rfl) ⟨Nat.le_of_ble_eq_true rfl, Nat.le_of_ble_eq_true rfl⟩ dX2_steal_23 (fun r u H locs hp h => ?_)
  obtain ⟨hr9, hu9⟩ := hp
  have hr9 := hr9.trans (if_neg hno)
  subst hr9
  rw [hu9] at h
  refine lv_if_ne (tgt := 35) hx hb dX2_steal_26 (by decide) (fun q9 => absurd (by decide) q9) (fun _ => ?_)
  refine lv_aload_n hx hb dX2_steal_29 rfl (lv_at hl 0 rfl) ?_
  refine lv_iconst (v := 2) hx hb dX2_steal_30 (by decide) ?_
  refine S_callVi C0 hK h (c_X2_fail l z (uh M 0) 2) (cwV 1 hts gX2_steal_X2_fail rfl rfl rfl (by decide +kernel) ⟨Nat.le_of_ble_eq_true rfl, Nat.le_of_ble_eq_true rfl⟩) (k := 55) (ci := 2) (by omega) (fun ct hA => hA.1) rfl rfl rfl hl.1 (rest := []) rfl (Nat.le_of_ble_eq_true rfl) ⟨Nat.le_of_ble_eq_true rfl, Nat.le_of_ble_eq_true rfl⟩ dX2_steal_31 (fun r u H locs hp h => ?_)
  obtain ⟨rfl, hp⟩ := hp
  obtain ⟨M2, eM2⟩ : ∃ z9, z9 = uh (uh M 0) 2 := ⟨_, rfl⟩
  rw [hp, ← eM2] at h
  exact G_iret C0 hK h ⟨rfl, by subst eM2; rfl⟩ (Nat.le_of_ble_eq_true rfl) (Nat.le_of_ble_eq_true rfl) dX2_steal_34
set_option maxHeartbeats 4000000 in
set_option maxRecDepth 100000 in
theorem c_X2_pass_ok (l : Launch) (z : QZ) (M : QMs) (hk : MOk M) (n : Nat) (h1 : 1 ≤ n) (h2 : n ≤ 100) : GI l yX2_pass wsX2_pass ({ frames := 6, cells := 0, slots := 0, locals := 135 } : Room) z [.ref (za z 55), .int (nI n)] 0 0 (MAt z) 55 59 M (fun r M' => r = mall (itN mdayF n (uh M 0)) 6 - mall M 6 ∧ M' = itN mdayF n (uh M 0)) := by
  intro ct sz hn hq hat
  refine q_entry (lo := 55) (cc := cX2_pass) (maxL := 3) (ret := (some .int)) (by decide) rfl (Nat.le_of_ble_eq_true rfl) hn hq hat ?_
  intro p e s m below meth c ls C0 hK hsz h hl
  subst hsz
  obtain ⟨hx, hb, hr, hml, hown, hts, hlocks⟩ := id C0
  have hin2 : ∀ w ∈ u_ws RX2 TX2 6, w ∈ wsX2_pass := by decide +kernel
  have hl : lv_has ls 3 [(0, .ref (za z 55)), (1, .int (nI n))] := hl
  refine lv_aload_n hx hb dX2_pass_0 rfl (lv_at hl 0 rfl) ?_
  refine lv_iconst (v := 0) hx hb dX2_pass_1 (by decide) ?_
  refine N_ph C0 hK h hin2 (by decide +kernel) dX2_pass_2 (fun H locs M1 eM1 h => ?_)
  subst eM1
  refine lv_iload_n hx hb dX2_pass_5 rfl (lv_at hl 1 rfl) ?_
  refine lv_iconst (v := 1) hx hb dX2_pass_6 (by decide) ?_
  refine lv_bipush (v := 100) hx hb dX2_pass_7 (by decide) ?_
  refine S_callSi C0 hK h (c_X2_isIn l z (uh M 0) (nI n) 1 100) (va_cwS 3 hts gX2_pass_X2_isIn rfl rfl rfl (by decide +kernel) ⟨Nat.le_of_ble_eq_true rfl, Nat.le_of_ble_eq_true rfl⟩) rfl hl.1 (rest := []) rfl (Nat.le_of_ble_eq_true rfl) ⟨Nat.le_of_ble_eq_true rfl, Nat.le_of_ble_eq_true rfl⟩ dX2_pass_9 (fun r u H locs hp h => ?_)
  obtain ⟨hr9, hu9⟩ := hp
  have hr9 := hr9.trans (if_pos (q_rng (k := n) 1 100 rfl rfl))
  subst hr9
  rw [hu9] at h
  refine lv_if_ne (tgt := 21) hx hb dX2_pass_12 (by decide) (fun _ => ?_) (fun q9 => absurd q9 (by decide))
  refine lv_aload_n hx hb dX2_pass_21 rfl (lv_at hl 0 rfl) ?_
  refine lv_bipush (v := 6) hx hb dX2_pass_22 (by decide) ?_
  refine S_callVi C0 hK h (c_X2_all l z (uh M 0) hk 6 (by decide)) (cwV 1 hts gX2_pass_X2_all rfl rfl rfl (by decide +kernel) ⟨Nat.le_of_ble_eq_true rfl, Nat.le_of_ble_eq_true rfl⟩) (k := 55) (ci := 2) (by omega) (fun ct hA => hA.1) rfl rfl rfl hl.1 (rest := []) rfl (Nat.le_of_ble_eq_true rfl) ⟨Nat.le_of_ble_eq_true rfl, Nat.le_of_ble_eq_true rfl⟩ dX2_pass_24 (fun r u H locs hp h => ?_)
  obtain ⟨rfl, hu9⟩ := hp
  rw [hu9] at h
  refine lv_istore_n (lv' := [(2, .int (mall (uh M 0) 6)), (0, .ref (za z 55)), (1, .int (nI n))]) hx hb dX2_pass_27 rfl hl (by decide) rfl (fun ls hl => ?_)
  refine lv_aload_n hx hb dX2_pass_28 rfl (lv_at hl 1 rfl) ?_
  refine lv_iload_n hx hb dX2_pass_29 rfl (lv_at hl 2 rfl) ?_
  refine S_callVv C0 hK h (c_X2_daysOn l z (uh M 0) hk n (by omega)) (cwV 1 hts gX2_pass_X2_daysOn rfl rfl rfl (by decide +kernel) ⟨Nat.le_of_ble_eq_true rfl, Nat.le_of_ble_eq_true rfl⟩) (k := 55) (ci := 2) (by omega) (fun ct hA => hA.1) rfl rfl rfl hl.1 (rest := []) rfl (Nat.le_of_ble_eq_true rfl) ⟨Nat.le_of_ble_eq_true rfl, Nat.le_of_ble_eq_true rfl⟩ dX2_pass_30 (fun u H locs hp h => ?_)
  obtain ⟨M2, eM2⟩ : ∃ z9, z9 = itN mdayF n (uh M 0) := ⟨_, rfl⟩
  rw [hp, ← eM2] at h
  refine lv_aload_n hx hb dX2_pass_33 rfl (lv_at hl 1 rfl) ?_
  refine lv_bipush (v := 6) hx hb dX2_pass_34 (by decide) ?_
  refine S_callVi C0 hK h (c_X2_all l z M2 (by subst eM2; exact (mshp_days _ _).ok hk) 6 (by decide)) (cwV 1 hts gX2_pass_X2_all rfl rfl rfl (by decide +kernel) ⟨Nat.le_of_ble_eq_true rfl, Nat.le_of_ble_eq_true rfl⟩) (k := 55) (ci := 2) (by omega) (fun ct hA => hA.1) rfl rfl rfl hl.1 (rest := []) rfl (Nat.le_of_ble_eq_true rfl) ⟨Nat.le_of_ble_eq_true rfl, Nat.le_of_ble_eq_true rfl⟩ dX2_pass_36 (fun r u H locs hp h => ?_)
  obtain ⟨rfl, hu9⟩ := hp
  rw [hu9] at h
  refine lv_iload_n hx hb dX2_pass_39 rfl (lv_at hl 0 rfl) ?_
  refine lv_isub hx hb dX2_pass_40 ?_
  exact G_iret C0 hK h ⟨by subst eM2; rfl, by subst eM2; rfl⟩ (Nat.le_of_ble_eq_true rfl) (Nat.le_of_ble_eq_true rfl) dX2_pass_41
set_option maxHeartbeats 4000000 in
set_option maxRecDepth 100000 in
theorem c_X2_pass_no (l : Launch) (z : QZ) (M : QMs) (hk : MOk M) (x : Int32) (hno : ¬ (1 ≤ x ∧ x ≤ 100)) : GI l yX2_pass wsX2_pass ({ frames := 1, cells := 0, slots := 0, locals := 22 } : Room) z [.ref (za z 55), .int x] 0 0 (MAt z) 55 59 M (fun r M' => r = 0 ∧ M' = uh M 1) := by
  intro ct sz hn hq hat
  refine q_entry (lo := 55) (cc := cX2_pass) (maxL := 3) (ret := (some .int)) (by decide) rfl (Nat.le_of_ble_eq_true rfl) hn hq hat ?_
  intro p e s m below meth c ls C0 hK hsz h hl
  subst hsz
  obtain ⟨hx, hb, hr, hml, hown, hts, hlocks⟩ := id C0
  have hin2 : ∀ w ∈ u_ws RX2 TX2 6, w ∈ wsX2_pass := by decide +kernel
  have hl : lv_has ls 3 [(0, .ref (za z 55)), (1, .int x)] := hl
  refine lv_aload_n hx hb dX2_pass_0 rfl (lv_at hl 0 rfl) ?_
  refine lv_iconst (v := 0) hx hb dX2_pass_1 (by decide) ?_
  refine N_ph C0 hK h hin2 (by decide +kernel) dX2_pass_2 (fun H locs M1 eM1 h => ?_)
  subst eM1
  refine lv_iload_n hx hb dX2_pass_5 rfl (lv_at hl 1 rfl) ?_
  refine lv_iconst (v := 1) hx hb dX2_pass_6 (by decide) ?_
  refine lv_bipush (v := 100) hx hb dX2_pass_7 (by decide) ?_
  refine S_callSi C0 hK h (c_X2_isIn l z (uh M 0) x 1 100) (va_cwS 3 hts gX2_pass_X2_isIn rfl rfl rfl (by decide +kernel) ⟨Nat.le_of_ble_eq_true rfl, Nat.le_of_ble_eq_true rfl⟩) rfl hl.1 (rest := []) rfl (Nat.le_of_ble_eq_true rfl) ⟨Nat.le_of_ble_eq_true rfl, Nat.le_of_ble_eq_true rfl⟩ dX2_pass_9 (fun r u H locs hp h => ?_)
  obtain ⟨hr9, hu9⟩ := hp
  have hr9 := hr9.trans (if_neg hno)
  subst hr9
  rw [hu9] at h
  refine lv_if_ne (tgt := 21) hx hb dX2_pass_12 (by decide) (fun q9 => absurd (by decide) q9) (fun _ => ?_)
  refine lv_aload_n hx hb dX2_pass_15 rfl (lv_at hl 0 rfl) ?_
  refine lv_iconst (v := 1) hx hb dX2_pass_16 (by decide) ?_
  refine S_callVi C0 hK h (c_X2_fail l z (uh M 0) 1) (cwV 1 hts gX2_pass_X2_fail rfl rfl rfl (by decide +kernel) ⟨Nat.le_of_ble_eq_true rfl, Nat.le_of_ble_eq_true rfl⟩) (k := 55) (ci := 2) (by omega) (fun ct hA => hA.1) rfl rfl rfl hl.1 (rest := []) rfl (Nat.le_of_ble_eq_true rfl) ⟨Nat.le_of_ble_eq_true rfl, Nat.le_of_ble_eq_true rfl⟩ dX2_pass_17 (fun r u H locs hp h => ?_)
  obtain ⟨rfl, hp⟩ := hp
  obtain ⟨M2, eM2⟩ : ∃ z9, z9 = uh (uh M 0) 1 := ⟨_, rfl⟩
  rw [hp, ← eM2] at h
  exact G_iret C0 hK h ⟨rfl, by subst eM2; rfl⟩ (Nat.le_of_ble_eq_true rfl) (Nat.le_of_ble_eq_true rfl) dX2_pass_20
set_option maxHeartbeats 4000000 in
set_option maxRecDepth 100000 in
theorem c_X2_reach_ok (l : Launch) (z : QZ) (M : QMs) (hk : MOk M) (t : Nat) (hi : t < mt_ M) : GI l yX2_reach wsX2_reach ({ frames := 2, cells := 0, slots := 0, locals := 43 } : Room) z [.ref (za z 55), .int (nI t)] 0 0 (MAt z) 55 59 M (fun r M' => r = mreach M (nI t) ∧ M' = uh M 0) := by
  intro ct sz hn hq hat
  refine q_entry (lo := 55) (cc := cX2_reach) (maxL := 5) (ret := (some .int)) (by decide) rfl (Nat.le_of_ble_eq_true rfl) hn hq hat ?_
  intro p e s m below meth c ls C0 hK hsz h hl
  subst hsz
  obtain ⟨hx, hb, hr, hml, hown, hts, hlocks⟩ := id C0
  have hin2 : ∀ w ∈ u_ws RX2 TX2 6, w ∈ wsX2_reach := by decide +kernel
  have hl : lv_has ls 5 [(0, .ref (za z 55)), (1, .int (nI t))] := hl
  have hk1 := hk.1
  have hk2 := hk.2.1
  have L23 : ∀ (d i : Nat), i + d = mt_ M + 1 → ∀ (H : Heap) (locs : List Loc) (ls : Array Slot), GW z (MAt z) 55 59 s.heap ct (uh M 0) H locs → lv_has ls 5 [(3, .int (nI i)), (2, .int (itN (fun _ r => mrRound M (nI t) r) i 0)), (0, .ref (za z 55)), (1, .int (nI t))] → W p l e ({ frames := 2, cells := 0, slots := 0, locals := 43 } : Room) s m [.ref (za z 55), .int (nI t)].toArray below meth c H locs 0 0 (EI z (MAt z) 55 59 ct s below [.ref (za z 55), .int (nI t)] 0 0 (fun r M' => r = mreach M (nI t) ∧ M' = uh M 0)) (F0 m 23 ls []) := by
    intro  d
    induction d with
    | zero =>
      intro i hdi H locs ls h hl
      have hEi : i = mt_ M + 1 := by omega
      refine lv_iload_n hx hb dX2_reach_23 rfl (lv_at hl 0 rfl) ?_
      refine lv_aload_n hx hb dX2_reach_24 rfl (lv_at hl 2 rfl) ?_
      refine M_g C0 hK h hin2 1 (by decide) (by decide +kernel) rfl dX2_reach_25 ?_
      refine lv_icmp_gt (tgt := 93) hx hb dX2_reach_28 (by decide) (fun _ => ?_) (fun q9 => absurd (show nI (mt_ M) < nI i from nI_lt (by omega) (by omega)) q9)
      refine lv_iload_n hx hb dX2_reach_93 rfl (lv_at hl 1 rfl) ?_
      exact G_iret C0 hK h ⟨by rw [hEi]; rfl, rfl⟩ (Nat.le_of_ble_eq_true rfl) (Nat.le_of_ble_eq_true rfl) dX2_reach_94
    | succ d ihL23 =>
      intro i hdi H locs ls h hl
      have hEi : i < mt_ M + 1 := by omega
      have L34 : ∀ (g j : Nat), j + g = mp_ M → ∀ (H : Heap) (locs : List Loc) (ls : Array Slot), GW z (MAt z) 55 59 s.heap ct (uh M 0) H locs → lv_has ls 5 [(4, .int (nI j)), (3, .int (nI i)), (2, .int (itN (mrStep M (nI t)) j (itN (fun _ r => mrRound M (nI t) r) i 0))), (0, .ref (za z 55)), (1, .int (nI t))] → W p l e ({ frames := 2, cells := 0, slots := 0, locals := 43 } : Room) s m [.ref (za z 55), .int (nI t)].toArray below meth c H locs 0 0 (EI z (MAt z) 55 59 ct s below [.ref (za z 55), .int (nI t)] 0 0 (fun r M' => r = mreach M (nI t) ∧ M' = uh M 0)) (F0 m 34 ls []) := by
        intro  g
        induction g with
        | zero =>
          intro j hdj H locs ls h hl
          have hEj : j = mp_ M := by omega
          have hk7 := hk.2.1
          refine lv_iload hx hb dX2_reach_34 (lv_at hl 0 rfl) ?_
          refine lv_aload_n hx hb dX2_reach_36 rfl (lv_at hl 3 rfl) ?_
          refine M_g C0 hK h hin2 2 (by decide) (by decide +kernel) rfl dX2_reach_37 ?_
          refine lv_icmp_ge (tgt := 87) hx hb dX2_reach_40 (by decide) (fun _ => ?_) (fun q9 => absurd (nI_le (a := mp_ M) (by omega) (by omega)) q9)
          refine lv_iinc (v := nI (i + 1)) (lv' := [(3, .int (nI (i + 1))), (4, .int (nI j)), (2, .int (itN (mrStep M (nI t)) j (itN (fun _ r => mrRound M (nI t) r) i 0))), (0, .ref (za z 55)), (1, .int (nI t))]) hx hb dX2_reach_87 hl (k := 1) rfl (q_inc i 1) (by decide) rfl (fun ls hl => ?_)
          refine lv_goto (tgt := 23) hx hb dX2_reach_90 (by decide) ?_
          rw [hEj] at hl
          exact ihL23 (i + 1) (by omega) _ _ _ h (lv_sub hl [0, 2, 3, 4] rfl)
        | succ g ihL34 =>
          intro j hdj H locs ls h hl
          have hEj : j < mp_ M := by omega
          have hk7 := hk.2.1
          refine lv_iload hx hb dX2_reach_34 (lv_at hl 0 rfl) ?_
          refine lv_aload_n hx hb dX2_reach_36 rfl (lv_at hl 3 rfl) ?_
          refine M_g C0 hK h hin2 2 (by decide) (by decide +kernel) rfl dX2_reach_37 ?_
          refine lv_icmp_ge (tgt := 87) hx hb dX2_reach_40 (by decide) (fun q9 => absurd q9 (nI_ge (b := mp_ M) (by omega) (by omega))) (fun _ => ?_)
          refine lv_aload_n hx hb dX2_reach_43 rfl (lv_at hl 3 rfl) ?_
          refine lv_iload hx hb dX2_reach_44 (lv_at hl 0 rfl) ?_
          refine lv_iconst (v := 0) hx hb dX2_reach_46 (by decide) ?_
          refine S_callVi C0 hK h (c_X2_li l z (uh M 0) j (by omega) 0 (by omega)) (cwV 2 hts gX2_reach_X2_li rfl rfl rfl (by decide +kernel) ⟨Nat.le_of_ble_eq_true rfl, Nat.le_of_ble_eq_true rfl⟩) (k := 55) (ci := 2) (by omega) (fun ct hA => hA.1) rfl rfl rfl hl.1 (rest := []) rfl (Nat.le_of_ble_eq_true rfl) ⟨Nat.le_of_ble_eq_true rfl, Nat.le_of_ble_eq_true rfl⟩ dX2_reach_47 (fun r u H locs hp h => ?_)
          obtain ⟨rfl, hu9⟩ := hp
          rw [hu9] at h
          refine lv_iload_n hx hb dX2_reach_50 rfl (lv_at hl 4 rfl) ?_
          refine lv_icmp_eq (tgt := 69) hx hb dX2_reach_51 (by decide) (fun c_51 => ?_) (fun c_51 => ?_)
          · refine lv_iload_n hx hb dX2_reach_69 rfl (lv_at hl 2 rfl) ?_
            refine lv_iconst (v := 1) hx hb dX2_reach_70 (by decide) ?_
            refine lv_aload_n hx hb dX2_reach_71 rfl (lv_at hl 3 rfl) ?_
            refine lv_iload hx hb dX2_reach_72 (lv_at hl 0 rfl) ?_
            refine lv_iconst (v := 1) hx hb dX2_reach_74 (by decide) ?_
            refine S_callVi C0 hK h (c_X2_li l z (uh M 0) j (by omega) 1 (by omega)) (cwV 2 hts gX2_reach_X2_li rfl rfl rfl (by decide +kernel) ⟨Nat.le_of_ble_eq_true rfl, Nat.le_of_ble_eq_true rfl⟩) (k := 55) (ci := 2) (by omega) (fun ct hA => hA.1) rfl rfl rfl hl.1 (rest := [.int 1, .int (itN (mrStep M (nI t)) j (itN (fun _ r => mrRound M (nI t) r) i 0))]) rfl (Nat.le_of_ble_eq_true rfl) ⟨Nat.le_of_ble_eq_true rfl, Nat.le_of_ble_eq_true rfl⟩ dX2_reach_75 (fun r u H locs hp h => ?_)
            obtain ⟨rfl, hu9⟩ := hp
            rw [hu9] at h
            refine lv_ishl hx hb dX2_reach_78 ?_
            refine lv_ior hx hb dX2_reach_79 ?_
            refine lv_istore_n (lv' := [(2, .int ((itN (mrStep M (nI t)) j (itN (fun _ r => mrRound M (nI t) r) i 0)) ||| (1 <<< ((mB (uh M 0) (9 * j + 1)) &&& 31)))), (4, .int (nI j)), (3, .int (nI i)), (0, .ref (za z 55)), (1, .int (nI t))]) hx hb dX2_reach_80 rfl hl (by decide) rfl (fun ls hl => ?_)
            refine lv_iinc (v := nI (j + 1)) (lv' := [(4, .int (nI (j + 1))), (2, .int ((itN (mrStep M (nI t)) j (itN (fun _ r => mrRound M (nI t) r) i 0)) ||| (1 <<< ((mB (uh M 0) (9 * j + 1)) &&& 31)))), (3, .int (nI i)), (0, .ref (za z 55)), (1, .int (nI t))]) hx hb dX2_reach_81 hl (k := 1) rfl (q_inc j 1) (by decide) rfl (fun ls hl => ?_)
            refine lv_goto (tgt := 34) hx hb dX2_reach_84 (by decide) ?_
            have e9 : itN (mrStep M (nI t)) (j + 1) (itN (fun _ r => mrRound M (nI t) r) i 0) = (itN (mrStep M (nI t)) j (itN (fun _ r => mrRound M (nI t) r) i 0)) ||| (1 <<< ((mB M (9 * j + 1)) &&& 31)) := mrStep_a c_51
            have hl : lv_has ls 5 [(4, .int (nI (j + 1))), (2, .int (itN (mrStep M (nI t)) (j + 1) (itN (fun _ r => mrRound M (nI t) r) i 0))), (3, .int (nI i)), (0, .ref (za z 55)), (1, .int (nI t))] := by rw [e9]; exact hl
            exact ihL34 (j + 1) (by omega) _ _ _ h (lv_sub hl [0, 2, 1, 3, 4] rfl)
          · refine lv_iload_n hx hb dX2_reach_54 rfl (lv_at hl 2 rfl) ?_
            refine lv_aload_n hx hb dX2_reach_55 rfl (lv_at hl 3 rfl) ?_
            refine lv_iload hx hb dX2_reach_56 (lv_at hl 0 rfl) ?_
            refine lv_iconst (v := 0) hx hb dX2_reach_58 (by decide) ?_
            refine S_callVi C0 hK h (c_X2_li l z (uh M 0) j (by omega) 0 (by omega)) (cwV 2 hts gX2_reach_X2_li rfl rfl rfl (by decide +kernel) ⟨Nat.le_of_ble_eq_true rfl, Nat.le_of_ble_eq_true rfl⟩) (k := 55) (ci := 2) (by omega) (fun ct hA => hA.1) rfl rfl rfl hl.1 (rest := [.int (itN (mrStep M (nI t)) j (itN (fun _ r => mrRound M (nI t) r) i 0))]) rfl (Nat.le_of_ble_eq_true rfl) ⟨Nat.le_of_ble_eq_true rfl, Nat.le_of_ble_eq_true rfl⟩ dX2_reach_59 (fun r u H locs hp h => ?_)
            obtain ⟨rfl, hu9⟩ := hp
            rw [hu9] at h
            refine lv_ishr hx hb dX2_reach_62 ?_
            refine lv_iconst (v := 1) hx hb dX2_reach_63 (by decide) ?_
            refine lv_iand hx hb dX2_reach_64 ?_
            refine lv_iconst (v := 1) hx hb dX2_reach_65 (by decide) ?_
            refine lv_icmp_ne (tgt := 81) hx hb dX2_reach_66 (by decide) (fun c_66 => ?_) (fun c_66 => ?_)
            · refine lv_iinc (v := nI (j + 1)) (lv' := [(4, .int (nI (j + 1))), (3, .int (nI i)), (2, .int (itN (mrStep M (nI t)) j (itN (fun _ r => mrRound M (nI t) r) i 0))), (0, .ref (za z 55)), (1, .int (nI t))]) hx hb dX2_reach_81 hl (k := 0) rfl (q_inc j 1) (by decide) rfl (fun ls hl => ?_)
              refine lv_goto (tgt := 34) hx hb dX2_reach_84 (by decide) ?_
              have e9 : itN (mrStep M (nI t)) (j + 1) (itN (fun _ r => mrRound M (nI t) r) i 0) = itN (mrStep M (nI t)) j (itN (fun _ r => mrRound M (nI t) r) i 0) := mrStep_b c_51 c_66
              have hl : lv_has ls 5 [(4, .int (nI (j + 1))), (3, .int (nI i)), (2, .int (itN (mrStep M (nI t)) (j + 1) (itN (fun _ r => mrRound M (nI t) r) i 0))), (0, .ref (za z 55)), (1, .int (nI t))] := by rw [e9]; exact hl
              exact ihL34 (j + 1) (by omega) _ _ _ h (lv_sub hl [0, 1, 2, 3, 4] rfl)
            · refine lv_iload_n hx hb dX2_reach_69 rfl (lv_at hl 2 rfl) ?_
              refine lv_iconst (v := 1) hx hb dX2_reach_70 (by decide) ?_
              refine lv_aload_n hx hb dX2_reach_71 rfl (lv_at hl 3 rfl) ?_
              refine lv_iload hx hb dX2_reach_72 (lv_at hl 0 rfl) ?_
              refine lv_iconst (v := 1) hx hb dX2_reach_74 (by decide) ?_
              refine S_callVi C0 hK h (c_X2_li l z (uh M 0) j (by omega) 1 (by omega)) (cwV 2 hts gX2_reach_X2_li rfl rfl rfl (by decide +kernel) ⟨Nat.le_of_ble_eq_true rfl, Nat.le_of_ble_eq_true rfl⟩) (k := 55) (ci := 2) (by omega) (fun ct hA => hA.1) rfl rfl rfl hl.1 (rest := [.int 1, .int (itN (mrStep M (nI t)) j (itN (fun _ r => mrRound M (nI t) r) i 0))]) rfl (Nat.le_of_ble_eq_true rfl) ⟨Nat.le_of_ble_eq_true rfl, Nat.le_of_ble_eq_true rfl⟩ dX2_reach_75 (fun r u H locs hp h => ?_)
              obtain ⟨rfl, hu9⟩ := hp
              rw [hu9] at h
              refine lv_ishl hx hb dX2_reach_78 ?_
              refine lv_ior hx hb dX2_reach_79 ?_
              refine lv_istore_n (lv' := [(2, .int ((itN (mrStep M (nI t)) j (itN (fun _ r => mrRound M (nI t) r) i 0)) ||| (1 <<< ((mB (uh M 0) (9 * j + 1)) &&& 31)))), (4, .int (nI j)), (3, .int (nI i)), (0, .ref (za z 55)), (1, .int (nI t))]) hx hb dX2_reach_80 rfl hl (by decide) rfl (fun ls hl => ?_)
              refine lv_iinc (v := nI (j + 1)) (lv' := [(4, .int (nI (j + 1))), (2, .int ((itN (mrStep M (nI t)) j (itN (fun _ r => mrRound M (nI t) r) i 0)) ||| (1 <<< ((mB (uh M 0) (9 * j + 1)) &&& 31)))), (3, .int (nI i)), (0, .ref (za z 55)), (1, .int (nI t))]) hx hb dX2_reach_81 hl (k := 1) rfl (q_inc j 1) (by decide) rfl (fun ls hl => ?_)
              refine lv_goto (tgt := 34) hx hb dX2_reach_84 (by decide) ?_
              have e9 : itN (mrStep M (nI t)) (j + 1) (itN (fun _ r => mrRound M (nI t) r) i 0) = (itN (mrStep M (nI t)) j (itN (fun _ r => mrRound M (nI t) r) i 0)) ||| (1 <<< ((mB M (9 * j + 1)) &&& 31)) := mrStep_c c_51 c_66
              have hl : lv_has ls 5 [(4, .int (nI (j + 1))), (2, .int (itN (mrStep M (nI t)) (j + 1) (itN (fun _ r => mrRound M (nI t) r) i 0))), (3, .int (nI i)), (0, .ref (za z 55)), (1, .int (nI t))] := by rw [e9]; exact hl
              exact ihL34 (j + 1) (by omega) _ _ _ h (lv_sub hl [0, 2, 1, 3, 4] rfl)
      refine lv_iload_n hx hb dX2_reach_23 rfl (lv_at hl 0 rfl) ?_
      refine lv_aload_n hx hb dX2_reach_24 rfl (lv_at hl 2 rfl) ?_
      refine M_g C0 hK h hin2 1 (by decide) (by decide +kernel) rfl dX2_reach_25 ?_
      refine lv_icmp_gt (tgt := 93) hx hb dX2_reach_28 (by decide) (fun q9 => absurd q9 (show ¬ nI (mt_ M) < nI i from nI_nlt (by omega) (by omega))) (fun _ => ?_)
      refine lv_iconst (v := 0) hx hb dX2_reach_31 (by decide) ?_
      refine lv_istore (lv' := [(4, .int 0), (3, .int (nI i)), (2, .int (itN (fun _ r => mrRound M (nI t) r) i 0)), (0, .ref (za z 55)), (1, .int (nI t))]) hx hb dX2_reach_32 hl (by decide) rfl (fun ls hl => ?_)
      exact L34 (mp_ M) 0 (by omega) _ _ _ h (lv_sub hl [0, 1, 2, 3, 4] rfl)
  refine lv_aload_n hx hb dX2_reach_0 rfl (lv_at hl 0 rfl) ?_
  refine lv_iconst (v := 0) hx hb dX2_reach_1 (by decide) ?_
  refine N_ph C0 hK h hin2 (by decide +kernel) dX2_reach_2 (fun H locs M1 eM1 h => ?_)
  subst eM1
  refine lv_aload_n hx hb dX2_reach_5 rfl (lv_at hl 0 rfl) ?_
  refine lv_iload_n hx hb dX2_reach_6 rfl (lv_at hl 1 rfl) ?_
  refine S_callVi C0 hK h (c_X2_isTank l z (uh M 0) (nI t) hk) (cwV 1 hts gX2_reach_X2_isTank rfl rfl rfl (by decide +kernel) ⟨Nat.le_of_ble_eq_true rfl, Nat.le_of_ble_eq_true rfl⟩) (k := 55) (ci := 2) (by omega) (fun ct hA => hA.1) rfl rfl rfl hl.1 (rest := []) rfl (Nat.le_of_ble_eq_true rfl) ⟨Nat.le_of_ble_eq_true rfl, Nat.le_of_ble_eq_true rfl⟩ dX2_reach_7 (fun r u H locs hp h => ?_)
  obtain ⟨hr9, hu9⟩ := hp
  have hr9 := hr9.trans (if_pos (qin_nI (n := mt_ M) (by have := hk.1; have := hk.2.1; omega) hi))
  subst hr9
  rw [hu9] at h
  refine lv_if_ne (tgt := 19) hx hb dX2_reach_10 (by decide) (fun _ => ?_) (fun q9 => absurd q9 (by decide))
  refine lv_iconst (v := 0) hx hb dX2_reach_19 (by decide) ?_
  refine lv_istore_n (lv' := [(2, .int 0), (0, .ref (za z 55)), (1, .int (nI t))]) hx hb dX2_reach_20 rfl hl (by decide) rfl (fun ls hl => ?_)
  refine lv_iconst (v := 0) hx hb dX2_reach_21 (by decide) ?_
  refine lv_istore_n (lv' := [(3, .int 0), (2, .int 0), (0, .ref (za z 55)), (1, .int (nI t))]) hx hb dX2_reach_22 rfl hl (by decide) rfl (fun ls hl => ?_)
  exact L23 (mt_ M + 1) 0 (by omega) _ _ _ h (lv_sub hl [0, 1, 2, 3] rfl)
set_option maxHeartbeats 4000000 in
set_option maxRecDepth 100000 in
theorem c_X2_reach_no (l : Launch) (z : QZ) (M : QMs) (hk : MOk M) (x : Int32) (hno : ¬ qin x (mt_ M)) : GI l yX2_reach wsX2_reach ({ frames := 2, cells := 0, slots := 0, locals := 43 } : Room) z [.ref (za z 55), .int x] 0 0 (MAt z) 55 59 M (fun r M' => r = 0 ∧ M' = uh M 1) := by
  intro ct sz hn hq hat
  refine q_entry (lo := 55) (cc := cX2_reach) (maxL := 5) (ret := (some .int)) (by decide) rfl (Nat.le_of_ble_eq_true rfl) hn hq hat ?_
  intro p e s m below meth c ls C0 hK hsz h hl
  subst hsz
  obtain ⟨hx, hb, hr, hml, hown, hts, hlocks⟩ := id C0
  have hin2 : ∀ w ∈ u_ws RX2 TX2 6, w ∈ wsX2_reach := by decide +kernel
  have hl : lv_has ls 5 [(0, .ref (za z 55)), (1, .int x)] := hl
  refine lv_aload_n hx hb dX2_reach_0 rfl (lv_at hl 0 rfl) ?_
  refine lv_iconst (v := 0) hx hb dX2_reach_1 (by decide) ?_
  refine N_ph C0 hK h hin2 (by decide +kernel) dX2_reach_2 (fun H locs M1 eM1 h => ?_)
  subst eM1
  refine lv_aload_n hx hb dX2_reach_5 rfl (lv_at hl 0 rfl) ?_
  refine lv_iload_n hx hb dX2_reach_6 rfl (lv_at hl 1 rfl) ?_
  refine S_callVi C0 hK h (c_X2_isTank l z (uh M 0) x hk) (cwV 1 hts gX2_reach_X2_isTank rfl rfl rfl (by decide +kernel) ⟨Nat.le_of_ble_eq_true rfl, Nat.le_of_ble_eq_true rfl⟩) (k := 55) (ci := 2) (by omega) (fun ct hA => hA.1) rfl rfl rfl hl.1 (rest := []) rfl (Nat.le_of_ble_eq_true rfl) ⟨Nat.le_of_ble_eq_true rfl, Nat.le_of_ble_eq_true rfl⟩ dX2_reach_7 (fun r u H locs hp h => ?_)
  obtain ⟨hr9, hu9⟩ := hp
  have hr9 := hr9.trans (if_neg hno)
  subst hr9
  rw [hu9] at h
  refine lv_if_ne (tgt := 19) hx hb dX2_reach_10 (by decide) (fun q9 => absurd (by decide) q9) (fun _ => ?_)
  refine lv_aload_n hx hb dX2_reach_13 rfl (lv_at hl 0 rfl) ?_
  refine lv_iconst (v := 1) hx hb dX2_reach_14 (by decide) ?_
  refine S_callVi C0 hK h (c_X2_fail l z (uh M 0) 1) (cwV 1 hts gX2_reach_X2_fail rfl rfl rfl (by decide +kernel) ⟨Nat.le_of_ble_eq_true rfl, Nat.le_of_ble_eq_true rfl⟩) (k := 55) (ci := 2) (by omega) (fun ct hA => hA.1) rfl rfl rfl hl.1 (rest := []) rfl (Nat.le_of_ble_eq_true rfl) ⟨Nat.le_of_ble_eq_true rfl, Nat.le_of_ble_eq_true rfl⟩ dX2_reach_15 (fun r u H locs hp h => ?_)
  obtain ⟨rfl, hp⟩ := hp
  obtain ⟨M2, eM2⟩ : ∃ z9, z9 = uh (uh M 0) 1 := ⟨_, rfl⟩
  rw [hp, ← eM2] at h
  exact G_iret C0 hK h ⟨rfl, by subst eM2; rfl⟩ (Nat.le_of_ble_eq_true rfl) (Nat.le_of_ble_eq_true rfl) dX2_reach_18
