set_option maxHeartbeats 4000000 in
set_option maxRecDepth 100000 in
theorem c_X2_thrown (l : Launch) (z : QZ) (M : QMs) : GI l yX2_thrown wsX2_thrown ({ frames := 0, cells := 0, slots := 0, locals := 0 } : Room) z [.ref (za z 55)] 0 0 (MAt z) 55 59 M (fun r M' => r = mH M ∧ M' = M) := by
  intro ct sz hn hq hat
  refine q_entry (lo := 55) (cc := cX2_thrown) (maxL := 1) (ret := (some .int)) (by decide) rfl (Nat.le_of_ble_eq_true rfl) hn hq hat ?_
  intro p e s m below meth c ls C0 hK hsz h hl
  subst hsz
  obtain ⟨hx, hb, hr, hml, hown, hts, hlocks⟩ := id C0
  have hin2 : ∀ w ∈ u_ws RX2 TX2 6, w ∈ wsX2_thrown := by decide +kernel
  have hl : lv_has ls 1 [(0, .ref (za z 55))] := hl
  refine lv_aload_n hx hb dX2_thrown_0 rfl (lv_at hl 0 rfl) ?_
  refine M_g C0 hK h hin2 0 (by decide) (by decide +kernel) rfl dX2_thrown_1 ?_
  exact G_iret C0 hK h ⟨rfl, rfl⟩ (Nat.le_of_ble_eq_true rfl) (Nat.le_of_ble_eq_true rfl) dX2_thrown_4
set_option maxHeartbeats 4000000 in
set_option maxRecDepth 100000 in
theorem c_X2_fail (l : Launch) (z : QZ) (M : QMs) (x : Int32) : GI l yX2_fail wsX2_fail ({ frames := 0, cells := 0, slots := 0, locals := 0 } : Room) z [.ref (za z 55), .int x] 0 0 (MAt z) 55 59 M (fun r M' => r = 0 ∧ M' = uh M x) := by
  intro ct sz hn hq hat
  refine q_entry (lo := 55) (cc := cX2_fail) (maxL := 2) (ret := (some .int)) (by decide) rfl (Nat.le_of_ble_eq_true rfl) hn hq hat ?_
  intro p e s m below meth c ls C0 hK hsz h hl
  subst hsz
  obtain ⟨hx, hb, hr, hml, hown, hts, hlocks⟩ := id C0
  have hin2 : ∀ w ∈ u_ws RX2 TX2 6, w ∈ wsX2_fail := by decide +kernel
  have hl : lv_has ls 2 [(0, .ref (za z 55)), (1, .int x)] := hl
  refine lv_aload_n hx hb dX2_fail_0 rfl (lv_at hl 0 rfl) ?_
  refine lv_iload_n hx hb dX2_fail_1 rfl (lv_at hl 1 rfl) ?_
  refine N_ph C0 hK h hin2 (by decide +kernel) dX2_fail_2 (fun H locs M1 eM1 h => ?_)
  subst eM1
  refine lv_iconst (v := 0) hx hb dX2_fail_5 (by decide) ?_
  exact G_iret C0 hK h ⟨rfl, by rfl⟩ (Nat.le_of_ble_eq_true rfl) (Nat.le_of_ble_eq_true rfl) dX2_fail_6
set_option maxHeartbeats 4000000 in
set_option maxRecDepth 100000 in
theorem c_X2_isIn (l : Launch) (z : QZ) (M : QMs) (x y v : Int32) : GI l yX2_isIn wsX2_isIn ({ frames := 0, cells := 0, slots := 0, locals := 0 } : Room) z [.int x, .int y, .int v] 0 0 (MAt z) 55 59 M (fun r M' => r = (if y ≤ x ∧ x ≤ v then 1 else 0) ∧ M' = M) := by
  intro ct sz hn hq hat
  refine q_entry (lo := 55) (cc := cX2_isIn) (maxL := 3) (ret := (some .boolean)) (by decide) rfl (Nat.le_of_ble_eq_true rfl) hn hq hat ?_
  intro p e s m below meth c ls C0 hK hsz h hl
  subst hsz
  obtain ⟨hx, hb, hr, hml, hown, hts, hlocks⟩ := id C0
  have hl : lv_has ls 3 [(0, .int x), (1, .int y), (2, .int v)] := hl
  refine lv_iload_n hx hb dX2_isIn_0 rfl (lv_at hl 0 rfl) ?_
  refine lv_iload_n hx hb dX2_isIn_1 rfl (lv_at hl 1 rfl) ?_
  refine lv_icmp_lt (tgt := 14) hx hb dX2_isIn_2 (by decide) (fun c_2 => ?_) (fun c_2 => ?_)
  · refine lv_iconst (v := 0) hx hb dX2_isIn_14 (by decide) ?_
    exact G_zret C0 hK h ⟨by rw [if_neg (fun q => absurd c_2 (Int32.not_lt.mpr q.1))], rfl⟩ (by decide) (Nat.le_of_ble_eq_true rfl) (Nat.le_of_ble_eq_true rfl) dX2_isIn_15
  · refine lv_iload_n hx hb dX2_isIn_5 rfl (lv_at hl 0 rfl) ?_
    refine lv_iload_n hx hb dX2_isIn_6 rfl (lv_at hl 2 rfl) ?_
    refine lv_icmp_gt (tgt := 14) hx hb dX2_isIn_7 (by decide) (fun c_7 => ?_) (fun c_7 => ?_)
    · refine lv_iconst (v := 0) hx hb dX2_isIn_14 (by decide) ?_
      exact G_zret C0 hK h ⟨by rw [if_neg (fun q => absurd c_7 (Int32.not_lt.mpr q.2))], rfl⟩ (by decide) (Nat.le_of_ble_eq_true rfl) (Nat.le_of_ble_eq_true rfl) dX2_isIn_15
    · refine lv_iconst (v := 1) hx hb dX2_isIn_10 (by decide) ?_
      refine lv_goto (tgt := 15) hx hb dX2_isIn_11 (by decide) ?_
      exact G_zret C0 hK h ⟨by rw [if_pos ⟨Int32.not_lt.mp c_2, Int32.not_lt.mp c_7⟩], rfl⟩ (by decide) (Nat.le_of_ble_eq_true rfl) (Nat.le_of_ble_eq_true rfl) dX2_isIn_15
set_option maxHeartbeats 4000000 in
set_option maxRecDepth 100000 in
theorem c_X2_isTank (l : Launch) (z : QZ) (M : QMs) (x : Int32) (hk : MOk M) : GI l yX2_isTank wsX2_isTank ({ frames := 1, cells := 0, slots := 0, locals := 22 } : Room) z [.ref (za z 55), .int x] 0 0 (MAt z) 55 59 M (fun r M' => r = (if qin x (mt_ M) then 1 else 0) ∧ M' = M) := by
  intro ct sz hn hq hat
  refine q_entry (lo := 55) (cc := cX2_isTank) (maxL := 2) (ret := (some .boolean)) (by decide) rfl (Nat.le_of_ble_eq_true rfl) hn hq hat ?_
  intro p e s m below meth c ls C0 hK hsz h hl
  subst hsz
  obtain ⟨hx, hb, hr, hml, hown, hts, hlocks⟩ := id C0
  have hin2 : ∀ w ∈ u_ws RX2 TX2 6, w ∈ wsX2_isTank := by decide +kernel
  have hl : lv_has ls 2 [(0, .ref (za z 55)), (1, .int x)] := hl
  refine lv_iload_n hx hb dX2_isTank_0 rfl (lv_at hl 1 rfl) ?_
  refine lv_iconst (v := 0) hx hb dX2_isTank_1 (by decide) ?_
  refine lv_aload_n hx hb dX2_isTank_2 rfl (lv_at hl 0 rfl) ?_
  refine M_g C0 hK h hin2 1 (by decide) (by decide +kernel) rfl dX2_isTank_3 ?_
  refine lv_iconst (v := 1) hx hb dX2_isTank_6 (by decide) ?_
  refine lv_isub hx hb dX2_isTank_7 ?_
  refine S_callSi C0 hK h (c_X2_isIn l z M x 0 ((nI (mt_ M)) - 1)) (va_cwS 3 hts gX2_isTank_X2_isIn rfl rfl rfl (by decide +kernel) ⟨Nat.le_of_ble_eq_true rfl, Nat.le_of_ble_eq_true rfl⟩) rfl hl.1 (rest := []) rfl (Nat.le_of_ble_eq_true rfl) ⟨Nat.le_of_ble_eq_true rfl, Nat.le_of_ble_eq_true rfl⟩ dX2_isTank_8 (fun r u H locs hp h => ?_)
  obtain ⟨hr9, hu9⟩ := hp
  rw [hu9] at h
  exact G_zret C0 hK h ⟨hr9.trans (q_isin (by have := hk.1; have := hk.2.1; omega)), rfl⟩ (by rw [hr9]; split <;> simp) (Nat.le_of_ble_eq_true rfl) (Nat.le_of_ble_eq_true rfl) dX2_isTank_11
set_option maxHeartbeats 4000000 in
set_option maxRecDepth 100000 in
theorem c_X2_isPipe (l : Launch) (z : QZ) (M : QMs) (x : Int32) (hk : MOk M) : GI l yX2_isPipe wsX2_isPipe ({ frames := 1, cells := 0, slots := 0, locals := 22 } : Room) z [.ref (za z 55), .int x] 0 0 (MAt z) 55 59 M (fun r M' => r = (if qin x (mp_ M) then 1 else 0) ∧ M' = M) := by
  intro ct sz hn hq hat
  refine q_entry (lo := 55) (cc := cX2_isPipe) (maxL := 2) (ret := (some .boolean)) (by decide) rfl (Nat.le_of_ble_eq_true rfl) hn hq hat ?_
  intro p e s m below meth c ls C0 hK hsz h hl
  subst hsz
  obtain ⟨hx, hb, hr, hml, hown, hts, hlocks⟩ := id C0
  have hin2 : ∀ w ∈ u_ws RX2 TX2 6, w ∈ wsX2_isPipe := by decide +kernel
  have hl : lv_has ls 2 [(0, .ref (za z 55)), (1, .int x)] := hl
  refine lv_iload_n hx hb dX2_isPipe_0 rfl (lv_at hl 1 rfl) ?_
  refine lv_iconst (v := 0) hx hb dX2_isPipe_1 (by decide) ?_
  refine lv_aload_n hx hb dX2_isPipe_2 rfl (lv_at hl 0 rfl) ?_
  refine M_g C0 hK h hin2 2 (by decide) (by decide +kernel) rfl dX2_isPipe_3 ?_
  refine lv_iconst (v := 1) hx hb dX2_isPipe_6 (by decide) ?_
  refine lv_isub hx hb dX2_isPipe_7 ?_
  refine S_callSi C0 hK h (c_X2_isIn l z M x 0 ((nI (mp_ M)) - 1)) (va_cwS 3 hts gX2_isPipe_X2_isIn rfl rfl rfl (by decide +kernel) ⟨Nat.le_of_ble_eq_true rfl, Nat.le_of_ble_eq_true rfl⟩) rfl hl.1 (rest := []) rfl (Nat.le_of_ble_eq_true rfl) ⟨Nat.le_of_ble_eq_true rfl, Nat.le_of_ble_eq_true rfl⟩ dX2_isPipe_8 (fun r u H locs hp h => ?_)
  obtain ⟨hr9, hu9⟩ := hp
  rw [hu9] at h
  exact G_zret C0 hK h ⟨hr9.trans (q_isin (by have := hk.1; have := hk.2.1; omega)), rfl⟩ (by rw [hr9]; split <;> simp) (Nat.le_of_ble_eq_true rfl) (Nat.le_of_ble_eq_true rfl) dX2_isPipe_11
set_option maxHeartbeats 4000000 in
set_option maxRecDepth 100000 in
theorem c_X2_la (l : Launch) (z : QZ) (M : QMs) (i : Nat) (hi : i < 10) (k : Nat) (hk : k < 8) : GI l yX2_la wsX2_la ({ frames := 0, cells := 0, slots := 0, locals := 0 } : Room) z [.ref (za z 55), .int (nI i), .int (nI k)] 0 0 (MAt z) 55 59 M (fun r M' => r = mA M (8 * i + k) ∧ M' = M) := by
  intro ct sz hn hq hat
  refine q_entry (lo := 55) (cc := cX2_la) (maxL := 3) (ret := (some .int)) (by decide) rfl (Nat.le_of_ble_eq_true rfl) hn hq hat ?_
  intro p e s m below meth c ls C0 hK hsz h hl
  subst hsz
  obtain ⟨hx, hb, hr, hml, hown, hts, hlocks⟩ := id C0
  have hin2 : ∀ w ∈ u_ws RX2 TX2 6, w ∈ wsX2_la := by decide +kernel
  have hl : lv_has ls 3 [(0, .ref (za z 55)), (1, .int (nI i)), (2, .int (nI k))] := hl
  refine lv_aload_n hx hb dX2_la_0 rfl (lv_at hl 0 rfl) ?_
  refine M_g C0 hK h hin2 3 (by decide) (by decide +kernel) rfl dX2_la_1 ?_
  refine lv_bipush (v := 8) hx hb dX2_la_4 (by decide) ?_
  refine lv_iload_n hx hb dX2_la_6 rfl (lv_at hl 1 rfl) ?_
  refine lv_imul hx hb dX2_la_7 ?_
  refine lv_iload_n hx hb dX2_la_8 rfl (lv_at hl 2 rfl) ?_
  refine lv_iadd hx hb dX2_la_9 ?_
  refine M_ldA C0 hK h (k := (8 * i) + k) (q_add (q_mul rfl rfl) rfl) (by omega) dX2_la_10 ?_
  exact G_iret C0 hK h ⟨rfl, rfl⟩ (Nat.le_of_ble_eq_true rfl) (Nat.le_of_ble_eq_true rfl) dX2_la_11
set_option maxHeartbeats 4000000 in
set_option maxRecDepth 100000 in
theorem c_X2_li (l : Launch) (z : QZ) (M : QMs) (i : Nat) (hi : i < 14) (k : Nat) (hk : k < 9) : GI l yX2_li wsX2_li ({ frames := 0, cells := 0, slots := 0, locals := 0 } : Room) z [.ref (za z 55), .int (nI i), .int (nI k)] 0 0 (MAt z) 55 59 M (fun r M' => r = mB M (9 * i + k) ∧ M' = M) := by
  intro ct sz hn hq hat
  refine q_entry (lo := 55) (cc := cX2_li) (maxL := 3) (ret := (some .int)) (by decide) rfl (Nat.le_of_ble_eq_true rfl) hn hq hat ?_
  intro p e s m below meth c ls C0 hK hsz h hl
  subst hsz
  obtain ⟨hx, hb, hr, hml, hown, hts, hlocks⟩ := id C0
  have hin2 : ∀ w ∈ u_ws RX2 TX2 6, w ∈ wsX2_li := by decide +kernel
  have hl : lv_has ls 3 [(0, .ref (za z 55)), (1, .int (nI i)), (2, .int (nI k))] := hl
  refine lv_aload_n hx hb dX2_li_0 rfl (lv_at hl 0 rfl) ?_
  refine M_g C0 hK h hin2 4 (by decide) (by decide +kernel) rfl dX2_li_1 ?_
  refine lv_bipush (v := 9) hx hb dX2_li_4 (by decide) ?_
  refine lv_iload_n hx hb dX2_li_6 rfl (lv_at hl 1 rfl) ?_
  refine lv_imul hx hb dX2_li_7 ?_
  refine lv_iload_n hx hb dX2_li_8 rfl (lv_at hl 2 rfl) ?_
  refine lv_iadd hx hb dX2_li_9 ?_
  refine M_ldB C0 hK h (k := (9 * i) + k) (q_add (q_mul rfl rfl) rfl) (by omega) dX2_li_10 ?_
  exact G_iret C0 hK h ⟨rfl, rfl⟩ (Nat.le_of_ble_eq_true rfl) (Nat.le_of_ble_eq_true rfl) dX2_li_11
set_option maxHeartbeats 4000000 in
set_option maxRecDepth 100000 in
theorem c_X2_setTank (l : Launch) (z : QZ) (M : QMs) (i : Nat) (hi : i < 10) (k : Nat) (hk : k < 8) (x : Int32) : GV l yX2_setTank wsX2_setTank ({ frames := 0, cells := 0, slots := 0, locals := 0 } : Room) z [.ref (za z 55), .int (nI i), .int (nI k), .int x] 0 0 (MAt z) 55 59 M (fun M' => M' = mSetT M i k x) := by
  intro ct sz hn hq hat
  refine q_entry (lo := 55) (cc := cX2_setTank) (maxL := 4) (ret := none) (by decide) rfl (Nat.le_of_ble_eq_true rfl) hn hq hat ?_
  intro p e s m below meth c ls C0 hK hsz h hl
  subst hsz
  obtain ⟨hx, hb, hr, hml, hown, hts, hlocks⟩ := id C0
  have hin2 : ∀ w ∈ u_ws RX2 TX2 6, w ∈ wsX2_setTank := by decide +kernel
  have hl : lv_has ls 4 [(0, .ref (za z 55)), (1, .int (nI i)), (2, .int (nI k)), (3, .int x)] := hl
  refine lv_aload_n hx hb dX2_setTank_0 rfl (lv_at hl 0 rfl) ?_
  refine M_g C0 hK h hin2 3 (by decide) (by decide +kernel) rfl dX2_setTank_1 ?_
  refine lv_bipush (v := 8) hx hb dX2_setTank_4 (by decide) ?_
  refine lv_iload_n hx hb dX2_setTank_6 rfl (lv_at hl 1 rfl) ?_
  refine lv_imul hx hb dX2_setTank_7 ?_
  refine lv_iload_n hx hb dX2_setTank_8 rfl (lv_at hl 2 rfl) ?_
  refine lv_iadd hx hb dX2_setTank_9 ?_
  refine lv_iload_n hx hb dX2_setTank_10 rfl (lv_at hl 3 rfl) ?_
  refine N_stA C0 hK h (k := (8 * i) + k) (q_add (q_mul rfl rfl) rfl) (by omega) dX2_setTank_11 (fun H locs M1 eM1 h => ?_)
  exact G_vret C0 hK h (by subst eM1; rfl) (Nat.le_of_ble_eq_true rfl) (Nat.le_of_ble_eq_true rfl) dX2_setTank_12
set_option maxHeartbeats 4000000 in
set_option maxRecDepth 100000 in
theorem c_X2_setPipe (l : Launch) (z : QZ) (M : QMs) (i : Nat) (hi : i < 14) (k : Nat) (hk : k < 9) (x : Int32) : GV l yX2_setPipe wsX2_setPipe ({ frames := 0, cells := 0, slots := 0, locals := 0 } : Room) z [.ref (za z 55), .int (nI i), .int (nI k), .int x] 0 0 (MAt z) 55 59 M (fun M' => M' = mSetP M i k x) := by
  intro ct sz hn hq hat
  refine q_entry (lo := 55) (cc := cX2_setPipe) (maxL := 4) (ret := none) (by decide) rfl (Nat.le_of_ble_eq_true rfl) hn hq hat ?_
  intro p e s m below meth c ls C0 hK hsz h hl
  subst hsz
  obtain ⟨hx, hb, hr, hml, hown, hts, hlocks⟩ := id C0
  have hin2 : ∀ w ∈ u_ws RX2 TX2 6, w ∈ wsX2_setPipe := by decide +kernel
  have hl : lv_has ls 4 [(0, .ref (za z 55)), (1, .int (nI i)), (2, .int (nI k)), (3, .int x)] := hl
  refine lv_aload_n hx hb dX2_setPipe_0 rfl (lv_at hl 0 rfl) ?_
  refine M_g C0 hK h hin2 4 (by decide) (by decide +kernel) rfl dX2_setPipe_1 ?_
  refine lv_bipush (v := 9) hx hb dX2_setPipe_4 (by decide) ?_
  refine lv_iload_n hx hb dX2_setPipe_6 rfl (lv_at hl 1 rfl) ?_
  refine lv_imul hx hb dX2_setPipe_7 ?_
  refine lv_iload_n hx hb dX2_setPipe_8 rfl (lv_at hl 2 rfl) ?_
  refine lv_iadd hx hb dX2_setPipe_9 ?_
  refine lv_iload_n hx hb dX2_setPipe_10 rfl (lv_at hl 3 rfl) ?_
  refine N_stB C0 hK h (k := (9 * i) + k) (q_add (q_mul rfl rfl) rfl) (by omega) dX2_setPipe_11 (fun H locs M1 eM1 h => ?_)
  exact G_vret C0 hK h (by subst eM1; rfl) (Nat.le_of_ble_eq_true rfl) (Nat.le_of_ble_eq_true rfl) dX2_setPipe_12
set_option maxHeartbeats 4000000 in
set_option maxRecDepth 100000 in
theorem c_X2_head (l : Launch) (z : QZ) (M : QMs) (i : Nat) (hi : i < 10) : GI l yX2_head wsX2_head ({ frames := 1, cells := 0, slots := 0, locals := 22 } : Room) z [.ref (za z 55), .int (nI i)] 0 0 (MAt z) 55 59 M (fun r M' => r = mhead M i ∧ M' = M) := by
  intro ct sz hn hq hat
  refine q_entry (lo := 55) (cc := cX2_head) (maxL := 2) (ret := (some .int)) (by decide) rfl (Nat.le_of_ble_eq_true rfl) hn hq hat ?_
  intro p e s m below meth c ls C0 hK hsz h hl
  subst hsz
  obtain ⟨hx, hb, hr, hml, hown, hts, hlocks⟩ := id C0
  have hl : lv_has ls 2 [(0, .ref (za z 55)), (1, .int (nI i))] := hl
  refine lv_bipush (v := 10) hx hb dX2_head_0 (by decide) ?_
  refine lv_aload_n hx hb dX2_head_2 rfl (lv_at hl 0 rfl) ?_
  refine lv_iload_n hx hb dX2_head_3 rfl (lv_at hl 1 rfl) ?_
  refine lv_iconst (v := 0) hx hb dX2_head_4 (by decide) ?_
  refine S_callVi C0 hK h (c_X2_la l z M i (by omega) 0 (by omega)) (cwV 2 hts gX2_head_X2_la rfl rfl rfl (by decide +kernel) ⟨Nat.le_of_ble_eq_true rfl, Nat.le_of_ble_eq_true rfl⟩) (k := 55) (ci := 2) (by omega) (fun ct hA => hA.1) rfl rfl rfl hl.1 (rest := [.int 10]) rfl (Nat.le_of_ble_eq_true rfl) ⟨Nat.le_of_ble_eq_true rfl, Nat.le_of_ble_eq_true rfl⟩ dX2_head_5 (fun r u H locs hp h => ?_)
  obtain ⟨rfl, hu9⟩ := hp
  rw [hu9] at h
  refine lv_imul hx hb dX2_head_8 ?_
  refine lv_aload_n hx hb dX2_head_9 rfl (lv_at hl 0 rfl) ?_
  refine lv_iload_n hx hb dX2_head_10 rfl (lv_at hl 1 rfl) ?_
  refine lv_iconst (v := 3) hx hb dX2_head_11 (by decide) ?_
  refine S_callVi C0 hK h (c_X2_la l z M i (by omega) 3 (by omega)) (cwV 2 hts gX2_head_X2_la rfl rfl rfl (by decide +kernel) ⟨Nat.le_of_ble_eq_true rfl, Nat.le_of_ble_eq_true rfl⟩) (k := 55) (ci := 2) (by omega) (fun ct hA => hA.1) rfl rfl rfl hl.1 (rest := [.int (10 * (mA M (8 * i + 0)))]) rfl (Nat.le_of_ble_eq_true rfl) ⟨Nat.le_of_ble_eq_true rfl, Nat.le_of_ble_eq_true rfl⟩ dX2_head_12 (fun r u H locs hp h => ?_)
  obtain ⟨rfl, hu9⟩ := hp
  rw [hu9] at h
  refine lv_iadd hx hb dX2_head_15 ?_
  exact G_iret C0 hK h ⟨rfl, rfl⟩ (Nat.le_of_ble_eq_true rfl) (Nat.le_of_ble_eq_true rfl) dX2_head_16
set_option maxHeartbeats 4000000 in
set_option maxRecDepth 100000 in
theorem c_X2_flows (l : Launch) (z : QZ) (M : QMs) (hk : MOk M) (k : Nat) (hkp : k < mp_ M) : GI l yX2_flows wsX2_flows ({ frames := 2, cells := 0, slots := 0, locals := 43 } : Room) z [.ref (za z 55), .int (nI k)] 0 0 (MAt z) 55 59 M (fun r M' => r = mflows M k ∧ M' = M) := by
  intro ct sz hn hq hat
  refine q_entry (lo := 55) (cc := cX2_flows) (maxL := 3) (ret := (some .int)) (by decide) rfl (Nat.le_of_ble_eq_true rfl) hn hq hat ?_
  intro p e s m below meth c ls C0 hK hsz h hl
  subst hsz
  obtain ⟨hx, hb, hr, hml, hown, hts, hlocks⟩ := id C0
  have hl : lv_has ls 3 [(0, .ref (za z 55)), (1, .int (nI k))] := hl
  have hk1 := hk.1
  have hk2 := hk.2.1
  obtain ⟨hk3, hk4, hk5, hF0, hF1⟩ := hk.2.2 k hkp
  have hk6 : k < 14 := by omega
  have hk7 : mf M k < 10 := by omega
  have hk8 : mo M k < 10 := by omega
  refine lv_aload_n hx hb dX2_flows_0 rfl (lv_at hl 0 rfl) ?_
  refine lv_aload_n hx hb dX2_flows_1 rfl (lv_at hl 0 rfl) ?_
  refine lv_iload_n hx hb dX2_flows_2 rfl (lv_at hl 1 rfl) ?_
  refine lv_iconst (v := 0) hx hb dX2_flows_3 (by decide) ?_
  refine S_callVi C0 hK h (c_X2_li l z M k (by omega) 0 (by omega)) (cwV 2 hts gX2_flows_X2_li rfl rfl rfl (by decide +kernel) ⟨Nat.le_of_ble_eq_true rfl, Nat.le_of_ble_eq_true rfl⟩) (k := 55) (ci := 2) (by omega) (fun ct hA => hA.1) rfl rfl rfl hl.1 (rest := [.ref (za z 55)]) rfl (Nat.le_of_ble_eq_true rfl) ⟨Nat.le_of_ble_eq_true rfl, Nat.le_of_ble_eq_true rfl⟩ dX2_flows_4 (fun r u H locs hp h => ?_)
  obtain ⟨rfl, hu9⟩ := hp
  rw [hu9] at h
  refine S_callVi C0 hK h (c_X2_head l z M (mf M k) (by omega)) (cwV 1 hts gX2_flows_X2_head rfl rfl rfl (by decide +kernel) ⟨Nat.le_of_ble_eq_true rfl, Nat.le_of_ble_eq_true rfl⟩) (k := 55) (ci := 2) (by omega) (fun ct hA => hA.1) rfl rfl rfl hl.1 (rest := []) (by rw [hF0]; rfl) (Nat.le_of_ble_eq_true rfl) ⟨Nat.le_of_ble_eq_true rfl, Nat.le_of_ble_eq_true rfl⟩ dX2_flows_7 (fun r u H locs hp h => ?_)
  obtain ⟨rfl, hu9⟩ := hp
  rw [hu9] at h
  refine lv_aload_n hx hb dX2_flows_10 rfl (lv_at hl 0 rfl) ?_
  refine lv_aload_n hx hb dX2_flows_11 rfl (lv_at hl 0 rfl) ?_
  refine lv_iload_n hx hb dX2_flows_12 rfl (lv_at hl 1 rfl) ?_
  refine lv_iconst (v := 1) hx hb dX2_flows_13 (by decide) ?_
  refine S_callVi C0 hK h (c_X2_li l z M k (by omega) 1 (by omega)) (cwV 2 hts gX2_flows_X2_li rfl rfl rfl (by decide +kernel) ⟨Nat.le_of_ble_eq_true rfl, Nat.le_of_ble_eq_true rfl⟩) (k := 55) (ci := 2) (by omega) (fun ct hA => hA.1) rfl rfl rfl hl.1 (rest := [.ref (za z 55), .int (mhead M (mf M k))]) rfl (Nat.le_of_ble_eq_true rfl) ⟨Nat.le_of_ble_eq_true rfl, Nat.le_of_ble_eq_true rfl⟩ dX2_flows_14 (fun r u H locs hp h => ?_)
  obtain ⟨rfl, hu9⟩ := hp
  rw [hu9] at h
  refine S_callVi C0 hK h (c_X2_head l z M (mo M k) (by omega)) (cwV 1 hts gX2_flows_X2_head rfl rfl rfl (by decide +kernel) ⟨Nat.le_of_ble_eq_true rfl, Nat.le_of_ble_eq_true rfl⟩) (k := 55) (ci := 2) (by omega) (fun ct hA => hA.1) rfl rfl rfl hl.1 (rest := [.int (mhead M (mf M k))]) (by rw [hF1]; rfl) (Nat.le_of_ble_eq_true rfl) ⟨Nat.le_of_ble_eq_true rfl, Nat.le_of_ble_eq_true rfl⟩ dX2_flows_17 (fun r u H locs hp h => ?_)
  obtain ⟨rfl, hu9⟩ := hp
  rw [hu9] at h
  refine lv_isub hx hb dX2_flows_20 ?_
  refine lv_istore_n (lv' := [(2, .int ((mhead M (mf M k)) - (mhead M (mo M k)))), (0, .ref (za z 55)), (1, .int (nI k))]) hx hb dX2_flows_21 rfl hl (by decide) rfl (fun ls hl => ?_)
  refine lv_iload_n hx hb dX2_flows_22 rfl (lv_at hl 0 rfl) ?_
  refine lv_if_le (tgt := 36) hx hb dX2_flows_23 (by decide) (fun c_23 => ?_) (fun c_23 => ?_)
  · refine lv_iconst (v := 0) hx hb dX2_flows_36 (by decide) ?_
    exact G_iret C0 hK h ⟨by simp only [mflows]; rw [if_pos c_23], rfl⟩ (Nat.le_of_ble_eq_true rfl) (Nat.le_of_ble_eq_true rfl) dX2_flows_37
  · refine lv_iload_n hx hb dX2_flows_26 rfl (lv_at hl 0 rfl) ?_
    refine lv_aload_n hx hb dX2_flows_27 rfl (lv_at hl 1 rfl) ?_
    refine lv_iload_n hx hb dX2_flows_28 rfl (lv_at hl 2 rfl) ?_
    refine lv_iconst (v := 3) hx hb dX2_flows_29 (by decide) ?_
    refine S_callVi C0 hK h (c_X2_li l z M k (by omega) 3 (by omega)) (cwV 2 hts gX2_flows_X2_li rfl rfl rfl (by decide +kernel) ⟨Nat.le_of_ble_eq_true rfl, Nat.le_of_ble_eq_true rfl⟩) (k := 55) (ci := 2) (by omega) (fun ct hA => hA.1) rfl rfl rfl hl.1 (rest := [.int ((mhead M (mf M k)) - (mhead M (mo M k)))]) rfl (Nat.le_of_ble_eq_true rfl) ⟨Nat.le_of_ble_eq_true rfl, Nat.le_of_ble_eq_true rfl⟩ dX2_flows_30 (fun r u H locs hp h => ?_)
    obtain ⟨rfl, hu9⟩ := hp
    rw [hu9] at h
    refine lv_icmp_ge (tgt := 38) hx hb dX2_flows_33 (by decide) (fun c_33 => ?_) (fun c_33 => ?_)
    · refine lv_aload_n hx hb dX2_flows_38 rfl (lv_at hl 1 rfl) ?_
      refine lv_aload_n hx hb dX2_flows_39 rfl (lv_at hl 1 rfl) ?_
      refine lv_iload_n hx hb dX2_flows_40 rfl (lv_at hl 2 rfl) ?_
      refine lv_iconst (v := 0) hx hb dX2_flows_41 (by decide) ?_
      refine S_callVi C0 hK h (c_X2_li l z M k (by omega) 0 (by omega)) (cwV 2 hts gX2_flows_X2_li rfl rfl rfl (by decide +kernel) ⟨Nat.le_of_ble_eq_true rfl, Nat.le_of_ble_eq_true rfl⟩) (k := 55) (ci := 2) (by omega) (fun ct hA => hA.1) rfl rfl rfl hl.1 (rest := [.ref (za z 55)]) rfl (Nat.le_of_ble_eq_true rfl) ⟨Nat.le_of_ble_eq_true rfl, Nat.le_of_ble_eq_true rfl⟩ dX2_flows_42 (fun r u H locs hp h => ?_)
      obtain ⟨rfl, hu9⟩ := hp
      rw [hu9] at h
      refine lv_iconst (v := 3) hx hb dX2_flows_45 (by decide) ?_
      refine S_callVi C0 hK h (c_X2_la l z M (mf M k) (by omega) 3 (by omega)) (cwV 2 hts gX2_flows_X2_la rfl rfl rfl (by decide +kernel) ⟨Nat.le_of_ble_eq_true rfl, Nat.le_of_ble_eq_true rfl⟩) (k := 55) (ci := 2) (by omega) (fun ct hA => hA.1) rfl rfl rfl hl.1 (rest := []) (by rw [hF0]; rfl) (Nat.le_of_ble_eq_true rfl) ⟨Nat.le_of_ble_eq_true rfl, Nat.le_of_ble_eq_true rfl⟩ dX2_flows_46 (fun r u H locs hp h => ?_)
      obtain ⟨rfl, hu9⟩ := hp
      rw [hu9] at h
      refine lv_iload_n hx hb dX2_flows_49 rfl (lv_at hl 0 rfl) ?_
      refine lv_bipush (v := 10) hx hb dX2_flows_50 (by decide) ?_
      refine lv_idiv hx hb dX2_flows_52 (by decide) ?_
      refine lv_iconst (v := 1) hx hb dX2_flows_53 (by decide) ?_
      refine lv_iadd hx hb dX2_flows_54 ?_
      refine lv_iconst (v := 0) hx hb dX2_flows_55 (by decide) ?_
      refine lv_aload_n hx hb dX2_flows_56 rfl (lv_at hl 1 rfl) ?_
      refine lv_iload_n hx hb dX2_flows_57 rfl (lv_at hl 2 rfl) ?_
      refine lv_iconst (v := 2) hx hb dX2_flows_58 (by decide) ?_
      refine S_callVi C0 hK h (c_X2_li l z M k (by omega) 2 (by omega)) (cwV 2 hts gX2_flows_X2_li rfl rfl rfl (by decide +kernel) ⟨Nat.le_of_ble_eq_true rfl, Nat.le_of_ble_eq_true rfl⟩) (k := 55) (ci := 2) (by omega) (fun ct hA => hA.1) rfl rfl rfl hl.1 (rest := [.int 0, .int ((((mhead M (mf M k)) - (mhead M (mo M k))) / 10) + 1), .int (mA M (8 * (mf M k) + 3))]) rfl (Nat.le_of_ble_eq_true rfl) ⟨Nat.le_of_ble_eq_true rfl, Nat.le_of_ble_eq_true rfl⟩ dX2_flows_59 (fun r u H locs hp h => ?_)
      obtain ⟨rfl, hu9⟩ := hp
      rw [hu9] at h
      refine lv_aload_n hx hb dX2_flows_62 rfl (lv_at hl 1 rfl) ?_
      refine lv_iload_n hx hb dX2_flows_63 rfl (lv_at hl 2 rfl) ?_
      refine lv_iconst (v := 4) hx hb dX2_flows_64 (by decide) ?_
      refine S_callVi C0 hK h (c_X2_li l z M k (by omega) 4 (by omega)) (cwV 2 hts gX2_flows_X2_li rfl rfl rfl (by decide +kernel) ⟨Nat.le_of_ble_eq_true rfl, Nat.le_of_ble_eq_true rfl⟩) (k := 55) (ci := 2) (by omega) (fun ct hA => hA.1) rfl rfl rfl hl.1 (rest := [.int (mB M (9 * k + 2)), .int 0, .int ((((mhead M (mf M k)) - (mhead M (mo M k))) / 10) + 1), .int (mA M (8 * (mf M k) + 3))]) rfl (Nat.le_of_ble_eq_true rfl) ⟨Nat.le_of_ble_eq_true rfl, Nat.le_of_ble_eq_true rfl⟩ dX2_flows_65 (fun r u H locs hp h => ?_)
      obtain ⟨rfl, hu9⟩ := hp
      rw [hu9] at h
      refine lv_isub hx hb dX2_flows_68 ?_
      refine G_mmax C0 hl.1 (by decide +kernel) (by decide +kernel) (by decide +kernel) (by decide +kernel) ⟨Nat.le_of_ble_eq_true rfl, Nat.le_of_ble_eq_true rfl, Nat.le_of_ble_eq_true rfl, Nat.le_of_ble_eq_true rfl⟩ dX2_flows_69 ?_
      refine G_mmin C0 hl.1 (by decide +kernel) (by decide +kernel) (by decide +kernel) (by decide +kernel) ⟨Nat.le_of_ble_eq_true rfl, Nat.le_of_ble_eq_true rfl, Nat.le_of_ble_eq_true rfl, Nat.le_of_ble_eq_true rfl⟩ dX2_flows_72 ?_
      refine G_mmin C0 hl.1 (by decide +kernel) (by decide +kernel) (by decide +kernel) (by decide +kernel) ⟨Nat.le_of_ble_eq_true rfl, Nat.le_of_ble_eq_true rfl, Nat.le_of_ble_eq_true rfl, Nat.le_of_ble_eq_true rfl⟩ dX2_flows_75 ?_
      exact G_iret C0 hK h ⟨by simp only [mflows]; rw [if_neg c_23, if_pos c_33], rfl⟩ (Nat.le_of_ble_eq_true rfl) (Nat.le_of_ble_eq_true rfl) dX2_flows_78
    · refine lv_iconst (v := 0) hx hb dX2_flows_36 (by decide) ?_
      exact G_iret C0 hK h ⟨by simp only [mflows]; rw [if_neg c_23, if_neg c_33], rfl⟩ (Nat.le_of_ble_eq_true rfl) (Nat.le_of_ble_eq_true rfl) dX2_flows_37
set_option maxHeartbeats 4000000 in
set_option maxRecDepth 100000 in
theorem c_X2_pipeTold (l : Launch) (z : QZ) (M : QMs) (hk : MOk M) (k : Nat) (hkp : k < mp_ M) (n : Nat) (hn9 : n < 9) : GI l yX2_pipeTold wsX2_pipeTold ({ frames := 3, cells := 0, slots := 0, locals := 65 } : Room) z [.ref (za z 55), .int (nI k), .int (nI n)] 0 0 (MAt z) 55 59 M (fun r M' => r = mtold M k n ∧ M' = M) := by
  intro ct sz hn hq hat
  refine q_entry (lo := 55) (cc := cX2_pipeTold) (maxL := 3) (ret := (some .int)) (by decide) rfl (Nat.le_of_ble_eq_true rfl) hn hq hat ?_
  intro p e s m below meth c ls C0 hK hsz h hl
  subst hsz
  obtain ⟨hx, hb, hr, hml, hown, hts, hlocks⟩ := id C0
  have hl : lv_has ls 3 [(0, .ref (za z 55)), (1, .int (nI k)), (2, .int (nI n))] := hl
  have hk2 := hk.2.1
  have hk6 : k < 14 := by omega
  refine lv_iload_n hx hb dX2_pipeTold_0 rfl (lv_at hl 2 rfl) ?_
  refine lv_bipush (v := 8) hx hb dX2_pipeTold_1 (by decide) ?_
  refine lv_icmp_ne (tgt := 14) hx hb dX2_pipeTold_3 (by decide) (fun c_3 => ?_) (fun c_3 => ?_)
  · refine lv_aload_n hx hb dX2_pipeTold_14 rfl (lv_at hl 0 rfl) ?_
    refine lv_iload_n hx hb dX2_pipeTold_15 rfl (lv_at hl 1 rfl) ?_
    refine lv_iload_n hx hb dX2_pipeTold_16 rfl (lv_at hl 2 rfl) ?_
    refine S_callVi C0 hK h (c_X2_li l z M k (by omega) n (by omega)) (cwV 2 hts gX2_pipeTold_X2_li rfl rfl rfl (by decide +kernel) ⟨Nat.le_of_ble_eq_true rfl, Nat.le_of_ble_eq_true rfl⟩) (k := 55) (ci := 2) (by omega) (fun ct hA => hA.1) rfl rfl rfl hl.1 (rest := []) rfl (Nat.le_of_ble_eq_true rfl) ⟨Nat.le_of_ble_eq_true rfl, Nat.le_of_ble_eq_true rfl⟩ dX2_pipeTold_17 (fun r u H locs hp h => ?_)
    obtain ⟨rfl, hu9⟩ := hp
    rw [hu9] at h
    exact G_iret C0 hK h ⟨by unfold mtold; rw [if_neg (fun q => c_3 (by rw [q]; rfl))], rfl⟩ (Nat.le_of_ble_eq_true rfl) (Nat.le_of_ble_eq_true rfl) dX2_pipeTold_20
  · refine lv_aload_n hx hb dX2_pipeTold_6 rfl (lv_at hl 0 rfl) ?_
    refine lv_iload_n hx hb dX2_pipeTold_7 rfl (lv_at hl 1 rfl) ?_
    refine S_callVi C0 hK h (c_X2_flows l z M hk k hkp) (cwV 1 hts gX2_pipeTold_X2_flows rfl rfl rfl (by decide +kernel) ⟨Nat.le_of_ble_eq_true rfl, Nat.le_of_ble_eq_true rfl⟩) (k := 55) (ci := 2) (by omega) (fun ct hA => hA.1) rfl rfl rfl hl.1 (rest := []) rfl (Nat.le_of_ble_eq_true rfl) ⟨Nat.le_of_ble_eq_true rfl, Nat.le_of_ble_eq_true rfl⟩ dX2_pipeTold_8 (fun r u H locs hp h => ?_)
    obtain ⟨rfl, hu9⟩ := hp
    rw [hu9] at h
    refine lv_goto (tgt := 20) hx hb dX2_pipeTold_11 (by decide) ?_
    exact G_iret C0 hK h ⟨by unfold mtold; rw [if_pos ((nI_eq (a := n) (b := 8) (by omega) (by decide)).mp c_3)], rfl⟩ (Nat.le_of_ble_eq_true rfl) (Nat.le_of_ble_eq_true rfl) dX2_pipeTold_20
set_option maxHeartbeats 4000000 in
set_option maxRecDepth 100000 in
theorem c_X2_all (l : Launch) (z : QZ) (M : QMs) (hk : MOk M) (k : Nat) (hk9 : k < 8) : GI l yX2_all wsX2_all ({ frames := 1, cells := 0, slots := 0, locals := 22 } : Room) z [.ref (za z 55), .int (nI k)] 0 0 (MAt z) 55 59 M (fun r M' => r = mall M k ∧ M' = M) := by
  intro ct sz hn hq hat
  refine q_entry (lo := 55) (cc := cX2_all) (maxL := 4) (ret := (some .int)) (by decide) rfl (Nat.le_of_ble_eq_true rfl) hn hq hat ?_
  intro p e s m below meth c ls C0 hK hsz h hl
  subst hsz
  obtain ⟨hx, hb, hr, hml, hown, hts, hlocks⟩ := id C0
  have hin2 : ∀ w ∈ u_ws RX2 TX2 6, w ∈ wsX2_all := by decide +kernel
  have hl : lv_has ls 4 [(0, .ref (za z 55)), (1, .int (nI k))] := hl
  have hk1 := hk.1
  have hk2 := hk.2.1
  have L4 : ∀ (d i : Nat), i + d = mt_ M → ∀ (H : Heap) (locs : List Loc) (ls : Array Slot), GW z (MAt z) 55 59 s.heap ct M H locs → lv_has ls 4 [(3, .int (nI i)), (2, .int (qsum (fun j => mA M (8 * j + k)) i)), (0, .ref (za z 55)), (1, .int (nI k))] → W p l e ({ frames := 1, cells := 0, slots := 0, locals := 22 } : Room) s m [.ref (za z 55), .int (nI k)].toArray below meth c H locs 0 0 (EI z (MAt z) 55 59 ct s below [.ref (za z 55), .int (nI k)] 0 0 (fun r M' => r = mall M k ∧ M' = M)) (F0 m 4 ls []) := by
    intro  d
    induction d with
    | zero =>
      intro i hdi H locs ls h hl
      have hEi : i = mt_ M := by omega
      refine lv_iload_n hx hb dX2_all_4 rfl (lv_at hl 0 rfl) ?_
      refine lv_aload_n hx hb dX2_all_5 rfl (lv_at hl 2 rfl) ?_
      refine M_g C0 hK h hin2 1 (by decide) (by decide +kernel) rfl dX2_all_6 ?_
      refine lv_icmp_ge (tgt := 27) hx hb dX2_all_9 (by decide) (fun _ => ?_) (fun q9 => absurd (nI_le (by omega) (by omega)) q9)
      refine lv_iload_n hx hb dX2_all_27 rfl (lv_at hl 1 rfl) ?_
      exact G_iret C0 hK h ⟨by rw [hEi]; rfl, rfl⟩ (Nat.le_of_ble_eq_true rfl) (Nat.le_of_ble_eq_true rfl) dX2_all_28
    | succ d ihL4 =>
      intro i hdi H locs ls h hl
      have hEi : i < mt_ M := by omega
      refine lv_iload_n hx hb dX2_all_4 rfl (lv_at hl 0 rfl) ?_
      refine lv_aload_n hx hb dX2_all_5 rfl (lv_at hl 2 rfl) ?_
      refine M_g C0 hK h hin2 1 (by decide) (by decide +kernel) rfl dX2_all_6 ?_
      refine lv_icmp_ge (tgt := 27) hx hb dX2_all_9 (by decide) (fun q9 => absurd q9 (nI_ge (by omega) (by omega))) (fun _ => ?_)
      refine lv_iload_n hx hb dX2_all_12 rfl (lv_at hl 1 rfl) ?_
      refine lv_aload_n hx hb dX2_all_13 rfl (lv_at hl 2 rfl) ?_
      refine lv_iload_n hx hb dX2_all_14 rfl (lv_at hl 0 rfl) ?_
      refine lv_iload_n hx hb dX2_all_15 rfl (lv_at hl 3 rfl) ?_
      refine S_callVi C0 hK h (c_X2_la l z M i (by omega) k (by omega)) (cwV 2 hts gX2_all_X2_la rfl rfl rfl (by decide +kernel) ⟨Nat.le_of_ble_eq_true rfl, Nat.le_of_ble_eq_true rfl⟩) (k := 55) (ci := 2) (by omega) (fun ct hA => hA.1) rfl rfl rfl hl.1 (rest := [.int (qsum (fun j => mA M (8 * j + k)) i)]) rfl (Nat.le_of_ble_eq_true rfl) ⟨Nat.le_of_ble_eq_true rfl, Nat.le_of_ble_eq_true rfl⟩ dX2_all_16 (fun r u H locs hp h => ?_)
      obtain ⟨rfl, hu9⟩ := hp
      rw [hu9] at h
      refine lv_iadd hx hb dX2_all_19 ?_
      refine lv_istore_n (lv' := [(2, .int ((qsum (fun j => mA M (8 * j + k)) i) + (mA M (8 * i + k)))), (3, .int (nI i)), (0, .ref (za z 55)), (1, .int (nI k))]) hx hb dX2_all_20 rfl hl (by decide) rfl (fun ls hl => ?_)
      refine lv_iinc (v := nI (i + 1)) (lv' := [(3, .int (nI (i + 1))), (2, .int ((qsum (fun j => mA M (8 * j + k)) i) + (mA M (8 * i + k)))), (0, .ref (za z 55)), (1, .int (nI k))]) hx hb dX2_all_21 hl (k := 1) rfl (q_inc i 1) (by decide) rfl (fun ls hl => ?_)
      refine lv_goto (tgt := 4) hx hb dX2_all_24 (by decide) ?_
      exact ihL4 (i + 1) (by omega) _ _ _ h (lv_sub hl [0, 1, 2, 3] rfl)
  refine lv_iconst (v := 0) hx hb dX2_all_0 (by decide) ?_
  refine lv_istore_n (lv' := [(2, .int 0), (0, .ref (za z 55)), (1, .int (nI k))]) hx hb dX2_all_1 rfl hl (by decide) rfl (fun ls hl => ?_)
  refine lv_iconst (v := 0) hx hb dX2_all_2 (by decide) ?_
  refine lv_istore_n (lv' := [(3, .int 0), (2, .int 0), (0, .ref (za z 55)), (1, .int (nI k))]) hx hb dX2_all_3 rfl hl (by decide) rfl (fun ls hl => ?_)
  exact L4 (mt_ M) 0 (by omega) _ _ _ h (lv_sub hl [0, 1, 2, 3] rfl)
set_option maxHeartbeats 4000000 in
set_option maxRecDepth 100000 in
theorem c_X2_allPipes (l : Launch) (z : QZ) (M : QMs) (hk : MOk M) (k : Nat) (hk9 : k < 9) : GI l yX2_allPipes wsX2_allPipes ({ frames := 1, cells := 0, slots := 0, locals := 22 } : Room) z [.ref (za z 55), .int (nI k)] 0 0 (MAt z) 55 59 M (fun r M' => r = mallP M k ∧ M' = M) := by
  intro ct sz hn hq hat
  refine q_entry (lo := 55) (cc := cX2_allPipes) (maxL := 4) (ret := (some .int)) (by decide) rfl (Nat.le_of_ble_eq_true rfl) hn hq hat ?_
  intro p e s m below meth c ls C0 hK hsz h hl
  subst hsz
  obtain ⟨hx, hb, hr, hml, hown, hts, hlocks⟩ := id C0
  have hin2 : ∀ w ∈ u_ws RX2 TX2 6, w ∈ wsX2_allPipes := by decide +kernel
  have hl : lv_has ls 4 [(0, .ref (za z 55)), (1, .int (nI k))] := hl
  have hk1 := hk.1
  have hk2 := hk.2.1
  have L4 : ∀ (d i : Nat), i + d = mp_ M → ∀ (H : Heap) (locs : List Loc) (ls : Array Slot), GW z (MAt z) 55 59 s.heap ct M H locs → lv_has ls 4 [(3, .int (nI i)), (2, .int (qsum (fun j => mB M (9 * j + k)) i)), (0, .ref (za z 55)), (1, .int (nI k))] → W p l e ({ frames := 1, cells := 0, slots := 0, locals := 22 } : Room) s m [.ref (za z 55), .int (nI k)].toArray below meth c H locs 0 0 (EI z (MAt z) 55 59 ct s below [.ref (za z 55), .int (nI k)] 0 0 (fun r M' => r = mallP M k ∧ M' = M)) (F0 m 4 ls []) := by
    intro  d
    induction d with
    | zero =>
      intro i hdi H locs ls h hl
      have hEi : i = mp_ M := by omega
      refine lv_iload_n hx hb dX2_allPipes_4 rfl (lv_at hl 0 rfl) ?_
      refine lv_aload_n hx hb dX2_allPipes_5 rfl (lv_at hl 2 rfl) ?_
      refine M_g C0 hK h hin2 2 (by decide) (by decide +kernel) rfl dX2_allPipes_6 ?_
      refine lv_icmp_ge (tgt := 27) hx hb dX2_allPipes_9 (by decide) (fun _ => ?_) (fun q9 => absurd (nI_le (by omega) (by omega)) q9)
      refine lv_iload_n hx hb dX2_allPipes_27 rfl (lv_at hl 1 rfl) ?_
      exact G_iret C0 hK h ⟨by rw [hEi]; rfl, rfl⟩ (Nat.le_of_ble_eq_true rfl) (Nat.le_of_ble_eq_true rfl) dX2_allPipes_28
    | succ d ihL4 =>
      intro i hdi H locs ls h hl
      have hEi : i < mp_ M := by omega
      refine lv_iload_n hx hb dX2_allPipes_4 rfl (lv_at hl 0 rfl) ?_
      refine lv_aload_n hx hb dX2_allPipes_5 rfl (lv_at hl 2 rfl) ?_
      refine M_g C0 hK h hin2 2 (by decide) (by decide +kernel) rfl dX2_allPipes_6 ?_
      refine lv_icmp_ge (tgt := 27) hx hb dX2_allPipes_9 (by decide) (fun q9 => absurd q9 (nI_ge (by omega) (by omega))) (fun _ => ?_)
      refine lv_iload_n hx hb dX2_allPipes_12 rfl (lv_at hl 1 rfl) ?_
      refine lv_aload_n hx hb dX2_allPipes_13 rfl (lv_at hl 2 rfl) ?_
      refine lv_iload_n hx hb dX2_allPipes_14 rfl (lv_at hl 0 rfl) ?_
      refine lv_iload_n hx hb dX2_allPipes_15 rfl (lv_at hl 3 rfl) ?_
      refine S_callVi C0 hK h (c_X2_li l z M i (by omega) k (by omega)) (cwV 2 hts gX2_allPipes_X2_li rfl rfl rfl (by decide +kernel) ⟨Nat.le_of_ble_eq_true rfl, Nat.le_of_ble_eq_true rfl⟩) (k := 55) (ci := 2) (by omega) (fun ct hA => hA.1) rfl rfl rfl hl.1 (rest := [.int (qsum (fun j => mB M (9 * j + k)) i)]) rfl (Nat.le_of_ble_eq_true rfl) ⟨Nat.le_of_ble_eq_true rfl, Nat.le_of_ble_eq_true rfl⟩ dX2_allPipes_16 (fun r u H locs hp h => ?_)
      obtain ⟨rfl, hu9⟩ := hp
      rw [hu9] at h
      refine lv_iadd hx hb dX2_allPipes_19 ?_
      refine lv_istore_n (lv' := [(2, .int ((qsum (fun j => mB M (9 * j + k)) i) + (mB M (9 * i + k)))), (3, .int (nI i)), (0, .ref (za z 55)), (1, .int (nI k))]) hx hb dX2_allPipes_20 rfl hl (by decide) rfl (fun ls hl => ?_)
      refine lv_iinc (v := nI (i + 1)) (lv' := [(3, .int (nI (i + 1))), (2, .int ((qsum (fun j => mB M (9 * j + k)) i) + (mB M (9 * i + k)))), (0, .ref (za z 55)), (1, .int (nI k))]) hx hb dX2_allPipes_21 hl (k := 1) rfl (q_inc i 1) (by decide) rfl (fun ls hl => ?_)
      refine lv_goto (tgt := 4) hx hb dX2_allPipes_24 (by decide) ?_
      exact ihL4 (i + 1) (by omega) _ _ _ h (lv_sub hl [0, 1, 2, 3] rfl)
  refine lv_iconst (v := 0) hx hb dX2_allPipes_0 (by decide) ?_
  refine lv_istore_n (lv' := [(2, .int 0), (0, .ref (za z 55)), (1, .int (nI k))]) hx hb dX2_allPipes_1 rfl hl (by decide) rfl (fun ls hl => ?_)
  refine lv_iconst (v := 0) hx hb dX2_allPipes_2 (by decide) ?_
  refine lv_istore_n (lv' := [(3, .int 0), (2, .int 0), (0, .ref (za z 55)), (1, .int (nI k))]) hx hb dX2_allPipes_3 rfl hl (by decide) rfl (fun ls hl => ?_)
  exact L4 (mp_ M) 0 (by omega) _ _ _ h (lv_sub hl [0, 1, 2, 3] rfl)
