set_option maxHeartbeats 4000000 in
set_option maxRecDepth 100000 in
theorem c_X0_takeInWater (l : Launch) (z : QZ) (σ : Nat → QLs) (b : Nat) (hB : b < 2) (S : QLs) (i : Nat) (hi : i < 10) (x : Int32) : GV l yX0_takeInWater wsX0_takeInWater ({ frames := 1, cells := 0, slots := 0, locals := 13 } : Room) z [.ref (za z (1 + 27 * b + (3 + i))), .int x] 0 0 (XAt z) 0 55 (va_up σ b S) (fun σ' => σ' = va_up σ b (sT S i (takeW (qT S i) x))) := by
  intro ct sz hn hq hat
  refine q_entry (lo := 0) (cc := cX0_takeInWater) (maxL := 4) (ret := none) (by decide) rfl (Nat.le_of_ble_eq_true rfl) hn hq hat ?_
  intro p e s m below meth c ls C0 hK hsz h hl
  subst hsz
  obtain ⟨hx, hb, hr, hml, hown, hts, hlocks⟩ := id C0
  have hl : lv_has ls 4 [(0, .ref (za z (1 + 27 * b + (3 + i)))), (1, .int x)] := hl
  refine lv_aload_n hx hb dX0_takeInWater_0 rfl (lv_at hl 0 rfl) ?_
  refine lv_iconst (v := 3) hx hb dX0_takeInWater_1 (by decide) ?_
  refine L_ldT C0 hK h hB hi (k := 3) rfl (by decide) dX0_takeInWater_2 ?_
  refine lv_iload_n hx hb dX0_takeInWater_3 rfl (lv_at hl 1 rfl) ?_
  refine lv_iadd hx hb dX0_takeInWater_4 ?_
  refine lv_istore_n (lv' := [(2, .int ((qT S i 3) + x)), (0, .ref (za z (1 + 27 * b + (3 + i)))), (1, .int x)]) hx hb dX0_takeInWater_5 rfl hl (by decide) rfl (fun ls hl => ?_)
  refine lv_iconst (v := 0) hx hb dX0_takeInWater_6 (by decide) ?_
  refine lv_iload_n hx hb dX0_takeInWater_7 rfl (lv_at hl 0 rfl) ?_
  refine lv_sipush (v := 200) hx hb dX0_takeInWater_8 (by decide) ?_
  refine lv_isub hx hb dX0_takeInWater_11 ?_
  refine G_mmax C0 hl.1 (by decide +kernel) (by decide +kernel) (by decide +kernel) (by decide +kernel) ⟨Nat.le_of_ble_eq_true rfl, Nat.le_of_ble_eq_true rfl, Nat.le_of_ble_eq_true rfl, Nat.le_of_ble_eq_true rfl⟩ dX0_takeInWater_12 ?_
  refine lv_istore_n (lv' := [(3, .int (qmax 0 (((qT S i 3) + x) - 200))), (2, .int ((qT S i 3) + x)), (0, .ref (za z (1 + 27 * b + (3 + i)))), (1, .int x)]) hx hb dX0_takeInWater_15 rfl hl (by decide) rfl (fun ls hl => ?_)
  refine lv_aload_n hx hb dX0_takeInWater_16 rfl (lv_at hl 2 rfl) ?_
  refine lv_iconst (v := 3) hx hb dX0_takeInWater_17 (by decide) ?_
  refine lv_iload_n hx hb dX0_takeInWater_18 rfl (lv_at hl 1 rfl) ?_
  refine lv_iload_n hx hb dX0_takeInWater_19 rfl (lv_at hl 0 rfl) ?_
  refine lv_isub hx hb dX0_takeInWater_20 ?_
  refine L_stT C0 hK h hB hi (k := 3) rfl (by decide) dX0_takeInWater_21 (fun H locs S1 eS1 h => ?_)
  refine lv_aload_n hx hb dX0_takeInWater_22 rfl (lv_at hl 2 rfl) ?_
  refine lv_bipush (v := 7) hx hb dX0_takeInWater_23 (by decide) ?_
  refine lv_dup2_11 hx hb dX0_takeInWater_25 rfl rfl ?_
  refine L_ldT C0 hK h hB hi (k := 7) rfl (by decide) dX0_takeInWater_26 ?_
  refine lv_iload_n hx hb dX0_takeInWater_27 rfl (lv_at hl 0 rfl) ?_
  refine lv_iadd hx hb dX0_takeInWater_28 ?_
  refine L_stT C0 hK h hB hi (k := 7) rfl (by decide) dX0_takeInWater_29 (fun H locs S2 eS2 h => ?_)
  exact G_vret C0 hK h (congrArg (va_up σ b) (by subst eS2 eS1; first | rfl | (simp only [qT_sT, sT_sT, qP_sP, sP_sP]; rfl))) (Nat.le_of_ble_eq_true rfl) (Nat.le_of_ble_eq_true rfl) dX0_takeInWater_30
set_option maxHeartbeats 4000000 in
set_option maxRecDepth 100000 in
theorem c_X0_takeInMud (l : Launch) (z : QZ) (σ : Nat → QLs) (b : Nat) (hB : b < 2) (S : QLs) (i : Nat) (hi : i < 10) (x : Int32) : GV l yX0_takeInMud wsX0_takeInMud ({ frames := 1, cells := 0, slots := 0, locals := 15 } : Room) z [.ref (za z (1 + 27 * b + (3 + i))), .int x] 0 0 (XAt z) 0 55 (va_up σ b S) (fun σ' => σ' = va_up σ b (sT S i (takeM (qT S i) x))) := by
  intro ct sz hn hq hat
  refine q_entry (lo := 0) (cc := cX0_takeInMud) (maxL := 2) (ret := none) (by decide) rfl (Nat.le_of_ble_eq_true rfl) hn hq hat ?_
  intro p e s m below meth c ls C0 hK hsz h hl
  subst hsz
  obtain ⟨hx, hb, hr, hml, hown, hts, hlocks⟩ := id C0
  have hl : lv_has ls 2 [(0, .ref (za z (1 + 27 * b + (3 + i)))), (1, .int x)] := hl
  refine lv_aload_n hx hb dX0_takeInMud_0 rfl (lv_at hl 0 rfl) ?_
  refine lv_iconst (v := 4) hx hb dX0_takeInMud_1 (by decide) ?_
  refine lv_bipush (v := 99) hx hb dX0_takeInMud_2 (by decide) ?_
  refine lv_aload_n hx hb dX0_takeInMud_4 rfl (lv_at hl 0 rfl) ?_
  refine lv_iconst (v := 4) hx hb dX0_takeInMud_5 (by decide) ?_
  refine L_ldT C0 hK h hB hi (k := 4) rfl (by decide) dX0_takeInMud_6 ?_
  refine lv_iload_n hx hb dX0_takeInMud_7 rfl (lv_at hl 1 rfl) ?_
  refine lv_iadd hx hb dX0_takeInMud_8 ?_
  refine G_mmin C0 hl.1 (by decide +kernel) (by decide +kernel) (by decide +kernel) (by decide +kernel) ⟨Nat.le_of_ble_eq_true rfl, Nat.le_of_ble_eq_true rfl, Nat.le_of_ble_eq_true rfl, Nat.le_of_ble_eq_true rfl⟩ dX0_takeInMud_9 ?_
  refine L_stT C0 hK h hB hi (k := 4) rfl (by decide) dX0_takeInMud_12 (fun H locs S1 eS1 h => ?_)
  exact G_vret C0 hK h (congrArg (va_up σ b) (by subst eS1; first | rfl | (simp only [qT_sT, sT_sT, qP_sP, sP_sP]; rfl))) (Nat.le_of_ble_eq_true rfl) (Nat.le_of_ble_eq_true rfl) dX0_takeInMud_13
set_option maxHeartbeats 4000000 in
set_option maxRecDepth 100000 in
theorem c_X0_feed (l : Launch) (z : QZ) (σ : Nat → QLs) (b : Nat) (hB : b < 2) (S : QLs) (i : Nat) (hi : i < 10) : GV l yX0_feed wsX0_feed ({ frames := 2, cells := 0, slots := 0, locals := 36 } : Room) z [.ref (za z (1 + 27 * b + (3 + i)))] 0 0 (XAt z) 0 55 (va_up σ b S) (fun σ' => σ' = va_up σ b (sT S i (feedR (qT S i)))) := by
  intro ct sz hn hq hat
  refine q_entry (lo := 0) (cc := cX0_feed) (maxL := 1) (ret := none) (by decide) rfl (Nat.le_of_ble_eq_true rfl) hn hq hat ?_
  intro p e s m below meth c ls C0 hK hsz h hl
  subst hsz
  obtain ⟨hx, hb, hr, hml, hown, hts, hlocks⟩ := id C0
  have hl : lv_has ls 1 [(0, .ref (za z (1 + 27 * b + (3 + i))))] := hl
  refine lv_aload_n hx hb dX0_feed_0 rfl (lv_at hl 0 rfl) ?_
  refine lv_aload_n hx hb dX0_feed_1 rfl (lv_at hl 0 rfl) ?_
  refine lv_iconst (v := 1) hx hb dX0_feed_2 (by decide) ?_
  refine L_ldT C0 hK h hB hi (k := 1) rfl (by decide) dX0_feed_3 ?_
  refine S_callSv C0 hK h (c_X0_takeInWater l z σ b hB S i hi (qT S i 1)) (va_cwS 2 hts gX0_feed_X0_takeInWater rfl rfl rfl (by decide +kernel) ⟨Nat.le_of_ble_eq_true rfl, Nat.le_of_ble_eq_true rfl⟩) rfl hl.1 (rest := []) rfl (Nat.le_of_ble_eq_true rfl) ⟨Nat.le_of_ble_eq_true rfl, Nat.le_of_ble_eq_true rfl⟩ dX0_feed_4 (fun u H locs hp h => ?_)
  obtain ⟨S1, eS1⟩ : ∃ z9, z9 = sT S i (takeW (qT S i) (qT S i 1)) := ⟨_, rfl⟩
  rw [← eS1] at hp
  subst hp
  refine lv_aload_n hx hb dX0_feed_7 rfl (lv_at hl 0 rfl) ?_
  refine lv_aload_n hx hb dX0_feed_8 rfl (lv_at hl 0 rfl) ?_
  refine lv_iconst (v := 1) hx hb dX0_feed_9 (by decide) ?_
  refine L_ldT C0 hK h hB hi (k := 1) rfl (by decide) dX0_feed_10 ?_
  refine lv_iconst (v := 4) hx hb dX0_feed_11 (by decide) ?_
  refine lv_idiv hx hb dX0_feed_12 (by decide) ?_
  refine S_callSv C0 hK h (c_X0_takeInMud l z σ b hB S1 i hi ((qT S1 i 1) / 4)) (va_cwS 2 hts gX0_feed_X0_takeInMud rfl rfl rfl (by decide +kernel) ⟨Nat.le_of_ble_eq_true rfl, Nat.le_of_ble_eq_true rfl⟩) rfl hl.1 (rest := []) rfl (Nat.le_of_ble_eq_true rfl) ⟨Nat.le_of_ble_eq_true rfl, Nat.le_of_ble_eq_true rfl⟩ dX0_feed_13 (fun u H locs hp h => ?_)
  obtain ⟨S2, eS2⟩ : ∃ z9, z9 = sT S1 i (takeM (qT S1 i) ((qT S1 i 1) / 4)) := ⟨_, rfl⟩
  rw [← eS2] at hp
  subst hp
  exact G_vret C0 hK h (congrArg (va_up σ b) (by subst eS2 eS1; first | rfl | (simp only [qT_sT, sT_sT, qP_sP, sP_sP]; rfl))) (Nat.le_of_ble_eq_true rfl) (Nat.le_of_ble_eq_true rfl) dX0_feed_16
set_option maxHeartbeats 4000000 in
set_option maxRecDepth 100000 in
theorem c_X0_drinkFrom (l : Launch) (z : QZ) (σ : Nat → QLs) (b : Nat) (hB : b < 2) (S : QLs) (i : Nat) (hi : i < 10) : GV l yX0_drinkFrom wsX0_drinkFrom ({ frames := 1, cells := 0, slots := 0, locals := 13 } : Room) z [.ref (za z (1 + 27 * b + (3 + i)))] 0 0 (XAt z) 0 55 (va_up σ b S) (fun σ' => σ' = va_up σ b (sT S i (drinkR (qT S i)))) := by
  intro ct sz hn hq hat
  refine q_entry (lo := 0) (cc := cX0_drinkFrom) (maxL := 3) (ret := none) (by decide) rfl (Nat.le_of_ble_eq_true rfl) hn hq hat ?_
  intro p e s m below meth c ls C0 hK hsz h hl
  subst hsz
  obtain ⟨hx, hb, hr, hml, hown, hts, hlocks⟩ := id C0
  have hl : lv_has ls 3 [(0, .ref (za z (1 + 27 * b + (3 + i))))] := hl
  refine lv_aload_n hx hb dX0_drinkFrom_0 rfl (lv_at hl 0 rfl) ?_
  refine lv_iconst (v := 4) hx hb dX0_drinkFrom_1 (by decide) ?_
  refine L_ldT C0 hK h hB hi (k := 4) rfl (by decide) dX0_drinkFrom_2 ?_
  refine lv_bipush (v := 50) hx hb dX0_drinkFrom_3 (by decide) ?_
  refine lv_icmp_lt (tgt := 16) hx hb dX0_drinkFrom_5 (by decide) (fun c_5 => ?_) (fun c_5 => ?_)
  · refine lv_aload_n hx hb dX0_drinkFrom_16 rfl (lv_at hl 0 rfl) ?_
    refine lv_iconst (v := 2) hx hb dX0_drinkFrom_17 (by decide) ?_
    refine L_ldT C0 hK h hB hi (k := 2) rfl (by decide) dX0_drinkFrom_18 ?_
    refine lv_istore_n (lv' := [(1, .int (qT S i 2)), (0, .ref (za z (1 + 27 * b + (3 + i))))]) hx hb dX0_drinkFrom_19 rfl hl (by decide) rfl (fun ls hl => ?_)
    refine lv_iload_n hx hb dX0_drinkFrom_20 rfl (lv_at hl 0 rfl) ?_
    refine lv_aload_n hx hb dX0_drinkFrom_21 rfl (lv_at hl 1 rfl) ?_
    refine lv_iconst (v := 3) hx hb dX0_drinkFrom_22 (by decide) ?_
    refine L_ldT C0 hK h hB hi (k := 3) rfl (by decide) dX0_drinkFrom_23 ?_
    refine G_mmin C0 hl.1 (by decide +kernel) (by decide +kernel) (by decide +kernel) (by decide +kernel) ⟨Nat.le_of_ble_eq_true rfl, Nat.le_of_ble_eq_true rfl, Nat.le_of_ble_eq_true rfl, Nat.le_of_ble_eq_true rfl⟩ dX0_drinkFrom_24 ?_
    refine lv_istore_n (lv' := [(2, .int (qmin (qT S i 2) (qT S i 3))), (1, .int (qT S i 2)), (0, .ref (za z (1 + 27 * b + (3 + i))))]) hx hb dX0_drinkFrom_27 rfl hl (by decide) rfl (fun ls hl => ?_)
    refine lv_aload_n hx hb dX0_drinkFrom_28 rfl (lv_at hl 2 rfl) ?_
    refine lv_iconst (v := 3) hx hb dX0_drinkFrom_29 (by decide) ?_
    refine lv_dup2_11 hx hb dX0_drinkFrom_30 rfl rfl ?_
    refine L_ldT C0 hK h hB hi (k := 3) rfl (by decide) dX0_drinkFrom_31 ?_
    refine lv_iload_n hx hb dX0_drinkFrom_32 rfl (lv_at hl 0 rfl) ?_
    refine lv_isub hx hb dX0_drinkFrom_33 ?_
    refine L_stT C0 hK h hB hi (k := 3) rfl (by decide) dX0_drinkFrom_34 (fun H locs S1 eS1 h => ?_)
    refine lv_aload_n hx hb dX0_drinkFrom_35 rfl (lv_at hl 2 rfl) ?_
    refine lv_iconst (v := 5) hx hb dX0_drinkFrom_36 (by decide) ?_
    refine lv_iload_n hx hb dX0_drinkFrom_37 rfl (lv_at hl 0 rfl) ?_
    refine L_stT C0 hK h hB hi (k := 5) rfl (by decide) dX0_drinkFrom_38 (fun H locs S2 eS2 h => ?_)
    refine lv_aload_n hx hb dX0_drinkFrom_39 rfl (lv_at hl 2 rfl) ?_
    refine lv_bipush (v := 6) hx hb dX0_drinkFrom_40 (by decide) ?_
    refine lv_dup2_11 hx hb dX0_drinkFrom_42 rfl rfl ?_
    refine L_ldT C0 hK h hB hi (k := 6) rfl (by decide) dX0_drinkFrom_43 ?_
    refine lv_iload_n hx hb dX0_drinkFrom_44 rfl (lv_at hl 0 rfl) ?_
    refine lv_iadd hx hb dX0_drinkFrom_45 ?_
    refine L_stT C0 hK h hB hi (k := 6) rfl (by decide) dX0_drinkFrom_46 (fun H locs S3 eS3 h => ?_)
    exact G_vret C0 hK h (congrArg (va_up σ b) (by subst eS3 eS2 eS1; simp only [qT_sT, sT_sT, drinkR, c_5, if_true, if_false])) (Nat.le_of_ble_eq_true rfl) (Nat.le_of_ble_eq_true rfl) dX0_drinkFrom_47
  · refine lv_aload_n hx hb dX0_drinkFrom_8 rfl (lv_at hl 0 rfl) ?_
    refine lv_iconst (v := 2) hx hb dX0_drinkFrom_9 (by decide) ?_
    refine L_ldT C0 hK h hB hi (k := 2) rfl (by decide) dX0_drinkFrom_10 ?_
    refine lv_iconst (v := 2) hx hb dX0_drinkFrom_11 (by decide) ?_
    refine lv_idiv hx hb dX0_drinkFrom_12 (by decide) ?_
    refine lv_goto (tgt := 19) hx hb dX0_drinkFrom_13 (by decide) ?_
    refine lv_istore_n (lv' := [(1, .int ((qT S i 2) / 2)), (0, .ref (za z (1 + 27 * b + (3 + i))))]) hx hb dX0_drinkFrom_19 rfl hl (by decide) rfl (fun ls hl => ?_)
    refine lv_iload_n hx hb dX0_drinkFrom_20 rfl (lv_at hl 0 rfl) ?_
    refine lv_aload_n hx hb dX0_drinkFrom_21 rfl (lv_at hl 1 rfl) ?_
    refine lv_iconst (v := 3) hx hb dX0_drinkFrom_22 (by decide) ?_
    refine L_ldT C0 hK h hB hi (k := 3) rfl (by decide) dX0_drinkFrom_23 ?_
    refine G_mmin C0 hl.1 (by decide +kernel) (by decide +kernel) (by decide +kernel) (by decide +kernel) ⟨Nat.le_of_ble_eq_true rfl, Nat.le_of_ble_eq_true rfl, Nat.le_of_ble_eq_true rfl, Nat.le_of_ble_eq_true rfl⟩ dX0_drinkFrom_24 ?_
    refine lv_istore_n (lv' := [(2, .int (qmin ((qT S i 2) / 2) (qT S i 3))), (1, .int ((qT S i 2) / 2)), (0, .ref (za z (1 + 27 * b + (3 + i))))]) hx hb dX0_drinkFrom_27 rfl hl (by decide) rfl (fun ls hl => ?_)
    refine lv_aload_n hx hb dX0_drinkFrom_28 rfl (lv_at hl 2 rfl) ?_
    refine lv_iconst (v := 3) hx hb dX0_drinkFrom_29 (by decide) ?_
    refine lv_dup2_11 hx hb dX0_drinkFrom_30 rfl rfl ?_
    refine L_ldT C0 hK h hB hi (k := 3) rfl (by decide) dX0_drinkFrom_31 ?_
    refine lv_iload_n hx hb dX0_drinkFrom_32 rfl (lv_at hl 0 rfl) ?_
    refine lv_isub hx hb dX0_drinkFrom_33 ?_
    refine L_stT C0 hK h hB hi (k := 3) rfl (by decide) dX0_drinkFrom_34 (fun H locs S4 eS4 h => ?_)
    refine lv_aload_n hx hb dX0_drinkFrom_35 rfl (lv_at hl 2 rfl) ?_
    refine lv_iconst (v := 5) hx hb dX0_drinkFrom_36 (by decide) ?_
    refine lv_iload_n hx hb dX0_drinkFrom_37 rfl (lv_at hl 0 rfl) ?_
    refine L_stT C0 hK h hB hi (k := 5) rfl (by decide) dX0_drinkFrom_38 (fun H locs S5 eS5 h => ?_)
    refine lv_aload_n hx hb dX0_drinkFrom_39 rfl (lv_at hl 2 rfl) ?_
    refine lv_bipush (v := 6) hx hb dX0_drinkFrom_40 (by decide) ?_
    refine lv_dup2_11 hx hb dX0_drinkFrom_42 rfl rfl ?_
    refine L_ldT C0 hK h hB hi (k := 6) rfl (by decide) dX0_drinkFrom_43 ?_
    refine lv_iload_n hx hb dX0_drinkFrom_44 rfl (lv_at hl 0 rfl) ?_
    refine lv_iadd hx hb dX0_drinkFrom_45 ?_
    refine L_stT C0 hK h hB hi (k := 6) rfl (by decide) dX0_drinkFrom_46 (fun H locs S6 eS6 h => ?_)
    exact G_vret C0 hK h (congrArg (va_up σ b) (by subst eS6 eS5 eS4; simp only [qT_sT, sT_sT, drinkR, c_5, if_true, if_false])) (Nat.le_of_ble_eq_true rfl) (Nat.le_of_ble_eq_true rfl) dX0_drinkFrom_47
set_option maxHeartbeats 4000000 in
set_option maxRecDepth 100000 in
theorem c_X0_head (l : Launch) (z : QZ) (σ : Nat → QLs) (b : Nat) (hB : b < 2) (S : QLs) (i : Nat) (hi : i < 10) : GI l yX0_head wsX0_head ({ frames := 0, cells := 0, slots := 0, locals := 0 } : Room) z [.ref (za z (1 + 27 * b + (3 + i)))] 0 0 (XAt z) 0 55 (va_up σ b S) (fun r σ' => r = headR (qT S i) ∧ σ' = va_up σ b S) := by
  intro ct sz hn hq hat
  refine q_entry (lo := 0) (cc := cX0_head) (maxL := 1) (ret := (some .int)) (by decide) rfl (Nat.le_of_ble_eq_true rfl) hn hq hat ?_
  intro p e s m below meth c ls C0 hK hsz h hl
  subst hsz
  obtain ⟨hx, hb, hr, hml, hown, hts, hlocks⟩ := id C0
  have hl : lv_has ls 1 [(0, .ref (za z (1 + 27 * b + (3 + i))))] := hl
  refine lv_bipush (v := 10) hx hb dX0_head_0 (by decide) ?_
  refine lv_aload_n hx hb dX0_head_2 rfl (lv_at hl 0 rfl) ?_
  refine lv_iconst (v := 0) hx hb dX0_head_3 (by decide) ?_
  refine L_ldT C0 hK h hB hi (k := 0) rfl (by decide) dX0_head_4 ?_
  refine lv_imul hx hb dX0_head_5 ?_
  refine lv_aload_n hx hb dX0_head_6 rfl (lv_at hl 0 rfl) ?_
  refine lv_iconst (v := 3) hx hb dX0_head_7 (by decide) ?_
  refine L_ldT C0 hK h hB hi (k := 3) rfl (by decide) dX0_head_8 ?_
  refine lv_iadd hx hb dX0_head_9 ?_
  exact G_iret C0 hK h ⟨rfl, rfl⟩ (Nat.le_of_ble_eq_true rfl) (Nat.le_of_ble_eq_true rfl) dX0_head_10
set_option maxHeartbeats 4000000 in
set_option maxRecDepth 100000 in
theorem c_X0_wanderMud (l : Launch) (z : QZ) (σ : Nat → QLs) (b : Nat) (hB : b < 2) (S : QLs) (f : Nat) (hf : f < 10) (t : Nat) (ht : t < 10) (x : Int32) : GV l yX0_wanderMud wsX0_wanderMud ({ frames := 2, cells := 0, slots := 0, locals := 36 } : Room) z [.ref (za z (1 + 27 * b + (3 + f))), .ref (za z (1 + 27 * b + (3 + t))), .int x] 0 0 (XAt z) 0 55 (va_up σ b S) (fun σ' => σ' = va_up σ b (wander S f t x)) := by
  intro ct sz hn hq hat
  refine q_entry (lo := 0) (cc := cX0_wanderMud) (maxL := 4) (ret := none) (by decide) rfl (Nat.le_of_ble_eq_true rfl) hn hq hat ?_
  intro p e s m below meth c ls C0 hK hsz h hl
  subst hsz
  obtain ⟨hx, hb, hr, hml, hown, hts, hlocks⟩ := id C0
  have hl : lv_has ls 4 [(0, .ref (za z (1 + 27 * b + (3 + f)))), (1, .ref (za z (1 + 27 * b + (3 + t)))), (2, .int x)] := hl
  refine lv_aload_n hx hb dX0_wanderMud_0 rfl (lv_at hl 0 rfl) ?_
  refine lv_iconst (v := 3) hx hb dX0_wanderMud_1 (by decide) ?_
  refine L_ldT C0 hK h hB hf (k := 3) rfl (by decide) dX0_wanderMud_2 ?_
  refine lv_if_gt (tgt := 7) hx hb dX0_wanderMud_3 (by decide) (fun c_3 => ?_) (fun c_3 => ?_)
  · refine lv_aload_n hx hb dX0_wanderMud_7 rfl (lv_at hl 0 rfl) ?_
    refine lv_iconst (v := 4) hx hb dX0_wanderMud_8 (by decide) ?_
    refine L_ldT C0 hK h hB hf (k := 4) rfl (by decide) dX0_wanderMud_9 ?_
    refine lv_iload_n hx hb dX0_wanderMud_10 rfl (lv_at hl 2 rfl) ?_
    refine lv_imul hx hb dX0_wanderMud_11 ?_
    refine lv_aload_n hx hb dX0_wanderMud_12 rfl (lv_at hl 0 rfl) ?_
    refine lv_iconst (v := 3) hx hb dX0_wanderMud_13 (by decide) ?_
    refine L_ldT C0 hK h hB hf (k := 3) rfl (by decide) dX0_wanderMud_14 ?_
    refine lv_idiv hx hb dX0_wanderMud_15 (fun q => absurd c_3 (by rw [q]; decide)) ?_
    refine lv_istore_n (lv' := [(3, .int (((qT S f 4) * x) / (qT S f 3))), (0, .ref (za z (1 + 27 * b + (3 + f)))), (1, .ref (za z (1 + 27 * b + (3 + t)))), (2, .int x)]) hx hb dX0_wanderMud_16 rfl hl (by decide) rfl (fun ls hl => ?_)
    refine lv_aload_n hx hb dX0_wanderMud_17 rfl (lv_at hl 1 rfl) ?_
    refine lv_iconst (v := 4) hx hb dX0_wanderMud_18 (by decide) ?_
    refine lv_dup2_11 hx hb dX0_wanderMud_19 rfl rfl ?_
    refine L_ldT C0 hK h hB hf (k := 4) rfl (by decide) dX0_wanderMud_20 ?_
    refine lv_iload_n hx hb dX0_wanderMud_21 rfl (lv_at hl 0 rfl) ?_
    refine lv_isub hx hb dX0_wanderMud_22 ?_
    refine L_stT C0 hK h hB hf (k := 4) rfl (by decide) dX0_wanderMud_23 (fun H locs S1 eS1 h => ?_)
    refine lv_aload_n hx hb dX0_wanderMud_24 rfl (lv_at hl 2 rfl) ?_
    refine lv_iload_n hx hb dX0_wanderMud_25 rfl (lv_at hl 0 rfl) ?_
    refine S_callSv C0 hK h (c_X0_takeInMud l z σ b hB S1 t ht (((qT S f 4) * x) / (qT S f 3))) (va_cwS 2 hts gX0_wanderMud_X0_takeInMud rfl rfl rfl (by decide +kernel) ⟨Nat.le_of_ble_eq_true rfl, Nat.le_of_ble_eq_true rfl⟩) rfl hl.1 (rest := []) rfl (Nat.le_of_ble_eq_true rfl) ⟨Nat.le_of_ble_eq_true rfl, Nat.le_of_ble_eq_true rfl⟩ dX0_wanderMud_26 (fun u H locs hp h => ?_)
    obtain ⟨S2, eS2⟩ : ∃ z9, z9 = sT S1 t (takeM (qT S1 t) (((qT S f 4) * x) / (qT S f 3))) := ⟨_, rfl⟩
    rw [← eS2] at hp
    subst hp
    exact G_vret C0 hK h (congrArg (va_up σ b) (by subst eS2 eS1; unfold wander; rw [if_pos c_3])) (Nat.le_of_ble_eq_true rfl) (Nat.le_of_ble_eq_true rfl) dX0_wanderMud_29
  · exact G_vret C0 hK h (congrArg (va_up σ b) (by unfold wander; rw [if_neg c_3])) (Nat.le_of_ble_eq_true rfl) (Nat.le_of_ble_eq_true rfl) dX0_wanderMud_6
