/-! PART 35: set .. pass -/
set_option maxHeartbeats 4000000 in
set_option maxRecDepth 100000 in
theorem c_X1_set_ok (l : Launch) (z : QZ) (σ : Nat → QLs) (S : QLs) (hk : LOk S) (i : Nat) (hi : i < qt S) (x y : Int32) (h9 : (0 ≤ x ∧ x ≤ 20) ∧ (0 ≤ y ∧ y ≤ 20)) : GI l yX1_set wsX1_set ({ frames := 2, cells := 0, slots := 0, locals := 43 } : Room) z [.ref (za z 0), .int (nI i), .int x, .int y] 0 0 (XAt z) 0 55 (va_up σ 0 S) (fun r σ' => r = 100 * qT S i 1 + qT S i 2 ∧ σ' = va_up σ 0 (sT (sT S i (upd (qT S i) 1 x)) i (upd (qT (sT S i (upd (qT S i) 1 x)) i) 2 y))) := by
  intro ct sz hn hq hat
  refine q_entry (lo := 0) (cc := cX1_set) (maxL := 6) (ret := (some .int)) (by decide) rfl (Nat.le_of_ble_eq_true rfl) hn hq hat ?_
  intro p e s m below meth c ls C0 hK hsz h hl
  subst hsz
  obtain ⟨hx, hb, hr, hml, hown, hts, hlocks⟩ := id C0
  have hB : 0 < 2 := by decide
  have hin0 : ∀ w ∈ u_ws RX0 TX0 5, w ∈ wsX1_set := by decide +kernel
  have hin1 : ∀ w ∈ u_ws RX1 TX1 2, w ∈ wsX1_set := by decide +kernel
  have hl : lv_has ls 6 [(0, .ref (za z 0)), (1, .int (nI i)), (2, .int x), (3, .int y)] := hl
  have hk1 := hk.1
  have hk2 := hk.2.1
  refine lv_aload_n hx hb dX1_set_0 rfl (lv_at hl 0 rfl) ?_
  refine lv_iload_n hx hb dX1_set_1 rfl (lv_at hl 1 rfl) ?_
  refine S_callVv C0 hK h (c_X1_needTank_ok l z σ S i hi (by omega)) (cwV 1 hts gX1_set_X1_needTank rfl rfl rfl (by decide +kernel) ⟨Nat.le_of_ble_eq_true rfl, Nat.le_of_ble_eq_true rfl⟩) (k := 0) (ci := 1) (by omega) (fun ct hA => hA.1) rfl rfl rfl hl.1 (rest := []) rfl (Nat.le_of_ble_eq_true rfl) ⟨Nat.le_of_ble_eq_true rfl, Nat.le_of_ble_eq_true rfl⟩ dX1_set_2 (fun u H locs hp h => ?_)
  rw [hp] at h
  refine lv_iload_n hx hb dX1_set_5 rfl (lv_at hl 2 rfl) ?_
  refine lv_iload_n hx hb dX1_set_6 rfl (lv_at hl 3 rfl) ?_
  refine S_callSi C0 hK h (c_X1_isSpringAndThirst l z σ S x y) (va_cwS 2 hts gX1_set_X1_isSpringAndThirst rfl rfl rfl (by decide +kernel) ⟨Nat.le_of_ble_eq_true rfl, Nat.le_of_ble_eq_true rfl⟩) rfl hl.1 (rest := []) rfl (Nat.le_of_ble_eq_true rfl) ⟨Nat.le_of_ble_eq_true rfl, Nat.le_of_ble_eq_true rfl⟩ dX1_set_7 (fun r u H locs hp h => ?_)
  obtain ⟨hr9, hu9⟩ := hp
  have hr9 := hr9.trans (if_pos h9)
  subst hr9
  rw [hu9] at h
  refine S_callSv C0 hK h (c_X1_needArgument_ok l z σ S) (va_cwS 1 hts gX1_set_X1_needArgument rfl rfl rfl (by decide +kernel) ⟨Nat.le_of_ble_eq_true rfl, Nat.le_of_ble_eq_true rfl⟩) rfl hl.1 (rest := []) rfl (Nat.le_of_ble_eq_true rfl) ⟨Nat.le_of_ble_eq_true rfl, Nat.le_of_ble_eq_true rfl⟩ dX1_set_10 (fun u H locs hp h => ?_)
  rw [hp] at h
  refine lv_aload_n hx hb dX1_set_13 rfl (lv_at hl 0 rfl) ?_
  refine X_gO C0 hK h hin1 0 (by decide) (by decide +kernel) dX1_set_14 ?_
  refine L_gL C0 hK h hB hin0 0 (by decide) (by decide +kernel) rfl dX1_set_17 ?_
  refine lv_iload_n hx hb dX1_set_20 rfl (lv_at hl 1 rfl) ?_
  refine X_aT C0 hK h hB (i := i) rfl (by omega) dX1_set_21 ?_
  refine lv_astore (lv' := [(4, .ref (za z (1 + 27 * 0 + (3 + i)))), (0, .ref (za z 0)), (1, .int (nI i)), (2, .int x), (3, .int y)]) hx hb dX1_set_22 hl (by decide) rfl (fun ls hl => ?_)
  refine lv_bipush (v := 100) hx hb dX1_set_24 (by decide) ?_
  refine lv_aload hx hb dX1_set_26 (lv_at hl 0 rfl) ?_
  refine lv_iconst (v := 1) hx hb dX1_set_28 (by decide) ?_
  refine L_ldT C0 hK h hB (by omega) (k := 1) rfl (by decide) dX1_set_29 ?_
  refine lv_imul hx hb dX1_set_30 ?_
  refine lv_aload hx hb dX1_set_31 (lv_at hl 0 rfl) ?_
  refine lv_iconst (v := 2) hx hb dX1_set_33 (by decide) ?_
  refine L_ldT C0 hK h hB (by omega) (k := 2) rfl (by decide) dX1_set_34 ?_
  refine lv_iadd hx hb dX1_set_35 ?_
  refine lv_istore (lv' := [(5, .int ((100 * (qT S i 1)) + (qT S i 2))), (4, .ref (za z (1 + 27 * 0 + (3 + i)))), (0, .ref (za z 0)), (1, .int (nI i)), (2, .int x), (3, .int y)]) hx hb dX1_set_36 hl (by decide) rfl (fun ls hl => ?_)
  refine lv_aload hx hb dX1_set_38 (lv_at hl 1 rfl) ?_
  refine lv_iconst (v := 1) hx hb dX1_set_40 (by decide) ?_
  refine lv_iload_n hx hb dX1_set_41 rfl (lv_at hl 4 rfl) ?_
  refine L_stT C0 hK h hB (by omega) (k := 1) rfl (by decide) dX1_set_42 (fun H locs S1 eS1 h => ?_)
  refine lv_aload hx hb dX1_set_43 (lv_at hl 1 rfl) ?_
  refine lv_iconst (v := 2) hx hb dX1_set_45 (by decide) ?_
  refine lv_iload_n hx hb dX1_set_46 rfl (lv_at hl 5 rfl) ?_
  refine L_stT C0 hK h hB (by omega) (k := 2) rfl (by decide) dX1_set_47 (fun H locs S2 eS2 h => ?_)
  refine lv_iload hx hb dX1_set_48 (lv_at hl 0 rfl) ?_
  exact G_iret C0 hK h ⟨rfl, congrArg (va_up σ 0) (by subst eS2 eS1; rfl)⟩ (Nat.le_of_ble_eq_true rfl) (Nat.le_of_ble_eq_true rfl) dX1_set_50
set_option maxHeartbeats 4000000 in
set_option maxRecDepth 100000 in
theorem c_X1_flush_ok (l : Launch) (z : QZ) (σ : Nat → QLs) (S : QLs) (hk : LOk S) (i : Nat) (hi : i < qt S) : GI l yX1_flush wsX1_flush ({ frames := 2, cells := 0, slots := 0, locals := 41 } : Room) z [.ref (za z 0), .int (nI i)] 0 0 (XAt z) 0 55 (va_up σ 0 S) (fun r σ' => r = qT S i 4 ∧ σ' = va_up σ 0 (sT (sT S i (upd (qT S i) 4 0)) i (upd (qT (sT S i (upd (qT S i) 4 0)) i) 3 (qT (sT S i (upd (qT S i) 4 0)) i 3 / 2)))) := by
  intro ct sz hn hq hat
  refine q_entry (lo := 0) (cc := cX1_flush) (maxL := 4) (ret := (some .int)) (by decide) rfl (Nat.le_of_ble_eq_true rfl) hn hq hat ?_
  intro p e s m below meth c ls C0 hK hsz h hl
  subst hsz
  obtain ⟨hx, hb, hr, hml, hown, hts, hlocks⟩ := id C0
  have hB : 0 < 2 := by decide
  have hin0 : ∀ w ∈ u_ws RX0 TX0 5, w ∈ wsX1_flush := by decide +kernel
  have hin1 : ∀ w ∈ u_ws RX1 TX1 2, w ∈ wsX1_flush := by decide +kernel
  have hl : lv_has ls 4 [(0, .ref (za z 0)), (1, .int (nI i))] := hl
  have hk1 := hk.1
  have hk2 := hk.2.1
  refine lv_aload_n hx hb dX1_flush_0 rfl (lv_at hl 0 rfl) ?_
  refine lv_iload_n hx hb dX1_flush_1 rfl (lv_at hl 1 rfl) ?_
  refine S_callVv C0 hK h (c_X1_needTank_ok l z σ S i hi (by omega)) (cwV 1 hts gX1_flush_X1_needTank rfl rfl rfl (by decide +kernel) ⟨Nat.le_of_ble_eq_true rfl, Nat.le_of_ble_eq_true rfl⟩) (k := 0) (ci := 1) (by omega) (fun ct hA => hA.1) rfl rfl rfl hl.1 (rest := []) rfl (Nat.le_of_ble_eq_true rfl) ⟨Nat.le_of_ble_eq_true rfl, Nat.le_of_ble_eq_true rfl⟩ dX1_flush_2 (fun u H locs hp h => ?_)
  rw [hp] at h
  refine lv_aload_n hx hb dX1_flush_5 rfl (lv_at hl 0 rfl) ?_
  refine X_gO C0 hK h hin1 0 (by decide) (by decide +kernel) dX1_flush_6 ?_
  refine L_gL C0 hK h hB hin0 0 (by decide) (by decide +kernel) rfl dX1_flush_9 ?_
  refine lv_iload_n hx hb dX1_flush_12 rfl (lv_at hl 1 rfl) ?_
  refine X_aT C0 hK h hB (i := i) rfl (by omega) dX1_flush_13 ?_
  refine lv_astore_n (lv' := [(2, .ref (za z (1 + 27 * 0 + (3 + i)))), (0, .ref (za z 0)), (1, .int (nI i))]) hx hb dX1_flush_14 rfl hl (by decide) rfl (fun ls hl => ?_)
  refine lv_aload_n hx hb dX1_flush_15 rfl (lv_at hl 0 rfl) ?_
  refine lv_iconst (v := 4) hx hb dX1_flush_16 (by decide) ?_
  refine L_ldT C0 hK h hB (by omega) (k := 4) rfl (by decide) dX1_flush_17 ?_
  refine lv_istore_n (lv' := [(3, .int (qT S i 4)), (2, .ref (za z (1 + 27 * 0 + (3 + i)))), (0, .ref (za z 0)), (1, .int (nI i))]) hx hb dX1_flush_18 rfl hl (by decide) rfl (fun ls hl => ?_)
  refine lv_aload_n hx hb dX1_flush_19 rfl (lv_at hl 1 rfl) ?_
  refine lv_iconst (v := 4) hx hb dX1_flush_20 (by decide) ?_
  refine lv_iconst (v := 0) hx hb dX1_flush_21 (by decide) ?_
  refine L_stT C0 hK h hB (by omega) (k := 4) rfl (by decide) dX1_flush_22 (fun H locs S1 eS1 h => ?_)
  refine lv_aload_n hx hb dX1_flush_23 rfl (lv_at hl 1 rfl) ?_
  refine lv_iconst (v := 3) hx hb dX1_flush_24 (by decide) ?_
  refine lv_aload_n hx hb dX1_flush_25 rfl (lv_at hl 1 rfl) ?_
  refine lv_iconst (v := 3) hx hb dX1_flush_26 (by decide) ?_
  refine L_ldT C0 hK h hB (by omega) (k := 3) rfl (by decide) dX1_flush_27 ?_
  refine lv_iconst (v := 2) hx hb dX1_flush_28 (by decide) ?_
  refine lv_idiv hx hb dX1_flush_29 (by decide) ?_
  refine L_stT C0 hK h hB (by omega) (k := 3) rfl (by decide) dX1_flush_30 (fun H locs S2 eS2 h => ?_)
  refine lv_iload_n hx hb dX1_flush_31 rfl (lv_at hl 0 rfl) ?_
  exact G_iret C0 hK h ⟨rfl, congrArg (va_up σ 0) (by subst eS2 eS1; rfl)⟩ (Nat.le_of_ble_eq_true rfl) (Nat.le_of_ble_eq_true rfl) dX1_flush_32
set_option maxHeartbeats 4000000 in
set_option maxRecDepth 100000 in
theorem c_X1_scrape_ok (l : Launch) (z : QZ) (σ : Nat → QLs) (S : QLs) (hk : LOk S) (i : Nat) (hi : i < qp S) : GI l yX1_scrape wsX1_scrape ({ frames := 2, cells := 0, slots := 0, locals := 41 } : Room) z [.ref (za z 0), .int (nI i)] 0 0 (XAt z) 0 55 (va_up σ 0 S) (fun r σ' => r = qP S i 4 ∧ σ' = va_up σ 0 (sP S i (upd (qP S i) 4 0))) := by
  intro ct sz hn hq hat
  refine q_entry (lo := 0) (cc := cX1_scrape) (maxL := 4) (ret := (some .int)) (by decide) rfl (Nat.le_of_ble_eq_true rfl) hn hq hat ?_
  intro p e s m below meth c ls C0 hK hsz h hl
  subst hsz
  obtain ⟨hx, hb, hr, hml, hown, hts, hlocks⟩ := id C0
  have hB : 0 < 2 := by decide
  have hin0 : ∀ w ∈ u_ws RX0 TX0 5, w ∈ wsX1_scrape := by decide +kernel
  have hin1 : ∀ w ∈ u_ws RX1 TX1 2, w ∈ wsX1_scrape := by decide +kernel
  have hl : lv_has ls 4 [(0, .ref (za z 0)), (1, .int (nI i))] := hl
  have hk1 := hk.1
  have hk2 := hk.2.1
  refine lv_aload_n hx hb dX1_scrape_0 rfl (lv_at hl 0 rfl) ?_
  refine lv_iload_n hx hb dX1_scrape_1 rfl (lv_at hl 1 rfl) ?_
  refine S_callVv C0 hK h (c_X1_needPipe_ok l z σ S i hi (by omega)) (cwV 1 hts gX1_scrape_X1_needPipe rfl rfl rfl (by decide +kernel) ⟨Nat.le_of_ble_eq_true rfl, Nat.le_of_ble_eq_true rfl⟩) (k := 0) (ci := 1) (by omega) (fun ct hA => hA.1) rfl rfl rfl hl.1 (rest := []) rfl (Nat.le_of_ble_eq_true rfl) ⟨Nat.le_of_ble_eq_true rfl, Nat.le_of_ble_eq_true rfl⟩ dX1_scrape_2 (fun u H locs hp h => ?_)
  rw [hp] at h
  refine lv_aload_n hx hb dX1_scrape_5 rfl (lv_at hl 0 rfl) ?_
  refine X_gO C0 hK h hin1 0 (by decide) (by decide +kernel) dX1_scrape_6 ?_
  refine L_gL C0 hK h hB hin0 1 (by decide) (by decide +kernel) rfl dX1_scrape_9 ?_
  refine lv_iload_n hx hb dX1_scrape_12 rfl (lv_at hl 1 rfl) ?_
  refine X_aP C0 hK h hB (i := i) rfl (by omega) dX1_scrape_13 ?_
  refine lv_astore_n (lv' := [(2, .ref (za z (1 + 27 * 0 + (13 + i)))), (0, .ref (za z 0)), (1, .int (nI i))]) hx hb dX1_scrape_14 rfl hl (by decide) rfl (fun ls hl => ?_)
  refine lv_aload_n hx hb dX1_scrape_15 rfl (lv_at hl 0 rfl) ?_
  refine lv_iconst (v := 4) hx hb dX1_scrape_16 (by decide) ?_
  refine L_ldP C0 hK h hB (by omega) (k := 4) rfl (by decide) dX1_scrape_17 ?_
  refine lv_istore_n (lv' := [(3, .int (qP S i 4)), (2, .ref (za z (1 + 27 * 0 + (13 + i)))), (0, .ref (za z 0)), (1, .int (nI i))]) hx hb dX1_scrape_18 rfl hl (by decide) rfl (fun ls hl => ?_)
  refine lv_aload_n hx hb dX1_scrape_19 rfl (lv_at hl 1 rfl) ?_
  refine lv_iconst (v := 4) hx hb dX1_scrape_20 (by decide) ?_
  refine lv_iconst (v := 0) hx hb dX1_scrape_21 (by decide) ?_
  refine L_stP C0 hK h hB (by omega) (k := 4) rfl (by decide) dX1_scrape_22 (fun H locs S1 eS1 h => ?_)
  refine lv_iload_n hx hb dX1_scrape_23 rfl (lv_at hl 0 rfl) ?_
  exact G_iret C0 hK h ⟨rfl, congrArg (va_up σ 0) (by subst eS1; rfl)⟩ (Nat.le_of_ble_eq_true rfl) (Nat.le_of_ble_eq_true rfl) dX1_scrape_24
set_option maxHeartbeats 4000000 in
set_option maxRecDepth 100000 in
theorem c_X1_steal_ok (l : Launch) (z : QZ) (σ : Nat → QLs) (S : QLs) (hk : LOk S) (i : Nat) (hi : i < qp S) (x : Int32) (h9 : 0 ≤ x ∧ x ≤ 9) : GI l yX1_steal wsX1_steal ({ frames := 2, cells := 0, slots := 0, locals := 41 } : Room) z [.ref (za z 0), .int (nI i), .int x] 0 0 (XAt z) 0 55 (va_up σ 0 S) (fun r σ' => r = qP S i 9 ∧ σ' = va_up σ 0 (sP S i (upd (qP S i) 9 x))) := by
  intro ct sz hn hq hat
  refine q_entry (lo := 0) (cc := cX1_steal) (maxL := 5) (ret := (some .int)) (by decide) rfl (Nat.le_of_ble_eq_true rfl) hn hq hat ?_
  intro p e s m below meth c ls C0 hK hsz h hl
  subst hsz
  obtain ⟨hx, hb, hr, hml, hown, hts, hlocks⟩ := id C0
  have hB : 0 < 2 := by decide
  have hin0 : ∀ w ∈ u_ws RX0 TX0 5, w ∈ wsX1_steal := by decide +kernel
  have hin1 : ∀ w ∈ u_ws RX1 TX1 2, w ∈ wsX1_steal := by decide +kernel
  have hl : lv_has ls 5 [(0, .ref (za z 0)), (1, .int (nI i)), (2, .int x)] := hl
  have hk1 := hk.1
  have hk2 := hk.2.1
  refine lv_aload_n hx hb dX1_steal_0 rfl (lv_at hl 0 rfl) ?_
  refine lv_iload_n hx hb dX1_steal_1 rfl (lv_at hl 1 rfl) ?_
  refine S_callVv C0 hK h (c_X1_needPipe_ok l z σ S i hi (by omega)) (cwV 1 hts gX1_steal_X1_needPipe rfl rfl rfl (by decide +kernel) ⟨Nat.le_of_ble_eq_true rfl, Nat.le_of_ble_eq_true rfl⟩) (k := 0) (ci := 1) (by omega) (fun ct hA => hA.1) rfl rfl rfl hl.1 (rest := []) rfl (Nat.le_of_ble_eq_true rfl) ⟨Nat.le_of_ble_eq_true rfl, Nat.le_of_ble_eq_true rfl⟩ dX1_steal_2 (fun u H locs hp h => ?_)
  rw [hp] at h
  refine lv_iload_n hx hb dX1_steal_5 rfl (lv_at hl 2 rfl) ?_
  refine lv_iconst (v := 0) hx hb dX1_steal_6 (by decide) ?_
  refine lv_bipush (v := 9) hx hb dX1_steal_7 (by decide) ?_
  refine S_callSi C0 hK h (c_X1_isWithin l z σ S x 0 9) (va_cwS 3 hts gX1_steal_X1_isWithin rfl rfl rfl (by decide +kernel) ⟨Nat.le_of_ble_eq_true rfl, Nat.le_of_ble_eq_true rfl⟩) rfl hl.1 (rest := []) rfl (Nat.le_of_ble_eq_true rfl) ⟨Nat.le_of_ble_eq_true rfl, Nat.le_of_ble_eq_true rfl⟩ dX1_steal_9 (fun r u H locs hp h => ?_)
  obtain ⟨hr9, hu9⟩ := hp
  have hr9 := hr9.trans (if_pos h9)
  subst hr9
  rw [hu9] at h
  refine S_callSv C0 hK h (c_X1_needArgument_ok l z σ S) (va_cwS 1 hts gX1_steal_X1_needArgument rfl rfl rfl (by decide +kernel) ⟨Nat.le_of_ble_eq_true rfl, Nat.le_of_ble_eq_true rfl⟩) rfl hl.1 (rest := []) rfl (Nat.le_of_ble_eq_true rfl) ⟨Nat.le_of_ble_eq_true rfl, Nat.le_of_ble_eq_true rfl⟩ dX1_steal_12 (fun u H locs hp h => ?_)
  rw [hp] at h
  refine lv_aload_n hx hb dX1_steal_15 rfl (lv_at hl 0 rfl) ?_
  refine X_gO C0 hK h hin1 0 (by decide) (by decide +kernel) dX1_steal_16 ?_
  refine L_gL C0 hK h hB hin0 1 (by decide) (by decide +kernel) rfl dX1_steal_19 ?_
  refine lv_iload_n hx hb dX1_steal_22 rfl (lv_at hl 1 rfl) ?_
  refine X_aP C0 hK h hB (i := i) rfl (by omega) dX1_steal_23 ?_
  refine lv_astore_n (lv' := [(3, .ref (za z (1 + 27 * 0 + (13 + i)))), (0, .ref (za z 0)), (1, .int (nI i)), (2, .int x)]) hx hb dX1_steal_24 rfl hl (by decide) rfl (fun ls hl => ?_)
  refine lv_aload_n hx hb dX1_steal_25 rfl (lv_at hl 0 rfl) ?_
  refine lv_bipush (v := 9) hx hb dX1_steal_26 (by decide) ?_
  refine L_ldP C0 hK h hB (by omega) (k := 9) rfl (by decide) dX1_steal_28 ?_
  refine lv_istore (lv' := [(4, .int (qP S i 9)), (3, .ref (za z (1 + 27 * 0 + (13 + i)))), (0, .ref (za z 0)), (1, .int (nI i)), (2, .int x)]) hx hb dX1_steal_29 hl (by decide) rfl (fun ls hl => ?_)
  refine lv_aload_n hx hb dX1_steal_31 rfl (lv_at hl 1 rfl) ?_
  refine lv_bipush (v := 9) hx hb dX1_steal_32 (by decide) ?_
  refine lv_iload_n hx hb dX1_steal_34 rfl (lv_at hl 4 rfl) ?_
  refine L_stP C0 hK h hB (by omega) (k := 9) rfl (by decide) dX1_steal_35 (fun H locs S1 eS1 h => ?_)
  refine lv_iload hx hb dX1_steal_36 (lv_at hl 0 rfl) ?_
  exact G_iret C0 hK h ⟨rfl, congrArg (va_up σ 0) (by subst eS1; rfl)⟩ (Nat.le_of_ble_eq_true rfl) (Nat.le_of_ble_eq_true rfl) dX1_steal_38
set_option maxHeartbeats 4000000 in
set_option maxRecDepth 100000 in
theorem c_X1_tank_ok (l : Launch) (z : QZ) (σ : Nat → QLs) (S : QLs) (hk : LOk S) (i : Nat) (hi : i < qt S) (k : Nat) (hk9 : k < 8) : GI l yX1_tank wsX1_tank ({ frames := 2, cells := 0, slots := 0, locals := 41 } : Room) z [.ref (za z 0), .int (nI i), .int (nI k)] 0 0 (XAt z) 0 55 (va_up σ 0 S) (fun r σ' => r = qT S i k ∧ σ' = va_up σ 0 S) := by
  intro ct sz hn hq hat
  refine q_entry (lo := 0) (cc := cX1_tank) (maxL := 3) (ret := (some .int)) (by decide) rfl (Nat.le_of_ble_eq_true rfl) hn hq hat ?_
  intro p e s m below meth c ls C0 hK hsz h hl
  subst hsz
  obtain ⟨hx, hb, hr, hml, hown, hts, hlocks⟩ := id C0
  have hB : 0 < 2 := by decide
  have hin0 : ∀ w ∈ u_ws RX0 TX0 5, w ∈ wsX1_tank := by decide +kernel
  have hin1 : ∀ w ∈ u_ws RX1 TX1 2, w ∈ wsX1_tank := by decide +kernel
  have hl : lv_has ls 3 [(0, .ref (za z 0)), (1, .int (nI i)), (2, .int (nI k))] := hl
  have hk1 := hk.1
  have hk2 := hk.2.1
  refine lv_aload_n hx hb dX1_tank_0 rfl (lv_at hl 0 rfl) ?_
  refine lv_iload_n hx hb dX1_tank_1 rfl (lv_at hl 1 rfl) ?_
  refine S_callVv C0 hK h (c_X1_needTank_ok l z σ S i hi (by omega)) (cwV 1 hts gX1_tank_X1_needTank rfl rfl rfl (by decide +kernel) ⟨Nat.le_of_ble_eq_true rfl, Nat.le_of_ble_eq_true rfl⟩) (k := 0) (ci := 1) (by omega) (fun ct hA => hA.1) rfl rfl rfl hl.1 (rest := []) rfl (Nat.le_of_ble_eq_true rfl) ⟨Nat.le_of_ble_eq_true rfl, Nat.le_of_ble_eq_true rfl⟩ dX1_tank_2 (fun u H locs hp h => ?_)
  rw [hp] at h
  refine lv_iload_n hx hb dX1_tank_5 rfl (lv_at hl 2 rfl) ?_
  refine lv_iconst (v := 0) hx hb dX1_tank_6 (by decide) ?_
  refine lv_bipush (v := 7) hx hb dX1_tank_7 (by decide) ?_
  refine S_callSi C0 hK h (c_X1_isWithin l z σ S (nI k) 0 7) (va_cwS 3 hts gX1_tank_X1_isWithin rfl rfl rfl (by decide +kernel) ⟨Nat.le_of_ble_eq_true rfl, Nat.le_of_ble_eq_true rfl⟩) rfl hl.1 (rest := []) rfl (Nat.le_of_ble_eq_true rfl) ⟨Nat.le_of_ble_eq_true rfl, Nat.le_of_ble_eq_true rfl⟩ dX1_tank_9 (fun r u H locs hp h => ?_)
  obtain ⟨hr9, hu9⟩ := hp
  have hr9 := hr9.trans (if_pos (q_rng (k := k) 0 7 rfl rfl))
  subst hr9
  rw [hu9] at h
  refine S_callSv C0 hK h (c_X1_needIndex_ok l z σ S) (va_cwS 1 hts gX1_tank_X1_needIndex rfl rfl rfl (by decide +kernel) ⟨Nat.le_of_ble_eq_true rfl, Nat.le_of_ble_eq_true rfl⟩) rfl hl.1 (rest := []) rfl (Nat.le_of_ble_eq_true rfl) ⟨Nat.le_of_ble_eq_true rfl, Nat.le_of_ble_eq_true rfl⟩ dX1_tank_12 (fun u H locs hp h => ?_)
  rw [hp] at h
  refine lv_aload_n hx hb dX1_tank_15 rfl (lv_at hl 0 rfl) ?_
  refine X_gO C0 hK h hin1 0 (by decide) (by decide +kernel) dX1_tank_16 ?_
  refine L_gL C0 hK h hB hin0 0 (by decide) (by decide +kernel) rfl dX1_tank_19 ?_
  refine lv_iload_n hx hb dX1_tank_22 rfl (lv_at hl 1 rfl) ?_
  refine X_aT C0 hK h hB (i := i) rfl (by omega) dX1_tank_23 ?_
  refine lv_iload_n hx hb dX1_tank_24 rfl (lv_at hl 2 rfl) ?_
  refine L_ldT C0 hK h hB (by omega) (k := k) rfl (by omega) dX1_tank_25 ?_
  exact G_iret C0 hK h ⟨rfl, rfl⟩ (Nat.le_of_ble_eq_true rfl) (Nat.le_of_ble_eq_true rfl) dX1_tank_26
set_option maxHeartbeats 4000000 in
set_option maxRecDepth 100000 in
theorem c_X1_pipe_ok (l : Launch) (z : QZ) (σ : Nat → QLs) (S : QLs) (hk : LOk S) (i : Nat) (hi : i < qp S) (k : Nat) (hk9 : k < 9) : GI l yX1_pipe wsX1_pipe ({ frames := 3, cells := 0, slots := 0, locals := 68 } : Room) z [.ref (za z 0), .int (nI i), .int (nI k)] 0 0 (XAt z) 0 55 (va_up σ 0 S) (fun r σ' => r = ofPipeL S i k ∧ σ' = va_up σ 0 S) := by
  intro ct sz hn hq hat
  refine q_entry (lo := 0) (cc := cX1_pipe) (maxL := 3) (ret := (some .int)) (by decide) rfl (Nat.le_of_ble_eq_true rfl) hn hq hat ?_
  intro p e s m below meth c ls C0 hK hsz h hl
  subst hsz
  obtain ⟨hx, hb, hr, hml, hown, hts, hlocks⟩ := id C0
  have hB : 0 < 2 := by decide
  have hin1 : ∀ w ∈ u_ws RX1 TX1 2, w ∈ wsX1_pipe := by decide +kernel
  have hl : lv_has ls 3 [(0, .ref (za z 0)), (1, .int (nI i)), (2, .int (nI k))] := hl
  have hk1 := hk.1
  have hk2 := hk.2.1
  refine lv_aload_n hx hb dX1_pipe_0 rfl (lv_at hl 0 rfl) ?_
  refine lv_iload_n hx hb dX1_pipe_1 rfl (lv_at hl 1 rfl) ?_
  refine S_callVv C0 hK h (c_X1_needPipe_ok l z σ S i hi (by omega)) (cwV 1 hts gX1_pipe_X1_needPipe rfl rfl rfl (by decide +kernel) ⟨Nat.le_of_ble_eq_true rfl, Nat.le_of_ble_eq_true rfl⟩) (k := 0) (ci := 1) (by omega) (fun ct hA => hA.1) rfl rfl rfl hl.1 (rest := []) rfl (Nat.le_of_ble_eq_true rfl) ⟨Nat.le_of_ble_eq_true rfl, Nat.le_of_ble_eq_true rfl⟩ dX1_pipe_2 (fun u H locs hp h => ?_)
  rw [hp] at h
  refine lv_iload_n hx hb dX1_pipe_5 rfl (lv_at hl 2 rfl) ?_
  refine lv_iconst (v := 0) hx hb dX1_pipe_6 (by decide) ?_
  refine lv_bipush (v := 8) hx hb dX1_pipe_7 (by decide) ?_
  refine S_callSi C0 hK h (c_X1_isWithin l z σ S (nI k) 0 8) (va_cwS 3 hts gX1_pipe_X1_isWithin rfl rfl rfl (by decide +kernel) ⟨Nat.le_of_ble_eq_true rfl, Nat.le_of_ble_eq_true rfl⟩) rfl hl.1 (rest := []) rfl (Nat.le_of_ble_eq_true rfl) ⟨Nat.le_of_ble_eq_true rfl, Nat.le_of_ble_eq_true rfl⟩ dX1_pipe_9 (fun r u H locs hp h => ?_)
  obtain ⟨hr9, hu9⟩ := hp
  have hr9 := hr9.trans (if_pos (q_rng (k := k) 0 8 rfl rfl))
  subst hr9
  rw [hu9] at h
  refine S_callSv C0 hK h (c_X1_needIndex_ok l z σ S) (va_cwS 1 hts gX1_pipe_X1_needIndex rfl rfl rfl (by decide +kernel) ⟨Nat.le_of_ble_eq_true rfl, Nat.le_of_ble_eq_true rfl⟩) rfl hl.1 (rest := []) rfl (Nat.le_of_ble_eq_true rfl) ⟨Nat.le_of_ble_eq_true rfl, Nat.le_of_ble_eq_true rfl⟩ dX1_pipe_12 (fun u H locs hp h => ?_)
  rw [hp] at h
  refine lv_aload_n hx hb dX1_pipe_15 rfl (lv_at hl 0 rfl) ?_
  refine X_gO C0 hK h hin1 0 (by decide) (by decide +kernel) dX1_pipe_16 ?_
  refine lv_iload_n hx hb dX1_pipe_19 rfl (lv_at hl 1 rfl) ?_
  refine lv_iload_n hx hb dX1_pipe_20 rfl (lv_at hl 2 rfl) ?_
  refine S_callVi C0 hK h (c_X0_ofPipe l z σ 0 hB S hk i hi k (by omega)) (cwV 2 hts gX1_pipe_X0_ofPipe rfl rfl rfl (by decide +kernel) ⟨Nat.le_of_ble_eq_true rfl, Nat.le_of_ble_eq_true rfl⟩) (k := 1 + 27 * 0) (ci := 0) (by omega) (fun ct hA => (hA.2 0 (by decide)).1) rfl rfl rfl hl.1 (rest := []) rfl (Nat.le_of_ble_eq_true rfl) ⟨Nat.le_of_ble_eq_true rfl, Nat.le_of_ble_eq_true rfl⟩ dX1_pipe_21 (fun r u H locs hp h => ?_)
  obtain ⟨rfl, hu9⟩ := hp
  rw [hu9] at h
  exact G_iret C0 hK h ⟨rfl, rfl⟩ (Nat.le_of_ble_eq_true rfl) (Nat.le_of_ble_eq_true rfl) dX1_pipe_24
set_option maxHeartbeats 4000000 in
set_option maxRecDepth 100000 in
theorem c_X1_count_ok (l : Launch) (z : QZ) (σ : Nat → QLs) (S : QLs) (hk : LOk S) (k : Nat) (hk9 : k ≤ 8) : GI l yX1_count wsX1_count ({ frames := 3, cells := 0, slots := 0, locals := 64 } : Room) z [.ref (za z 0), .int (nI k)] 0 0 (XAt z) 0 55 (va_up σ 0 S) (fun r σ' => r = ofAllL S k ∧ σ' = va_up σ 0 S) := by
  intro ct sz hn hq hat
  refine q_entry (lo := 0) (cc := cX1_count) (maxL := 2) (ret := (some .int)) (by decide) rfl (Nat.le_of_ble_eq_true rfl) hn hq hat ?_
  intro p e s m below meth c ls C0 hK hsz h hl
  subst hsz
  obtain ⟨hx, hb, hr, hml, hown, hts, hlocks⟩ := id C0
  have hB : 0 < 2 := by decide
  have hin1 : ∀ w ∈ u_ws RX1 TX1 2, w ∈ wsX1_count := by decide +kernel
  have hl : lv_has ls 2 [(0, .ref (za z 0)), (1, .int (nI k))] := hl
  have hk1 := hk.1
  have hk2 := hk.2.1
  refine lv_iload_n hx hb dX1_count_0 rfl (lv_at hl 1 rfl) ?_
  refine lv_iconst (v := 0) hx hb dX1_count_1 (by decide) ?_
  refine lv_bipush (v := 8) hx hb dX1_count_2 (by decide) ?_
  refine S_callSi C0 hK h (c_X1_isWithin l z σ S (nI k) 0 8) (va_cwS 3 hts gX1_count_X1_isWithin rfl rfl rfl (by decide +kernel) ⟨Nat.le_of_ble_eq_true rfl, Nat.le_of_ble_eq_true rfl⟩) rfl hl.1 (rest := []) rfl (Nat.le_of_ble_eq_true rfl) ⟨Nat.le_of_ble_eq_true rfl, Nat.le_of_ble_eq_true rfl⟩ dX1_count_4 (fun r u H locs hp h => ?_)
  obtain ⟨hr9, hu9⟩ := hp
  have hr9 := hr9.trans (if_pos (q_rng (k := k) 0 8 rfl rfl))
  subst hr9
  rw [hu9] at h
  refine S_callSv C0 hK h (c_X1_needIndex_ok l z σ S) (va_cwS 1 hts gX1_count_X1_needIndex rfl rfl rfl (by decide +kernel) ⟨Nat.le_of_ble_eq_true rfl, Nat.le_of_ble_eq_true rfl⟩) rfl hl.1 (rest := []) rfl (Nat.le_of_ble_eq_true rfl) ⟨Nat.le_of_ble_eq_true rfl, Nat.le_of_ble_eq_true rfl⟩ dX1_count_7 (fun u H locs hp h => ?_)
  rw [hp] at h
  refine lv_aload_n hx hb dX1_count_10 rfl (lv_at hl 0 rfl) ?_
  refine X_gO C0 hK h hin1 0 (by decide) (by decide +kernel) dX1_count_11 ?_
  refine lv_iload_n hx hb dX1_count_14 rfl (lv_at hl 1 rfl) ?_
  refine S_callVi C0 hK h (c_X0_ofAll l z σ 0 hB S hk k (by omega)) (cwV 1 hts gX1_count_X0_ofAll rfl rfl rfl (by decide +kernel) ⟨Nat.le_of_ble_eq_true rfl, Nat.le_of_ble_eq_true rfl⟩) (k := 1 + 27 * 0) (ci := 0) (by omega) (fun ct hA => (hA.2 0 (by decide)).1) rfl rfl rfl hl.1 (rest := []) rfl (Nat.le_of_ble_eq_true rfl) ⟨Nat.le_of_ble_eq_true rfl, Nat.le_of_ble_eq_true rfl⟩ dX1_count_15 (fun r u H locs hp h => ?_)
  obtain ⟨rfl, hu9⟩ := hp
  rw [hu9] at h
  exact G_iret C0 hK h ⟨rfl, rfl⟩ (Nat.le_of_ble_eq_true rfl) (Nat.le_of_ble_eq_true rfl) dX1_count_18
set_option maxHeartbeats 4000000 in
set_option maxRecDepth 100000 in
theorem c_X1_reach_ok (l : Launch) (z : QZ) (σ : Nat → QLs) (S : QLs) (hk : LOk S) (i : Nat) (hi : i < qt S) : GI l yX1_reach wsX1_reach ({ frames := 2, cells := 0, slots := 0, locals := 41 } : Room) z [.ref (za z 0), .int (nI i)] 0 0 (XAt z) 0 55 (va_up σ 0 S) (fun r σ' => r = reachL S (nI i) ∧ σ' = va_up σ 0 S) := by
  intro ct sz hn hq hat
  refine q_entry (lo := 0) (cc := cX1_reach) (maxL := 2) (ret := (some .int)) (by decide) rfl (Nat.le_of_ble_eq_true rfl) hn hq hat ?_
  intro p e s m below meth c ls C0 hK hsz h hl
  subst hsz
  obtain ⟨hx, hb, hr, hml, hown, hts, hlocks⟩ := id C0
  have hB : 0 < 2 := by decide
  have hin1 : ∀ w ∈ u_ws RX1 TX1 2, w ∈ wsX1_reach := by decide +kernel
  have hl : lv_has ls 2 [(0, .ref (za z 0)), (1, .int (nI i))] := hl
  have hk1 := hk.1
  have hk2 := hk.2.1
  refine lv_aload_n hx hb dX1_reach_0 rfl (lv_at hl 0 rfl) ?_
  refine lv_iload_n hx hb dX1_reach_1 rfl (lv_at hl 1 rfl) ?_
  refine S_callVv C0 hK h (c_X1_needTank_ok l z σ S i hi (by omega)) (cwV 1 hts gX1_reach_X1_needTank rfl rfl rfl (by decide +kernel) ⟨Nat.le_of_ble_eq_true rfl, Nat.le_of_ble_eq_true rfl⟩) (k := 0) (ci := 1) (by omega) (fun ct hA => hA.1) rfl rfl rfl hl.1 (rest := []) rfl (Nat.le_of_ble_eq_true rfl) ⟨Nat.le_of_ble_eq_true rfl, Nat.le_of_ble_eq_true rfl⟩ dX1_reach_2 (fun u H locs hp h => ?_)
  rw [hp] at h
  refine lv_aload_n hx hb dX1_reach_5 rfl (lv_at hl 0 rfl) ?_
  refine X_gO C0 hK h hin1 0 (by decide) (by decide +kernel) dX1_reach_6 ?_
  refine lv_iload_n hx hb dX1_reach_9 rfl (lv_at hl 1 rfl) ?_
  refine S_callVi C0 hK h (c_X0_reachedFrom l z σ 0 hB S hk (nI i)) (cwV 1 hts gX1_reach_X0_reachedFrom rfl rfl rfl (by decide +kernel) ⟨Nat.le_of_ble_eq_true rfl, Nat.le_of_ble_eq_true rfl⟩) (k := 1 + 27 * 0) (ci := 0) (by omega) (fun ct hA => (hA.2 0 (by decide)).1) rfl rfl rfl hl.1 (rest := []) rfl (Nat.le_of_ble_eq_true rfl) ⟨Nat.le_of_ble_eq_true rfl, Nat.le_of_ble_eq_true rfl⟩ dX1_reach_10 (fun r u H locs hp h => ?_)
  obtain ⟨rfl, hu9⟩ := hp
  rw [hu9] at h
  exact G_iret C0 hK h ⟨rfl, rfl⟩ (Nat.le_of_ble_eq_true rfl) (Nat.le_of_ble_eq_true rfl) dX1_reach_13
set_option maxHeartbeats 4000000 in
set_option maxRecDepth 100000 in
theorem c_X1_pass_ok (l : Launch) (z : QZ) (σ : Nat → QLs) (S : QLs) (hk : LOk S) (n : Nat) (h1 : 1 ≤ n) (h2 : n ≤ 100) : GI l yX1_pass wsX1_pass ({ frames := 6, cells := 0, slots := 0, locals := 129 } : Room) z [.ref (za z 0), .int (nI n)] 0 0 (XAt z) 0 55 (va_up σ 0 S) (fun r σ' => r = sumT (itN dayF n S) 6 - sumT S 6 ∧ σ' = va_up σ 0 (itN dayF n S)) := by
  intro ct sz hn hq hat
  refine q_entry (lo := 0) (cc := cX1_pass) (maxL := 2) (ret := (some .int)) (by decide) rfl (Nat.le_of_ble_eq_true rfl) hn hq hat ?_
  intro p e s m below meth c ls C0 hK hsz h hl
  subst hsz
  obtain ⟨hx, hb, hr, hml, hown, hts, hlocks⟩ := id C0
  have hB : 0 < 2 := by decide
  have hin1 : ∀ w ∈ u_ws RX1 TX1 2, w ∈ wsX1_pass := by decide +kernel
  have hl : lv_has ls 2 [(0, .ref (za z 0)), (1, .int (nI n))] := hl
  have hk1 := hk.1
  have hk2 := hk.2.1
  refine lv_iload_n hx hb dX1_pass_0 rfl (lv_at hl 1 rfl) ?_
  refine lv_iconst (v := 1) hx hb dX1_pass_1 (by decide) ?_
  refine lv_bipush (v := 100) hx hb dX1_pass_2 (by decide) ?_
  refine S_callSi C0 hK h (c_X1_isWithin l z σ S (nI n) 1 100) (va_cwS 3 hts gX1_pass_X1_isWithin rfl rfl rfl (by decide +kernel) ⟨Nat.le_of_ble_eq_true rfl, Nat.le_of_ble_eq_true rfl⟩) rfl hl.1 (rest := []) rfl (Nat.le_of_ble_eq_true rfl) ⟨Nat.le_of_ble_eq_true rfl, Nat.le_of_ble_eq_true rfl⟩ dX1_pass_4 (fun r u H locs hp h => ?_)
  obtain ⟨hr9, hu9⟩ := hp
  have hr9 := hr9.trans (if_pos (q_rng (k := n) 1 100 rfl rfl))
  subst hr9
  rw [hu9] at h
  refine S_callSv C0 hK h (c_X1_needArgument_ok l z σ S) (va_cwS 1 hts gX1_pass_X1_needArgument rfl rfl rfl (by decide +kernel) ⟨Nat.le_of_ble_eq_true rfl, Nat.le_of_ble_eq_true rfl⟩) rfl hl.1 (rest := []) rfl (Nat.le_of_ble_eq_true rfl) ⟨Nat.le_of_ble_eq_true rfl, Nat.le_of_ble_eq_true rfl⟩ dX1_pass_7 (fun u H locs hp h => ?_)
  rw [hp] at h
  refine lv_aload_n hx hb dX1_pass_10 rfl (lv_at hl 0 rfl) ?_
  refine X_gO C0 hK h hin1 0 (by decide) (by decide +kernel) dX1_pass_11 ?_
  refine lv_iload_n hx hb dX1_pass_14 rfl (lv_at hl 1 rfl) ?_
  refine S_callVi C0 hK h (c_X0_drunkIn l z σ 0 hB S hk n (by omega)) (cwV 1 hts gX1_pass_X0_drunkIn rfl rfl rfl (by decide +kernel) ⟨Nat.le_of_ble_eq_true rfl, Nat.le_of_ble_eq_true rfl⟩) (k := 1 + 27 * 0) (ci := 0) (by omega) (fun ct hA => (hA.2 0 (by decide)).1) rfl rfl rfl hl.1 (rest := []) rfl (Nat.le_of_ble_eq_true rfl) ⟨Nat.le_of_ble_eq_true rfl, Nat.le_of_ble_eq_true rfl⟩ dX1_pass_15 (fun r u H locs hp h => ?_)
  obtain ⟨rfl, hp⟩ := hp
  obtain ⟨S1, eS1⟩ : ∃ z9, z9 = itN dayF n S := ⟨_, rfl⟩
  rw [hp, ← eS1] at h
  exact G_iret C0 hK h ⟨rfl, congrArg (va_up σ 0) (by subst eS1; rfl)⟩ (Nat.le_of_ble_eq_true rfl) (Nat.le_of_ble_eq_true rfl) dX1_pass_18
