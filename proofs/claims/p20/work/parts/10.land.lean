set_option maxHeartbeats 4000000 in
set_option maxRecDepth 100000 in
theorem c_X0_flowThrough (l : Launch) (z : QZ) (σ : Nat → QLs) (b : Nat) (hB : b < 2) (S : QLs) (hk : LOk S) (k : Nat) (hkp : k < qp S) : GV l yX0_flowThrough wsX0_flowThrough ({ frames := 3, cells := 0, slots := 0, locals := 59 } : Room) z [.ref (za z (1 + 27 * b)), .int (nI k)] 0 0 (XAt z) 0 55 (va_up σ b S) (fun σ' => σ' = va_up σ b (flowL S k)) := by
  intro ct sz hn hq hat
  refine q_entry (lo := 0) (cc := cX0_flowThrough) (maxL := 7) (ret := none) (by decide) rfl (Nat.le_of_ble_eq_true rfl) hn hq hat ?_
  intro p e s m below meth c ls C0 hK hsz h hl
  subst hsz
  obtain ⟨hx, hb, hr, hml, hown, hts, hlocks⟩ := id C0
  have hin0 : ∀ w ∈ u_ws RX0 TX0 5, w ∈ wsX0_flowThrough := by decide +kernel
  have hl : lv_has ls 7 [(0, .ref (za z (1 + 27 * b))), (1, .int (nI k))] := hl
  have hk1 := hk.1
  have hk2 := hk.2.1
  obtain ⟨hk3, hk4, hk5, hF0, hF1⟩ := hk.2.2 k hkp
  have hk6 : k < 14 := by omega
  have hk7 : qf S k < 10 := by omega
  have hk8 : qo S k < 10 := by omega
  refine lv_aload_n hx hb dX0_flowThrough_0 rfl (lv_at hl 0 rfl) ?_
  refine L_gL C0 hK h hB hin0 1 (by decide) (by decide +kernel) rfl dX0_flowThrough_1 ?_
  refine lv_iload_n hx hb dX0_flowThrough_4 rfl (lv_at hl 1 rfl) ?_
  refine X_aP C0 hK h hB (i := k) rfl (by omega) dX0_flowThrough_5 ?_
  refine lv_astore_n (lv' := [(2, .ref (za z (1 + 27 * b + (13 + k)))), (0, .ref (za z (1 + 27 * b))), (1, .int (nI k))]) hx hb dX0_flowThrough_6 rfl hl (by decide) rfl (fun ls hl => ?_)
  refine lv_aload_n hx hb dX0_flowThrough_7 rfl (lv_at hl 1 rfl) ?_
  refine L_gL C0 hK h hB hin0 0 (by decide) (by decide +kernel) rfl dX0_flowThrough_8 ?_
  refine lv_aload_n hx hb dX0_flowThrough_11 rfl (lv_at hl 0 rfl) ?_
  refine lv_iconst (v := 0) hx hb dX0_flowThrough_12 (by decide) ?_
  refine L_ldP C0 hK h hB (by omega) (k := 0) rfl (by decide) dX0_flowThrough_13 ?_
  refine X_aT C0 hK h hB (i := qf S k) hF0 (by omega) dX0_flowThrough_14 ?_
  refine lv_astore_n (lv' := [(3, .ref (za z (1 + 27 * b + (3 + (qf S k))))), (2, .ref (za z (1 + 27 * b + (13 + k)))), (0, .ref (za z (1 + 27 * b))), (1, .int (nI k))]) hx hb dX0_flowThrough_15 rfl hl (by decide) rfl (fun ls hl => ?_)
  refine lv_aload_n hx hb dX0_flowThrough_16 rfl (lv_at hl 2 rfl) ?_
  refine L_gL C0 hK h hB hin0 0 (by decide) (by decide +kernel) rfl dX0_flowThrough_17 ?_
  refine lv_aload_n hx hb dX0_flowThrough_20 rfl (lv_at hl 1 rfl) ?_
  refine lv_iconst (v := 1) hx hb dX0_flowThrough_21 (by decide) ?_
  refine L_ldP C0 hK h hB (by omega) (k := 1) rfl (by decide) dX0_flowThrough_22 ?_
  refine X_aT C0 hK h hB (i := qo S k) hF1 (by omega) dX0_flowThrough_23 ?_
  refine lv_astore (lv' := [(4, .ref (za z (1 + 27 * b + (3 + (qo S k))))), (3, .ref (za z (1 + 27 * b + (3 + (qf S k))))), (2, .ref (za z (1 + 27 * b + (13 + k)))), (0, .ref (za z (1 + 27 * b))), (1, .int (nI k))]) hx hb dX0_flowThrough_24 hl (by decide) rfl (fun ls hl => ?_)
  refine lv_aload_n hx hb dX0_flowThrough_26 rfl (lv_at hl 3 rfl) ?_
  refine lv_iload_n hx hb dX0_flowThrough_27 rfl (lv_at hl 4 rfl) ?_
  refine S_callVi C0 hK h (c_X0_whatCanFlow l z σ b hB S hk k hkp) (cwV 1 hts gX0_flowThrough_X0_whatCanFlow rfl rfl rfl (by decide +kernel) ⟨Nat.le_of_ble_eq_true rfl, Nat.le_of_ble_eq_true rfl⟩) (k := 1 + 27 * b) (ci := 0) (by omega) (fun ct hA => (hA.2 b hB).1) rfl rfl rfl hl.1 (rest := []) rfl (Nat.le_of_ble_eq_true rfl) ⟨Nat.le_of_ble_eq_true rfl, Nat.le_of_ble_eq_true rfl⟩ dX0_flowThrough_28 (fun r u H locs hp h => ?_)
  obtain ⟨rfl, rfl⟩ := hp
  refine lv_istore (lv' := [(5, .int (canF S k)), (4, .ref (za z (1 + 27 * b + (3 + (qo S k))))), (3, .ref (za z (1 + 27 * b + (3 + (qf S k))))), (2, .ref (za z (1 + 27 * b + (13 + k)))), (0, .ref (za z (1 + 27 * b))), (1, .int (nI k))]) hx hb dX0_flowThrough_31 hl (by decide) rfl (fun ls hl => ?_)
  refine lv_aload_n hx hb dX0_flowThrough_33 rfl (lv_at hl 3 rfl) ?_
  refine lv_bipush (v := 9) hx hb dX0_flowThrough_34 (by decide) ?_
  refine L_ldP C0 hK h hB (by omega) (k := 9) rfl (by decide) dX0_flowThrough_36 ?_
  refine lv_iload hx hb dX0_flowThrough_37 (lv_at hl 0 rfl) ?_
  refine G_mmin C0 hl.1 (by decide +kernel) (by decide +kernel) (by decide +kernel) (by decide +kernel) ⟨Nat.le_of_ble_eq_true rfl, Nat.le_of_ble_eq_true rfl, Nat.le_of_ble_eq_true rfl, Nat.le_of_ble_eq_true rfl⟩ dX0_flowThrough_39 ?_
  refine lv_istore (lv' := [(6, .int (qmin (qP S k 9) (canF S k))), (5, .int (canF S k)), (4, .ref (za z (1 + 27 * b + (3 + (qo S k))))), (3, .ref (za z (1 + 27 * b + (3 + (qf S k))))), (2, .ref (za z (1 + 27 * b + (13 + k)))), (0, .ref (za z (1 + 27 * b))), (1, .int (nI k))]) hx hb dX0_flowThrough_42 hl (by decide) rfl (fun ls hl => ?_)
  refine lv_aload_n hx hb dX0_flowThrough_44 rfl (lv_at hl 3 rfl) ?_
  refine lv_aload hx hb dX0_flowThrough_45 (lv_at hl 2 rfl) ?_
  refine lv_iload hx hb dX0_flowThrough_47 (lv_at hl 1 rfl) ?_
  refine S_callSv C0 hK h (c_X0_wanderMud l z σ b hB S (qf S k) (by omega) (qo S k) (by omega) (canF S k)) (va_cwS 3 hts gX0_flowThrough_X0_wanderMud rfl rfl rfl (by decide +kernel) ⟨Nat.le_of_ble_eq_true rfl, Nat.le_of_ble_eq_true rfl⟩) rfl hl.1 (rest := []) rfl (Nat.le_of_ble_eq_true rfl) ⟨Nat.le_of_ble_eq_true rfl, Nat.le_of_ble_eq_true rfl⟩ dX0_flowThrough_49 (fun u H locs hp h => ?_)
  obtain ⟨S1, eS1⟩ : ∃ z9, z9 = wander S (qf S k) (qo S k) (canF S k) := ⟨_, rfl⟩
  rw [← eS1] at hp
  subst hp
  refine lv_aload_n hx hb dX0_flowThrough_52 rfl (lv_at hl 3 rfl) ?_
  refine lv_iconst (v := 3) hx hb dX0_flowThrough_53 (by decide) ?_
  refine lv_dup2_11 hx hb dX0_flowThrough_54 rfl rfl ?_
  refine L_ldT C0 hK h hB (by omega) (k := 3) rfl (by decide) dX0_flowThrough_55 ?_
  refine lv_iload hx hb dX0_flowThrough_56 (lv_at hl 1 rfl) ?_
  refine lv_isub hx hb dX0_flowThrough_58 ?_
  refine L_stT C0 hK h hB (by omega) (k := 3) rfl (by decide) dX0_flowThrough_59 (fun H locs S2 eS2 h => ?_)
  refine lv_aload hx hb dX0_flowThrough_60 (lv_at hl 2 rfl) ?_
  refine lv_iload hx hb dX0_flowThrough_62 (lv_at hl 1 rfl) ?_
  refine lv_iload hx hb dX0_flowThrough_64 (lv_at hl 0 rfl) ?_
  refine lv_isub hx hb dX0_flowThrough_66 ?_
  refine S_callSv C0 hK h (c_X0_takeInWater l z σ b hB S2 (qo S k) (by omega) ((canF S k) - (qmin (qP S k 9) (canF S k)))) (va_cwS 2 hts gX0_flowThrough_X0_takeInWater rfl rfl rfl (by decide +kernel) ⟨Nat.le_of_ble_eq_true rfl, Nat.le_of_ble_eq_true rfl⟩) rfl hl.1 (rest := []) rfl (Nat.le_of_ble_eq_true rfl) ⟨Nat.le_of_ble_eq_true rfl, Nat.le_of_ble_eq_true rfl⟩ dX0_flowThrough_67 (fun u H locs hp h => ?_)
  obtain ⟨S3, eS3⟩ : ∃ z9, z9 = sT S2 (qo S k) (takeW (qT S2 (qo S k)) ((canF S k) - (qmin (qP S k 9) (canF S k)))) := ⟨_, rfl⟩
  rw [← eS3] at hp
  subst hp
  refine lv_aload_n hx hb dX0_flowThrough_70 rfl (lv_at hl 4 rfl) ?_
  refine lv_iconst (v := 5) hx hb dX0_flowThrough_71 (by decide) ?_
  refine lv_iload hx hb dX0_flowThrough_72 (lv_at hl 1 rfl) ?_
  refine L_stP C0 hK h hB (by omega) (k := 5) rfl (by decide) dX0_flowThrough_74 (fun H locs S4 eS4 h => ?_)
  refine lv_aload_n hx hb dX0_flowThrough_75 rfl (lv_at hl 4 rfl) ?_
  refine lv_bipush (v := 6) hx hb dX0_flowThrough_76 (by decide) ?_
  refine lv_iload hx hb dX0_flowThrough_78 (lv_at hl 0 rfl) ?_
  refine L_stP C0 hK h hB (by omega) (k := 6) rfl (by decide) dX0_flowThrough_80 (fun H locs S5 eS5 h => ?_)
  refine lv_aload_n hx hb dX0_flowThrough_81 rfl (lv_at hl 4 rfl) ?_
  refine lv_bipush (v := 7) hx hb dX0_flowThrough_82 (by decide) ?_
  refine lv_dup2_11 hx hb dX0_flowThrough_84 rfl rfl ?_
  refine L_ldP C0 hK h hB (by omega) (k := 7) rfl (by decide) dX0_flowThrough_85 ?_
  refine lv_iload hx hb dX0_flowThrough_86 (lv_at hl 0 rfl) ?_
  refine lv_iadd hx hb dX0_flowThrough_88 ?_
  refine L_stP C0 hK h hB (by omega) (k := 7) rfl (by decide) dX0_flowThrough_89 (fun H locs S6 eS6 h => ?_)
  exact G_vret C0 hK h (congrArg (va_up σ b) (by subst eS6 eS5 eS4 eS3 eS2 eS1; rfl)) (Nat.le_of_ble_eq_true rfl) (Nat.le_of_ble_eq_true rfl) dX0_flowThrough_90
set_option maxHeartbeats 4000000 in
set_option maxRecDepth 100000 in
theorem c_X0_goThroughDay (l : Launch) (z : QZ) (σ : Nat → QLs) (b : Nat) (hB : b < 2) (S : QLs) (hk : LOk S) : GV l yX0_goThroughDay wsX0_goThroughDay ({ frames := 4, cells := 0, slots := 0, locals := 85 } : Room) z [.ref (za z (1 + 27 * b))] 0 0 (XAt z) 0 55 (va_up σ b S) (fun σ' => σ' = va_up σ b (dayL S)) := by
  intro ct sz hn hq hat
  refine q_entry (lo := 0) (cc := cX0_goThroughDay) (maxL := 2) (ret := none) (by decide) rfl (Nat.le_of_ble_eq_true rfl) hn hq hat ?_
  intro p e s m below meth c ls C0 hK hsz h hl
  subst hsz
  obtain ⟨hx, hb, hr, hml, hown, hts, hlocks⟩ := id C0
  have hin0 : ∀ w ∈ u_ws RX0 TX0 5, w ∈ wsX0_goThroughDay := by decide +kernel
  have hl : lv_has ls 2 [(0, .ref (za z (1 + 27 * b)))] := hl
  have hk1 := hk.1
  have hk2 := hk.2.1
  have L61 : ∀ (Sb : QLs) (hkb : LOk Sb) (hq9 : sD (itN drinkF (qt Sb) Sb) (qD (itN drinkF (qt Sb) Sb) + 1) = dayL S) (d i : Nat), i + d = qt Sb → ∀ (H : Heap) (locs : List Loc) (ls : Array Slot), GW z (XAt z) 0 55 s.heap ct (va_up σ b (itN drinkF i Sb)) H locs → lv_has ls 2 [(1, .int (nI i)), (0, .ref (za z (1 + 27 * b)))] → W p l e ({ frames := 4, cells := 0, slots := 0, locals := 85 } : Room) s m [.ref (za z (1 + 27 * b))].toArray below meth c H locs 0 0 (EV z (XAt z) 0 55 ct s below [.ref (za z (1 + 27 * b))] 0 0 (fun σ' => σ' = va_up σ b (dayL S))) (F0 m 61 ls []) := by
    intro Sb hkb hq9 d
    induction d with
    | zero =>
      intro i hdi H locs ls h hl
      have hEi : i = qt Sb := by omega
      have hkc := hkb.1
      obtain ⟨S1, eS1⟩ : ∃ z9, z9 = itN drinkF i Sb := ⟨_, rfl⟩
      rw [← eS1] at h
      have hs9 : Shp Sb S1 := by rw [eS1]; exact shp_it (f := drinkF) (fun _ _ => shp_sT) Sb i
      have hs1 := hs9.1
      have hs2 := hs9.2.1
      have hk9 := hs9.ok hkb
      refine lv_iload_n hx hb dX0_goThroughDay_61 rfl (lv_at hl 0 rfl) ?_
      refine lv_aload_n hx hb dX0_goThroughDay_62 rfl (lv_at hl 1 rfl) ?_
      refine L_gL C0 hK h hB hin0 2 (by decide) (by decide +kernel) rfl dX0_goThroughDay_63 ?_
      refine lv_icmp_ge (tgt := 84) hx hb dX0_goThroughDay_66 (by decide) (fun _ => ?_) (fun q9 => absurd (nI_le (by omega) (by omega)) q9)
      refine lv_aload_n hx hb dX0_goThroughDay_84 rfl (lv_at hl 1 rfl) ?_
      refine lv_dup hx hb dX0_goThroughDay_85 rfl ?_
      refine L_gL C0 hK h hB hin0 4 (by decide) (by decide +kernel) rfl dX0_goThroughDay_86 ?_
      refine lv_iconst (v := 1) hx hb dX0_goThroughDay_89 (by decide) ?_
      refine lv_iadd hx hb dX0_goThroughDay_90 ?_
      refine L_pd C0 hK h hB hin0 (by decide +kernel) dX0_goThroughDay_91 (fun H locs S2 eS2 h => ?_)
      exact G_vret C0 hK h (congrArg (va_up σ b) (by subst eS2; rw [← hq9, eS1, hEi])) (Nat.le_of_ble_eq_true rfl) (Nat.le_of_ble_eq_true rfl) dX0_goThroughDay_94
    | succ d ihL61 =>
      intro i hdi H locs ls h hl
      have hEi : i < qt Sb := by omega
      have hkc := hkb.1
      obtain ⟨S3, eS3⟩ : ∃ z9, z9 = itN drinkF i Sb := ⟨_, rfl⟩
      rw [← eS3] at h
      have hs9 : Shp Sb S3 := by rw [eS3]; exact shp_it (f := drinkF) (fun _ _ => shp_sT) Sb i
      have hs1 := hs9.1
      have hs2 := hs9.2.1
      have hk9 := hs9.ok hkb
      refine lv_iload_n hx hb dX0_goThroughDay_61 rfl (lv_at hl 0 rfl) ?_
      refine lv_aload_n hx hb dX0_goThroughDay_62 rfl (lv_at hl 1 rfl) ?_
      refine L_gL C0 hK h hB hin0 2 (by decide) (by decide +kernel) rfl dX0_goThroughDay_63 ?_
      refine lv_icmp_ge (tgt := 84) hx hb dX0_goThroughDay_66 (by decide) (fun q9 => absurd q9 (nI_ge (by omega) (by omega))) (fun _ => ?_)
      refine lv_aload_n hx hb dX0_goThroughDay_69 rfl (lv_at hl 1 rfl) ?_
      refine L_gL C0 hK h hB hin0 0 (by decide) (by decide +kernel) rfl dX0_goThroughDay_70 ?_
      refine lv_iload_n hx hb dX0_goThroughDay_73 rfl (lv_at hl 0 rfl) ?_
      refine X_aT C0 hK h hB (i := i) rfl (by omega) dX0_goThroughDay_74 ?_
      refine S_callSv C0 hK h (c_X0_drinkFrom l z σ b hB S3 i (by omega)) (va_cwS 1 hts gX0_goThroughDay_X0_drinkFrom rfl rfl rfl (by decide +kernel) ⟨Nat.le_of_ble_eq_true rfl, Nat.le_of_ble_eq_true rfl⟩) rfl hl.1 (rest := []) rfl (Nat.le_of_ble_eq_true rfl) ⟨Nat.le_of_ble_eq_true rfl, Nat.le_of_ble_eq_true rfl⟩ dX0_goThroughDay_75 (fun u H locs hp h => ?_)
      obtain ⟨S4, eS4⟩ : ∃ z9, z9 = sT S3 i (drinkR (qT S3 i)) := ⟨_, rfl⟩
      rw [← eS4] at hp
      subst hp
      refine lv_iinc (v := nI (i + 1)) (lv' := [(1, .int (nI (i + 1))), (0, .ref (za z (1 + 27 * b)))]) hx hb dX0_goThroughDay_78 hl (k := 0) rfl (q_inc i 1) (by decide) rfl (fun ls hl => ?_)
      refine lv_goto (tgt := 61) hx hb dX0_goThroughDay_81 (by decide) ?_
      exact ihL61 (i + 1) (by omega) _ _ _ (by subst eS4; rw [eS3] at h; exact h) (lv_sub hl [0, 1] rfl)
  have L27 : ∀ (Sb : QLs) (hkb : LOk Sb) (hq9 : Sb = itN feedF (qt S) S) (d i : Nat), i + d = qp Sb → ∀ (H : Heap) (locs : List Loc) (ls : Array Slot), GW z (XAt z) 0 55 s.heap ct (va_up σ b (itN flowF i Sb)) H locs → lv_has ls 2 [(1, .int (nI i)), (0, .ref (za z (1 + 27 * b)))] → W p l e ({ frames := 4, cells := 0, slots := 0, locals := 85 } : Room) s m [.ref (za z (1 + 27 * b))].toArray below meth c H locs 0 0 (EV z (XAt z) 0 55 ct s below [.ref (za z (1 + 27 * b))] 0 0 (fun σ' => σ' = va_up σ b (dayL S))) (F0 m 27 ls []) := by
    intro Sb hkb hq9 d
    induction d with
    | zero =>
      intro i hdi H locs ls h hl
      have hEi : i = qp Sb := by omega
      have hkc := hkb.2.1
      obtain ⟨S5, eS5⟩ : ∃ z9, z9 = itN flowF i Sb := ⟨_, rfl⟩
      rw [← eS5] at h
      have hs9 : Shp Sb S5 := by rw [eS5]; exact shp_it (f := flowF) (fun _ _ => shp_flow) Sb i
      have hs1 := hs9.1
      have hs2 := hs9.2.1
      have hk9 := hs9.ok hkb
      refine lv_iload_n hx hb dX0_goThroughDay_27 rfl (lv_at hl 0 rfl) ?_
      refine lv_aload_n hx hb dX0_goThroughDay_28 rfl (lv_at hl 1 rfl) ?_
      refine L_gL C0 hK h hB hin0 3 (by decide) (by decide +kernel) rfl dX0_goThroughDay_29 ?_
      refine lv_icmp_ge (tgt := 46) hx hb dX0_goThroughDay_32 (by decide) (fun _ => ?_) (fun q9 => absurd (nI_le (by omega) (by omega)) q9)
      refine lv_aload_n hx hb dX0_goThroughDay_46 rfl (lv_at hl 1 rfl) ?_
      refine L_gL C0 hK h hB hin0 4 (by decide) (by decide +kernel) rfl dX0_goThroughDay_47 ?_
      refine lv_iconst (v := 4) hx hb dX0_goThroughDay_50 (by decide) ?_
      refine lv_irem hx hb dX0_goThroughDay_51 (by decide) ?_
      refine lv_if_ne (tgt := 59) hx hb dX0_goThroughDay_52 (by decide) (fun c_52 => ?_) (fun c_52 => ?_)
      · refine lv_iconst (v := 0) hx hb dX0_goThroughDay_59 (by decide) ?_
        refine lv_istore_n (lv' := [(1, .int 0), (0, .ref (za z (1 + 27 * b)))]) hx hb dX0_goThroughDay_60 rfl hl (by decide) rfl (fun ls hl => ?_)
        exact L61 S5 hk9 (by rw [hEi] at eS5; subst eS5; subst hq9; unfold dayL; simp only []; rw [if_neg c_52]) (qt S5) 0 (by omega) _ _ _ h (lv_sub hl [0, 1] rfl)
      · refine lv_aload_n hx hb dX0_goThroughDay_55 rfl (lv_at hl 1 rfl) ?_
        refine S_callVv C0 hK h (c_X0_growCrusts l z σ b hB S5 hk9) (cwV 0 hts gX0_goThroughDay_X0_growCrusts rfl rfl rfl (by decide +kernel) ⟨Nat.le_of_ble_eq_true rfl, Nat.le_of_ble_eq_true rfl⟩) (k := 1 + 27 * b) (ci := 0) (by omega) (fun ct hA => (hA.2 b hB).1) rfl rfl rfl hl.1 (rest := []) rfl (Nat.le_of_ble_eq_true rfl) ⟨Nat.le_of_ble_eq_true rfl, Nat.le_of_ble_eq_true rfl⟩ dX0_goThroughDay_56 (fun u H locs hp h => ?_)
        obtain ⟨S6, eS6⟩ : ∃ z9, z9 = crustAll S5 := ⟨_, rfl⟩
        rw [← eS6] at hp
        subst hp
        refine lv_iconst (v := 0) hx hb dX0_goThroughDay_59 (by decide) ?_
        refine lv_istore_n (lv' := [(1, .int 0), (0, .ref (za z (1 + 27 * b)))]) hx hb dX0_goThroughDay_60 rfl hl (by decide) rfl (fun ls hl => ?_)
        exact L61 S6 (by rw [eS6]; exact shp_crustAll.ok hk9) (by subst eS6; rw [hEi] at eS5; subst eS5; subst hq9; unfold dayL; simp only []; rw [if_pos c_52]) (qt S6) 0 (by omega) _ _ _ h (lv_sub hl [0, 1] rfl)
    | succ d ihL27 =>
      intro i hdi H locs ls h hl
      have hEi : i < qp Sb := by omega
      have hkc := hkb.2.1
      obtain ⟨S7, eS7⟩ : ∃ z9, z9 = itN flowF i Sb := ⟨_, rfl⟩
      rw [← eS7] at h
      have hs9 : Shp Sb S7 := by rw [eS7]; exact shp_it (f := flowF) (fun _ _ => shp_flow) Sb i
      have hs1 := hs9.1
      have hs2 := hs9.2.1
      have hk9 := hs9.ok hkb
      refine lv_iload_n hx hb dX0_goThroughDay_27 rfl (lv_at hl 0 rfl) ?_
      refine lv_aload_n hx hb dX0_goThroughDay_28 rfl (lv_at hl 1 rfl) ?_
      refine L_gL C0 hK h hB hin0 3 (by decide) (by decide +kernel) rfl dX0_goThroughDay_29 ?_
      refine lv_icmp_ge (tgt := 46) hx hb dX0_goThroughDay_32 (by decide) (fun q9 => absurd q9 (nI_ge (by omega) (by omega))) (fun _ => ?_)
      refine lv_aload_n hx hb dX0_goThroughDay_35 rfl (lv_at hl 1 rfl) ?_
      refine lv_iload_n hx hb dX0_goThroughDay_36 rfl (lv_at hl 0 rfl) ?_
      refine S_callVv C0 hK h (c_X0_flowThrough l z σ b hB S7 hk9 i (by omega)) (cwV 1 hts gX0_goThroughDay_X0_flowThrough rfl rfl rfl (by decide +kernel) ⟨Nat.le_of_ble_eq_true rfl, Nat.le_of_ble_eq_true rfl⟩) (k := 1 + 27 * b) (ci := 0) (by omega) (fun ct hA => (hA.2 b hB).1) rfl rfl rfl hl.1 (rest := []) rfl (Nat.le_of_ble_eq_true rfl) ⟨Nat.le_of_ble_eq_true rfl, Nat.le_of_ble_eq_true rfl⟩ dX0_goThroughDay_37 (fun u H locs hp h => ?_)
      obtain ⟨S8, eS8⟩ : ∃ z9, z9 = flowL S7 i := ⟨_, rfl⟩
      rw [← eS8] at hp
      subst hp
      refine lv_iinc (v := nI (i + 1)) (lv' := [(1, .int (nI (i + 1))), (0, .ref (za z (1 + 27 * b)))]) hx hb dX0_goThroughDay_40 hl (k := 0) rfl (q_inc i 1) (by decide) rfl (fun ls hl => ?_)
      refine lv_goto (tgt := 27) hx hb dX0_goThroughDay_43 (by decide) ?_
      exact ihL27 (i + 1) (by omega) _ _ _ (by subst eS8; rw [eS7] at h; exact h) (lv_sub hl [0, 1] rfl)
  have L2 : ∀ (d i : Nat), i + d = qt S → ∀ (H : Heap) (locs : List Loc) (ls : Array Slot), GW z (XAt z) 0 55 s.heap ct (va_up σ b (itN feedF i S)) H locs → lv_has ls 2 [(1, .int (nI i)), (0, .ref (za z (1 + 27 * b)))] → W p l e ({ frames := 4, cells := 0, slots := 0, locals := 85 } : Room) s m [.ref (za z (1 + 27 * b))].toArray below meth c H locs 0 0 (EV z (XAt z) 0 55 ct s below [.ref (za z (1 + 27 * b))] 0 0 (fun σ' => σ' = va_up σ b (dayL S))) (F0 m 2 ls []) := by
    intro  d
    induction d with
    | zero =>
      intro i hdi H locs ls h hl
      have hEi : i = qt S := by omega
      obtain ⟨S9, eS9⟩ : ∃ z9, z9 = itN feedF i S := ⟨_, rfl⟩
      rw [← eS9] at h
      have hs9 : Shp S S9 := by rw [eS9]; exact shp_it (f := feedF) (fun _ _ => shp_sT) S i
      have hs1 := hs9.1
      have hs2 := hs9.2.1
      have hk9 := hs9.ok hk
      refine lv_iload_n hx hb dX0_goThroughDay_2 rfl (lv_at hl 0 rfl) ?_
      refine lv_aload_n hx hb dX0_goThroughDay_3 rfl (lv_at hl 1 rfl) ?_
      refine L_gL C0 hK h hB hin0 2 (by decide) (by decide +kernel) rfl dX0_goThroughDay_4 ?_
      refine lv_icmp_ge (tgt := 25) hx hb dX0_goThroughDay_7 (by decide) (fun _ => ?_) (fun q9 => absurd (nI_le (by omega) (by omega)) q9)
      refine lv_iconst (v := 0) hx hb dX0_goThroughDay_25 (by decide) ?_
      refine lv_istore_n (lv' := [(1, .int 0), (0, .ref (za z (1 + 27 * b)))]) hx hb dX0_goThroughDay_26 rfl hl (by decide) rfl (fun ls hl => ?_)
      exact L27 S9 hk9 (by rw [eS9, hEi]) (qp S9) 0 (by omega) _ _ _ h (lv_sub hl [0, 1] rfl)
    | succ d ihL2 =>
      intro i hdi H locs ls h hl
      have hEi : i < qt S := by omega
      obtain ⟨S10, eS10⟩ : ∃ z9, z9 = itN feedF i S := ⟨_, rfl⟩
      rw [← eS10] at h
      have hs9 : Shp S S10 := by rw [eS10]; exact shp_it (f := feedF) (fun _ _ => shp_sT) S i
      have hs1 := hs9.1
      have hs2 := hs9.2.1
      have hk9 := hs9.ok hk
      refine lv_iload_n hx hb dX0_goThroughDay_2 rfl (lv_at hl 0 rfl) ?_
      refine lv_aload_n hx hb dX0_goThroughDay_3 rfl (lv_at hl 1 rfl) ?_
      refine L_gL C0 hK h hB hin0 2 (by decide) (by decide +kernel) rfl dX0_goThroughDay_4 ?_
      refine lv_icmp_ge (tgt := 25) hx hb dX0_goThroughDay_7 (by decide) (fun q9 => absurd q9 (nI_ge (by omega) (by omega))) (fun _ => ?_)
      refine lv_aload_n hx hb dX0_goThroughDay_10 rfl (lv_at hl 1 rfl) ?_
      refine L_gL C0 hK h hB hin0 0 (by decide) (by decide +kernel) rfl dX0_goThroughDay_11 ?_
      refine lv_iload_n hx hb dX0_goThroughDay_14 rfl (lv_at hl 0 rfl) ?_
      refine X_aT C0 hK h hB (i := i) rfl (by omega) dX0_goThroughDay_15 ?_
      refine S_callSv C0 hK h (c_X0_feed l z σ b hB S10 i (by omega)) (va_cwS 1 hts gX0_goThroughDay_X0_feed rfl rfl rfl (by decide +kernel) ⟨Nat.le_of_ble_eq_true rfl, Nat.le_of_ble_eq_true rfl⟩) rfl hl.1 (rest := []) rfl (Nat.le_of_ble_eq_true rfl) ⟨Nat.le_of_ble_eq_true rfl, Nat.le_of_ble_eq_true rfl⟩ dX0_goThroughDay_16 (fun u H locs hp h => ?_)
      obtain ⟨S11, eS11⟩ : ∃ z9, z9 = sT S10 i (feedR (qT S10 i)) := ⟨_, rfl⟩
      rw [← eS11] at hp
      subst hp
      refine lv_iinc (v := nI (i + 1)) (lv' := [(1, .int (nI (i + 1))), (0, .ref (za z (1 + 27 * b)))]) hx hb dX0_goThroughDay_19 hl (k := 0) rfl (q_inc i 1) (by decide) rfl (fun ls hl => ?_)
      refine lv_goto (tgt := 2) hx hb dX0_goThroughDay_22 (by decide) ?_
      exact ihL2 (i + 1) (by omega) _ _ _ (by subst eS11; rw [eS10] at h; exact h) (lv_sub hl [0, 1] rfl)
  refine lv_iconst (v := 0) hx hb dX0_goThroughDay_0 (by decide) ?_
  refine lv_istore_n (lv' := [(1, .int 0), (0, .ref (za z (1 + 27 * b)))]) hx hb dX0_goThroughDay_1 rfl hl (by decide) rfl (fun ls hl => ?_)
  exact L2 (qt S) 0 (by omega) _ _ _ h (lv_sub hl [0, 1] rfl)
set_option maxHeartbeats 4000000 in
set_option maxRecDepth 100000 in
theorem c_X0_drunkIn (l : Launch) (z : QZ) (σ : Nat → QLs) (b : Nat) (hB : b < 2) (S : QLs) (hk : LOk S) (n : Nat) (hn9 : n < 2147483648) : GI l yX0_drunkIn wsX0_drunkIn ({ frames := 5, cells := 0, slots := 0, locals := 106 } : Room) z [.ref (za z (1 + 27 * b)), .int (nI n)] 0 0 (XAt z) 0 55 (va_up σ b S) (fun r σ' => r = sumT (itN dayF n S) 6 - sumT S 6 ∧ σ' = va_up σ b (itN dayF n S)) := by
  intro ct sz hn hq hat
  refine q_entry (lo := 0) (cc := cX0_drunkIn) (maxL := 4) (ret := (some .int)) (by decide) rfl (Nat.le_of_ble_eq_true rfl) hn hq hat ?_
  intro p e s m below meth c ls C0 hK hsz h hl
  subst hsz
  obtain ⟨hx, hb, hr, hml, hown, hts, hlocks⟩ := id C0
  have hl : lv_has ls 4 [(0, .ref (za z (1 + 27 * b))), (1, .int (nI n))] := hl
  have L9 : ∀ (d i : Nat), i + d = n → ∀ (H : Heap) (locs : List Loc) (ls : Array Slot), GW z (XAt z) 0 55 s.heap ct (va_up σ b (itN dayF i S)) H locs → lv_has ls 4 [(3, .int (nI i)), (2, .int (sumT S 6)), (0, .ref (za z (1 + 27 * b))), (1, .int (nI n))] → W p l e ({ frames := 5, cells := 0, slots := 0, locals := 106 } : Room) s m [.ref (za z (1 + 27 * b)), .int (nI n)].toArray below meth c H locs 0 0 (EI z (XAt z) 0 55 ct s below [.ref (za z (1 + 27 * b)), .int (nI n)] 0 0 (fun r σ' => r = sumT (itN dayF n S) 6 - sumT S 6 ∧ σ' = va_up σ b (itN dayF n S))) (F0 m 9 ls []) := by
    intro  d
    induction d with
    | zero =>
      intro i hdi H locs ls h hl
      have hEi : i = n := by omega
      obtain ⟨S1, eS1⟩ : ∃ z9, z9 = itN dayF i S := ⟨_, rfl⟩
      rw [← eS1] at h
      have hk9 : LOk S1 := by rw [eS1]; exact (shp_days S i).ok hk
      refine lv_iload_n hx hb dX0_drunkIn_9 rfl (lv_at hl 0 rfl) ?_
      refine lv_iload_n hx hb dX0_drunkIn_10 rfl (lv_at hl 3 rfl) ?_
      refine lv_icmp_ge (tgt := 24) hx hb dX0_drunkIn_11 (by decide) (fun _ => ?_) (fun q9 => absurd (nI_le (by omega) (by omega)) q9)
      refine lv_aload_n hx hb dX0_drunkIn_24 rfl (lv_at hl 2 rfl) ?_
      refine lv_bipush (v := 6) hx hb dX0_drunkIn_25 (by decide) ?_
      refine S_callVi C0 hK h (c_X0_sumOfTanks l z σ b hB S1 hk9 6 (by decide)) (cwV 1 hts gX0_drunkIn_X0_sumOfTanks rfl rfl rfl (by decide +kernel) ⟨Nat.le_of_ble_eq_true rfl, Nat.le_of_ble_eq_true rfl⟩) (k := 1 + 27 * b) (ci := 0) (by omega) (fun ct hA => (hA.2 b hB).1) rfl rfl rfl hl.1 (rest := []) rfl (Nat.le_of_ble_eq_true rfl) ⟨Nat.le_of_ble_eq_true rfl, Nat.le_of_ble_eq_true rfl⟩ dX0_drunkIn_27 (fun r u H locs hp h => ?_)
      obtain ⟨rfl, rfl⟩ := hp
      refine lv_iload_n hx hb dX0_drunkIn_30 rfl (lv_at hl 1 rfl) ?_
      refine lv_isub hx hb dX0_drunkIn_31 ?_
      exact G_iret C0 hK h ⟨by rw [eS1, hEi], congrArg (va_up σ b) (by rw [eS1, hEi])⟩ (Nat.le_of_ble_eq_true rfl) (Nat.le_of_ble_eq_true rfl) dX0_drunkIn_32
    | succ d ihL9 =>
      intro i hdi H locs ls h hl
      have hEi : i < n := by omega
      obtain ⟨S2, eS2⟩ : ∃ z9, z9 = itN dayF i S := ⟨_, rfl⟩
      rw [← eS2] at h
      have hk9 : LOk S2 := by rw [eS2]; exact (shp_days S i).ok hk
      refine lv_iload_n hx hb dX0_drunkIn_9 rfl (lv_at hl 0 rfl) ?_
      refine lv_iload_n hx hb dX0_drunkIn_10 rfl (lv_at hl 3 rfl) ?_
      refine lv_icmp_ge (tgt := 24) hx hb dX0_drunkIn_11 (by decide) (fun q9 => absurd q9 (nI_ge (by omega) (by omega))) (fun _ => ?_)
      refine lv_aload_n hx hb dX0_drunkIn_14 rfl (lv_at hl 2 rfl) ?_
      refine S_callVv C0 hK h (c_X0_goThroughDay l z σ b hB S2 hk9) (cwV 0 hts gX0_drunkIn_X0_goThroughDay rfl rfl rfl (by decide +kernel) ⟨Nat.le_of_ble_eq_true rfl, Nat.le_of_ble_eq_true rfl⟩) (k := 1 + 27 * b) (ci := 0) (by omega) (fun ct hA => (hA.2 b hB).1) rfl rfl rfl hl.1 (rest := []) rfl (Nat.le_of_ble_eq_true rfl) ⟨Nat.le_of_ble_eq_true rfl, Nat.le_of_ble_eq_true rfl⟩ dX0_drunkIn_15 (fun u H locs hp h => ?_)
      obtain ⟨S3, eS3⟩ : ∃ z9, z9 = dayL S2 := ⟨_, rfl⟩
      rw [← eS3] at hp
      subst hp
      refine lv_iinc (v := nI (i + 1)) (lv' := [(3, .int (nI (i + 1))), (2, .int (sumT S 6)), (0, .ref (za z (1 + 27 * b))), (1, .int (nI n))]) hx hb dX0_drunkIn_18 hl (k := 0) rfl (q_inc i 1) (by decide) rfl (fun ls hl => ?_)
      refine lv_goto (tgt := 9) hx hb dX0_drunkIn_21 (by decide) ?_
      exact ihL9 (i + 1) (by omega) _ _ _ (by subst eS3; rw [eS2] at h; exact h) (lv_sub hl [0, 1, 2, 3] rfl)
  refine lv_aload_n hx hb dX0_drunkIn_0 rfl (lv_at hl 0 rfl) ?_
  refine lv_bipush (v := 6) hx hb dX0_drunkIn_1 (by decide) ?_
  refine S_callVi C0 hK h (c_X0_sumOfTanks l z σ b hB S hk 6 (by decide)) (cwV 1 hts gX0_drunkIn_X0_sumOfTanks rfl rfl rfl (by decide +kernel) ⟨Nat.le_of_ble_eq_true rfl, Nat.le_of_ble_eq_true rfl⟩) (k := 1 + 27 * b) (ci := 0) (by omega) (fun ct hA => (hA.2 b hB).1) rfl rfl rfl hl.1 (rest := []) rfl (Nat.le_of_ble_eq_true rfl) ⟨Nat.le_of_ble_eq_true rfl, Nat.le_of_ble_eq_true rfl⟩ dX0_drunkIn_3 (fun r u H locs hp h => ?_)
  obtain ⟨rfl, rfl⟩ := hp
  refine lv_istore_n (lv' := [(2, .int (sumT S 6)), (0, .ref (za z (1 + 27 * b))), (1, .int (nI n))]) hx hb dX0_drunkIn_6 rfl hl (by decide) rfl (fun ls hl => ?_)
  refine lv_iconst (v := 0) hx hb dX0_drunkIn_7 (by decide) ?_
  refine lv_istore_n (lv' := [(3, .int 0), (2, .int (sumT S 6)), (0, .ref (za z (1 + 27 * b))), (1, .int (nI n))]) hx hb dX0_drunkIn_8 rfl hl (by decide) rfl (fun ls hl => ?_)
  exact L9 (n) 0 (by omega) _ _ _ h (lv_sub hl [0, 1, 2, 3] rfl)
set_option maxHeartbeats 4000000 in
set_option maxRecDepth 100000 in
theorem c_X0_ofAll (l : Launch) (z : QZ) (σ : Nat → QLs) (b : Nat) (hB : b < 2) (S : QLs) (hk : LOk S) (n : Nat) (hn9 : n ≤ 8) : GI l yX0_ofAll wsX0_ofAll ({ frames := 2, cells := 0, slots := 0, locals := 43 } : Room) z [.ref (za z (1 + 27 * b)), .int (nI n)] 0 0 (XAt z) 0 55 (va_up σ b S) (fun r σ' => r = ofAllL S n ∧ σ' = va_up σ b S) := by
  intro ct sz hn hq hat
  refine q_entry (lo := 0) (cc := cX0_ofAll) (maxL := 2) (ret := (some .int)) (by decide) rfl (Nat.le_of_ble_eq_true rfl) hn hq hat ?_
  intro p e s m below meth c ls C0 hK hsz h hl
  subst hsz
  obtain ⟨hx, hb, hr, hml, hown, hts, hlocks⟩ := id C0
  have hin0 : ∀ w ∈ u_ws RX0 TX0 5, w ∈ wsX0_ofAll := by decide +kernel
  have hl : lv_has ls 2 [(0, .ref (za z (1 + 27 * b))), (1, .int (nI n))] := hl
  rcases (show n = 0 ∨ n = 1 ∨ n = 2 ∨ n = 3 ∨ n = 4 ∨ n = 5 ∨ n = 6 ∨ n = 7 ∨ n = 8 by omega) with rfl | rfl | rfl | rfl | rfl | rfl | rfl | rfl | rfl
  · refine lv_iload_n hx hb dX0_ofAll_0 rfl (lv_at hl 1 rfl) ?_
    refine lv_tableIn (off := 47) (tgt := 48) hx hb dX0_ofAll_1 (by decide +kernel) (by decide +kernel) rfl (by decide) ?_
    refine lv_aload_n hx hb dX0_ofAll_48 rfl (lv_at hl 0 rfl) ?_
    refine L_gL C0 hK h hB hin0 4 (by decide) (by decide +kernel) rfl dX0_ofAll_49 ?_
    exact G_iret C0 hK h ⟨rfl, rfl⟩ (Nat.le_of_ble_eq_true rfl) (Nat.le_of_ble_eq_true rfl) dX0_ofAll_52
  · refine lv_iload_n hx hb dX0_ofAll_0 rfl (lv_at hl 1 rfl) ?_
    refine lv_tableIn (off := 52) (tgt := 53) hx hb dX0_ofAll_1 (by decide +kernel) (by decide +kernel) rfl (by decide) ?_
    refine lv_aload_n hx hb dX0_ofAll_53 rfl (lv_at hl 0 rfl) ?_
    refine L_gL C0 hK h hB hin0 2 (by decide) (by decide +kernel) rfl dX0_ofAll_54 ?_
    exact G_iret C0 hK h ⟨rfl, rfl⟩ (Nat.le_of_ble_eq_true rfl) (Nat.le_of_ble_eq_true rfl) dX0_ofAll_57
  · refine lv_iload_n hx hb dX0_ofAll_0 rfl (lv_at hl 1 rfl) ?_
    refine lv_tableIn (off := 57) (tgt := 58) hx hb dX0_ofAll_1 (by decide +kernel) (by decide +kernel) rfl (by decide) ?_
    refine lv_aload_n hx hb dX0_ofAll_58 rfl (lv_at hl 0 rfl) ?_
    refine L_gL C0 hK h hB hin0 3 (by decide) (by decide +kernel) rfl dX0_ofAll_59 ?_
    exact G_iret C0 hK h ⟨rfl, rfl⟩ (Nat.le_of_ble_eq_true rfl) (Nat.le_of_ble_eq_true rfl) dX0_ofAll_62
  · refine lv_iload_n hx hb dX0_ofAll_0 rfl (lv_at hl 1 rfl) ?_
    refine lv_tableIn (off := 62) (tgt := 63) hx hb dX0_ofAll_1 (by decide +kernel) (by decide +kernel) rfl (by decide) ?_
    refine lv_aload_n hx hb dX0_ofAll_63 rfl (lv_at hl 0 rfl) ?_
    refine lv_iconst (v := 3) hx hb dX0_ofAll_64 (by decide) ?_
    refine S_callVi C0 hK h (c_X0_sumOfTanks l z σ b hB S hk 3 (by decide)) (cwV 1 hts gX0_ofAll_X0_sumOfTanks rfl rfl rfl (by decide +kernel) ⟨Nat.le_of_ble_eq_true rfl, Nat.le_of_ble_eq_true rfl⟩) (k := 1 + 27 * b) (ci := 0) (by omega) (fun ct hA => (hA.2 b hB).1) rfl rfl rfl hl.1 (rest := []) rfl (Nat.le_of_ble_eq_true rfl) ⟨Nat.le_of_ble_eq_true rfl, Nat.le_of_ble_eq_true rfl⟩ dX0_ofAll_65 (fun r u H locs hp h => ?_)
    obtain ⟨rfl, rfl⟩ := hp
    exact G_iret C0 hK h ⟨rfl, rfl⟩ (Nat.le_of_ble_eq_true rfl) (Nat.le_of_ble_eq_true rfl) dX0_ofAll_68
  · refine lv_iload_n hx hb dX0_ofAll_0 rfl (lv_at hl 1 rfl) ?_
    refine lv_tableIn (off := 68) (tgt := 69) hx hb dX0_ofAll_1 (by decide +kernel) (by decide +kernel) rfl (by decide) ?_
    refine lv_aload_n hx hb dX0_ofAll_69 rfl (lv_at hl 0 rfl) ?_
    refine lv_iconst (v := 4) hx hb dX0_ofAll_70 (by decide) ?_
    refine S_callVi C0 hK h (c_X0_sumOfTanks l z σ b hB S hk 4 (by decide)) (cwV 1 hts gX0_ofAll_X0_sumOfTanks rfl rfl rfl (by decide +kernel) ⟨Nat.le_of_ble_eq_true rfl, Nat.le_of_ble_eq_true rfl⟩) (k := 1 + 27 * b) (ci := 0) (by omega) (fun ct hA => (hA.2 b hB).1) rfl rfl rfl hl.1 (rest := []) rfl (Nat.le_of_ble_eq_true rfl) ⟨Nat.le_of_ble_eq_true rfl, Nat.le_of_ble_eq_true rfl⟩ dX0_ofAll_71 (fun r u H locs hp h => ?_)
    obtain ⟨rfl, rfl⟩ := hp
    exact G_iret C0 hK h ⟨rfl, rfl⟩ (Nat.le_of_ble_eq_true rfl) (Nat.le_of_ble_eq_true rfl) dX0_ofAll_74
  · refine lv_iload_n hx hb dX0_ofAll_0 rfl (lv_at hl 1 rfl) ?_
    refine lv_tableIn (off := 74) (tgt := 75) hx hb dX0_ofAll_1 (by decide +kernel) (by decide +kernel) rfl (by decide) ?_
    refine lv_aload_n hx hb dX0_ofAll_75 rfl (lv_at hl 0 rfl) ?_
    refine lv_bipush (v := 6) hx hb dX0_ofAll_76 (by decide) ?_
    refine S_callVi C0 hK h (c_X0_sumOfTanks l z σ b hB S hk 6 (by decide)) (cwV 1 hts gX0_ofAll_X0_sumOfTanks rfl rfl rfl (by decide +kernel) ⟨Nat.le_of_ble_eq_true rfl, Nat.le_of_ble_eq_true rfl⟩) (k := 1 + 27 * b) (ci := 0) (by omega) (fun ct hA => (hA.2 b hB).1) rfl rfl rfl hl.1 (rest := []) rfl (Nat.le_of_ble_eq_true rfl) ⟨Nat.le_of_ble_eq_true rfl, Nat.le_of_ble_eq_true rfl⟩ dX0_ofAll_78 (fun r u H locs hp h => ?_)
    obtain ⟨rfl, rfl⟩ := hp
    exact G_iret C0 hK h ⟨rfl, rfl⟩ (Nat.le_of_ble_eq_true rfl) (Nat.le_of_ble_eq_true rfl) dX0_ofAll_81
  · refine lv_iload_n hx hb dX0_ofAll_0 rfl (lv_at hl 1 rfl) ?_
    refine lv_tableIn (off := 81) (tgt := 82) hx hb dX0_ofAll_1 (by decide +kernel) (by decide +kernel) rfl (by decide) ?_
    refine lv_aload_n hx hb dX0_ofAll_82 rfl (lv_at hl 0 rfl) ?_
    refine lv_bipush (v := 7) hx hb dX0_ofAll_83 (by decide) ?_
    refine S_callVi C0 hK h (c_X0_sumOfPipes l z σ b hB S hk 7 (by decide)) (cwV 1 hts gX0_ofAll_X0_sumOfPipes rfl rfl rfl (by decide +kernel) ⟨Nat.le_of_ble_eq_true rfl, Nat.le_of_ble_eq_true rfl⟩) (k := 1 + 27 * b) (ci := 0) (by omega) (fun ct hA => (hA.2 b hB).1) rfl rfl rfl hl.1 (rest := []) rfl (Nat.le_of_ble_eq_true rfl) ⟨Nat.le_of_ble_eq_true rfl, Nat.le_of_ble_eq_true rfl⟩ dX0_ofAll_85 (fun r u H locs hp h => ?_)
    obtain ⟨rfl, rfl⟩ := hp
    exact G_iret C0 hK h ⟨rfl, rfl⟩ (Nat.le_of_ble_eq_true rfl) (Nat.le_of_ble_eq_true rfl) dX0_ofAll_88
  · refine lv_iload_n hx hb dX0_ofAll_0 rfl (lv_at hl 1 rfl) ?_
    refine lv_tableIn (off := 88) (tgt := 89) hx hb dX0_ofAll_1 (by decide +kernel) (by decide +kernel) rfl (by decide) ?_
    refine lv_aload_n hx hb dX0_ofAll_89 rfl (lv_at hl 0 rfl) ?_
    refine lv_bipush (v := 7) hx hb dX0_ofAll_90 (by decide) ?_
    refine S_callVi C0 hK h (c_X0_sumOfTanks l z σ b hB S hk 7 (by decide)) (cwV 1 hts gX0_ofAll_X0_sumOfTanks rfl rfl rfl (by decide +kernel) ⟨Nat.le_of_ble_eq_true rfl, Nat.le_of_ble_eq_true rfl⟩) (k := 1 + 27 * b) (ci := 0) (by omega) (fun ct hA => (hA.2 b hB).1) rfl rfl rfl hl.1 (rest := []) rfl (Nat.le_of_ble_eq_true rfl) ⟨Nat.le_of_ble_eq_true rfl, Nat.le_of_ble_eq_true rfl⟩ dX0_ofAll_92 (fun r u H locs hp h => ?_)
    obtain ⟨rfl, rfl⟩ := hp
    exact G_iret C0 hK h ⟨rfl, rfl⟩ (Nat.le_of_ble_eq_true rfl) (Nat.le_of_ble_eq_true rfl) dX0_ofAll_95
  · refine lv_iload_n hx hb dX0_ofAll_0 rfl (lv_at hl 1 rfl) ?_
    refine lv_tableOut (tgt := 96) hx hb dX0_ofAll_1 (by decide +kernel) (by decide) ?_
    refine lv_aload_n hx hb dX0_ofAll_96 rfl (lv_at hl 0 rfl) ?_
    refine S_callVi C0 hK h (c_X0_thirstyTanks l z σ b hB S hk) (cwV 0 hts gX0_ofAll_X0_thirstyTanks rfl rfl rfl (by decide +kernel) ⟨Nat.le_of_ble_eq_true rfl, Nat.le_of_ble_eq_true rfl⟩) (k := 1 + 27 * b) (ci := 0) (by omega) (fun ct hA => (hA.2 b hB).1) rfl rfl rfl hl.1 (rest := []) rfl (Nat.le_of_ble_eq_true rfl) ⟨Nat.le_of_ble_eq_true rfl, Nat.le_of_ble_eq_true rfl⟩ dX0_ofAll_97 (fun r u H locs hp h => ?_)
    obtain ⟨rfl, rfl⟩ := hp
    exact G_iret C0 hK h ⟨rfl, rfl⟩ (Nat.le_of_ble_eq_true rfl) (Nat.le_of_ble_eq_true rfl) dX0_ofAll_100
set_option maxHeartbeats 4000000 in
set_option maxRecDepth 100000 in
theorem c_X0_reachedFrom (l : Launch) (z : QZ) (σ : Nat → QLs) (b : Nat) (hB : b < 2) (S : QLs) (hk : LOk S) (x : Int32) : GI l yX0_reachedFrom wsX0_reachedFrom ({ frames := 0, cells := 0, slots := 0, locals := 0 } : Room) z [.ref (za z (1 + 27 * b)), .int x] 0 0 (XAt z) 0 55 (va_up σ b S) (fun r σ' => r = reachL S x ∧ σ' = va_up σ b S) := by
  intro ct sz hn hq hat
  refine q_entry (lo := 0) (cc := cX0_reachedFrom) (maxL := 6) (ret := (some .int)) (by decide) rfl (Nat.le_of_ble_eq_true rfl) hn hq hat ?_
  intro p e s m below meth c ls C0 hK hsz h hl
  subst hsz
  obtain ⟨hx, hb, hr, hml, hown, hts, hlocks⟩ := id C0
  have hin0 : ∀ w ∈ u_ws RX0 TX0 5, w ∈ wsX0_reachedFrom := by decide +kernel
  have hl : lv_has ls 6 [(0, .ref (za z (1 + 27 * b))), (1, .int x)] := hl
  have hk1 := hk.1
  have hk2 := hk.2.1
  have L4 : ∀ (d i : Nat), i + d = qt S → ∀ (H : Heap) (locs : List Loc) (ls : Array Slot), GW z (XAt z) 0 55 s.heap ct (va_up σ b S) H locs → lv_has ls 6 [(3, .int (nI i)), (2, .int (itN (fun _ r => rRound S x r) i 0)), (0, .ref (za z (1 + 27 * b))), (1, .int x)] → W p l e ({ frames := 0, cells := 0, slots := 0, locals := 0 } : Room) s m [.ref (za z (1 + 27 * b)), .int x].toArray below meth c H locs 0 0 (EI z (XAt z) 0 55 ct s below [.ref (za z (1 + 27 * b)), .int x] 0 0 (fun r σ' => r = reachL S x ∧ σ' = va_up σ b S)) (F0 m 4 ls []) := by
    intro  d
    induction d with
    | zero =>
      intro i hdi H locs ls h hl
      have hEi : i = qt S := by omega
      refine lv_iload_n hx hb dX0_reachedFrom_4 rfl (lv_at hl 0 rfl) ?_
      refine lv_aload_n hx hb dX0_reachedFrom_5 rfl (lv_at hl 2 rfl) ?_
      refine L_gL C0 hK h hB hin0 2 (by decide) (by decide +kernel) rfl dX0_reachedFrom_6 ?_
      refine lv_icmp_ge (tgt := 76) hx hb dX0_reachedFrom_9 (by decide) (fun _ => ?_) (fun q9 => absurd (nI_le (by omega) (by omega)) q9)
      refine lv_iload_n hx hb dX0_reachedFrom_76 rfl (lv_at hl 1 rfl) ?_
      exact G_iret C0 hK h ⟨by rw [hEi]; rfl, rfl⟩ (Nat.le_of_ble_eq_true rfl) (Nat.le_of_ble_eq_true rfl) dX0_reachedFrom_77
    | succ d ihL4 =>
      intro i hdi H locs ls h hl
      have hEi : i < qt S := by omega
      have L15 : ∀ (g j : Nat), j + g = qp S → ∀ (H : Heap) (locs : List Loc) (ls : Array Slot), GW z (XAt z) 0 55 s.heap ct (va_up σ b S) H locs → lv_has ls 6 [(4, .int (nI j)), (3, .int (nI i)), (2, .int (itN (rStep S x) j (itN (fun _ r => rRound S x r) i 0))), (0, .ref (za z (1 + 27 * b))), (1, .int x)] → W p l e ({ frames := 0, cells := 0, slots := 0, locals := 0 } : Room) s m [.ref (za z (1 + 27 * b)), .int x].toArray below meth c H locs 0 0 (EI z (XAt z) 0 55 ct s below [.ref (za z (1 + 27 * b)), .int x] 0 0 (fun r σ' => r = reachL S x ∧ σ' = va_up σ b S)) (F0 m 15 ls []) := by
        intro  g
        induction g with
        | zero =>
          intro j hdj H locs ls h hl
          have hEj : j = qp S := by omega
          have hk7 := hk.2.1
          refine lv_iload hx hb dX0_reachedFrom_15 (lv_at hl 0 rfl) ?_
          refine lv_aload_n hx hb dX0_reachedFrom_17 rfl (lv_at hl 3 rfl) ?_
          refine L_gL C0 hK h hB hin0 3 (by decide) (by decide +kernel) rfl dX0_reachedFrom_18 ?_
          refine lv_icmp_ge (tgt := 70) hx hb dX0_reachedFrom_21 (by decide) (fun _ => ?_) (fun q9 => absurd (nI_le (by omega) (by omega)) q9)
          refine lv_iinc (v := nI (i + 1)) (lv' := [(3, .int (nI (i + 1))), (4, .int (nI j)), (2, .int (itN (rStep S x) j (itN (fun _ r => rRound S x r) i 0))), (0, .ref (za z (1 + 27 * b))), (1, .int x)]) hx hb dX0_reachedFrom_70 hl (k := 1) rfl (q_inc i 1) (by decide) rfl (fun ls hl => ?_)
          refine lv_goto (tgt := 4) hx hb dX0_reachedFrom_73 (by decide) ?_
          rw [hEj] at hl
          exact ihL4 (i + 1) (by omega) _ _ _ h (lv_sub hl [0, 2, 3, 4] rfl)
        | succ g ihL15 =>
          intro j hdj H locs ls h hl
          have hEj : j < qp S := by omega
          have hk7 := hk.2.1
          refine lv_iload hx hb dX0_reachedFrom_15 (lv_at hl 0 rfl) ?_
          refine lv_aload_n hx hb dX0_reachedFrom_17 rfl (lv_at hl 3 rfl) ?_
          refine L_gL C0 hK h hB hin0 3 (by decide) (by decide +kernel) rfl dX0_reachedFrom_18 ?_
          refine lv_icmp_ge (tgt := 70) hx hb dX0_reachedFrom_21 (by decide) (fun q9 => absurd q9 (nI_ge (by omega) (by omega))) (fun _ => ?_)
          refine lv_aload_n hx hb dX0_reachedFrom_24 rfl (lv_at hl 3 rfl) ?_
          refine L_gL C0 hK h hB hin0 1 (by decide) (by decide +kernel) rfl dX0_reachedFrom_25 ?_
          refine lv_iload hx hb dX0_reachedFrom_28 (lv_at hl 0 rfl) ?_
          refine X_aP C0 hK h hB (i := j) rfl (by omega) dX0_reachedFrom_30 ?_
          refine lv_iconst (v := 0) hx hb dX0_reachedFrom_31 (by decide) ?_
          refine L_ldP C0 hK h hB (by omega) (k := 0) rfl (by decide) dX0_reachedFrom_32 ?_
          refine lv_istore (lv' := [(5, .int (qP S j 0)), (4, .int (nI j)), (3, .int (nI i)), (2, .int (itN (rStep S x) j (itN (fun _ r => rRound S x r) i 0))), (0, .ref (za z (1 + 27 * b))), (1, .int x)]) hx hb dX0_reachedFrom_33 hl (by decide) rfl (fun ls hl => ?_)
          refine lv_iload hx hb dX0_reachedFrom_35 (lv_at hl 0 rfl) ?_
          refine lv_iload_n hx hb dX0_reachedFrom_37 rfl (lv_at hl 5 rfl) ?_
          refine lv_icmp_eq (tgt := 50) hx hb dX0_reachedFrom_38 (by decide) (fun c_38 => ?_) (fun c_38 => ?_)
          · refine lv_iload_n hx hb dX0_reachedFrom_50 rfl (lv_at hl 3 rfl) ?_
            refine lv_iconst (v := 1) hx hb dX0_reachedFrom_51 (by decide) ?_
            refine lv_aload_n hx hb dX0_reachedFrom_52 rfl (lv_at hl 4 rfl) ?_
            refine L_gL C0 hK h hB hin0 1 (by decide) (by decide +kernel) rfl dX0_reachedFrom_53 ?_
            refine lv_iload hx hb dX0_reachedFrom_56 (lv_at hl 1 rfl) ?_
            refine X_aP C0 hK h hB (i := j) rfl (by omega) dX0_reachedFrom_58 ?_
            refine lv_iconst (v := 1) hx hb dX0_reachedFrom_59 (by decide) ?_
            refine L_ldP C0 hK h hB (by omega) (k := 1) rfl (by decide) dX0_reachedFrom_60 ?_
            refine lv_ishl hx hb dX0_reachedFrom_61 ?_
            refine lv_ior hx hb dX0_reachedFrom_62 ?_
            refine lv_istore_n (lv' := [(2, .int ((itN (rStep S x) j (itN (fun _ r => rRound S x r) i 0)) ||| (1 <<< ((qP S j 1) &&& 31)))), (5, .int (qP S j 0)), (4, .int (nI j)), (3, .int (nI i)), (0, .ref (za z (1 + 27 * b))), (1, .int x)]) hx hb dX0_reachedFrom_63 rfl hl (by decide) rfl (fun ls hl => ?_)
            refine lv_iinc (v := nI (j + 1)) (lv' := [(4, .int (nI (j + 1))), (2, .int ((itN (rStep S x) j (itN (fun _ r => rRound S x r) i 0)) ||| (1 <<< ((qP S j 1) &&& 31)))), (5, .int (qP S j 0)), (3, .int (nI i)), (0, .ref (za z (1 + 27 * b))), (1, .int x)]) hx hb dX0_reachedFrom_64 hl (k := 2) rfl (q_inc j 1) (by decide) rfl (fun ls hl => ?_)
            refine lv_goto (tgt := 15) hx hb dX0_reachedFrom_67 (by decide) ?_
            have e9 : itN (rStep S x) (j + 1) (itN (fun _ r => rRound S x r) i 0) = (itN (rStep S x) j (itN (fun _ r => rRound S x r) i 0)) ||| (1 <<< ((qP S j 1) &&& 31)) := rStep_a c_38
            rw [← e9] at hl
            exact ihL15 (j + 1) (by omega) _ _ _ h (lv_sub hl [0, 3, 1, 4, 5] rfl)
          · refine lv_iload_n hx hb dX0_reachedFrom_41 rfl (lv_at hl 3 rfl) ?_
            refine lv_iconst (v := 1) hx hb dX0_reachedFrom_42 (by decide) ?_
            refine lv_iload hx hb dX0_reachedFrom_43 (lv_at hl 0 rfl) ?_
            refine lv_ishl hx hb dX0_reachedFrom_45 ?_
            refine lv_iand hx hb dX0_reachedFrom_46 ?_
            refine lv_if_eq (tgt := 64) hx hb dX0_reachedFrom_47 (by decide) (fun c_47 => ?_) (fun c_47 => ?_)
            · refine lv_iinc (v := nI (j + 1)) (lv' := [(4, .int (nI (j + 1))), (5, .int (qP S j 0)), (3, .int (nI i)), (2, .int (itN (rStep S x) j (itN (fun _ r => rRound S x r) i 0))), (0, .ref (za z (1 + 27 * b))), (1, .int x)]) hx hb dX0_reachedFrom_64 hl (k := 1) rfl (q_inc j 1) (by decide) rfl (fun ls hl => ?_)
              refine lv_goto (tgt := 15) hx hb dX0_reachedFrom_67 (by decide) ?_
              have e9 : itN (rStep S x) (j + 1) (itN (fun _ r => rRound S x r) i 0) = itN (rStep S x) j (itN (fun _ r => rRound S x r) i 0) := rStep_b c_38 c_47
              rw [← e9] at hl
              exact ihL15 (j + 1) (by omega) _ _ _ h (lv_sub hl [0, 2, 3, 4, 5] rfl)
            · refine lv_iload_n hx hb dX0_reachedFrom_50 rfl (lv_at hl 3 rfl) ?_
              refine lv_iconst (v := 1) hx hb dX0_reachedFrom_51 (by decide) ?_
              refine lv_aload_n hx hb dX0_reachedFrom_52 rfl (lv_at hl 4 rfl) ?_
              refine L_gL C0 hK h hB hin0 1 (by decide) (by decide +kernel) rfl dX0_reachedFrom_53 ?_
              refine lv_iload hx hb dX0_reachedFrom_56 (lv_at hl 1 rfl) ?_
              refine X_aP C0 hK h hB (i := j) rfl (by omega) dX0_reachedFrom_58 ?_
              refine lv_iconst (v := 1) hx hb dX0_reachedFrom_59 (by decide) ?_
              refine L_ldP C0 hK h hB (by omega) (k := 1) rfl (by decide) dX0_reachedFrom_60 ?_
              refine lv_ishl hx hb dX0_reachedFrom_61 ?_
              refine lv_ior hx hb dX0_reachedFrom_62 ?_
              refine lv_istore_n (lv' := [(2, .int ((itN (rStep S x) j (itN (fun _ r => rRound S x r) i 0)) ||| (1 <<< ((qP S j 1) &&& 31)))), (5, .int (qP S j 0)), (4, .int (nI j)), (3, .int (nI i)), (0, .ref (za z (1 + 27 * b))), (1, .int x)]) hx hb dX0_reachedFrom_63 rfl hl (by decide) rfl (fun ls hl => ?_)
              refine lv_iinc (v := nI (j + 1)) (lv' := [(4, .int (nI (j + 1))), (2, .int ((itN (rStep S x) j (itN (fun _ r => rRound S x r) i 0)) ||| (1 <<< ((qP S j 1) &&& 31)))), (5, .int (qP S j 0)), (3, .int (nI i)), (0, .ref (za z (1 + 27 * b))), (1, .int x)]) hx hb dX0_reachedFrom_64 hl (k := 2) rfl (q_inc j 1) (by decide) rfl (fun ls hl => ?_)
              refine lv_goto (tgt := 15) hx hb dX0_reachedFrom_67 (by decide) ?_
              have e9 : itN (rStep S x) (j + 1) (itN (fun _ r => rRound S x r) i 0) = (itN (rStep S x) j (itN (fun _ r => rRound S x r) i 0)) ||| (1 <<< ((qP S j 1) &&& 31)) := rStep_c c_38 c_47
              rw [← e9] at hl
              exact ihL15 (j + 1) (by omega) _ _ _ h (lv_sub hl [0, 3, 1, 4, 5] rfl)
      refine lv_iload_n hx hb dX0_reachedFrom_4 rfl (lv_at hl 0 rfl) ?_
      refine lv_aload_n hx hb dX0_reachedFrom_5 rfl (lv_at hl 2 rfl) ?_
      refine L_gL C0 hK h hB hin0 2 (by decide) (by decide +kernel) rfl dX0_reachedFrom_6 ?_
      refine lv_icmp_ge (tgt := 76) hx hb dX0_reachedFrom_9 (by decide) (fun q9 => absurd q9 (nI_ge (by omega) (by omega))) (fun _ => ?_)
      refine lv_iconst (v := 0) hx hb dX0_reachedFrom_12 (by decide) ?_
      refine lv_istore (lv' := [(4, .int 0), (3, .int (nI i)), (2, .int (itN (fun _ r => rRound S x r) i 0)), (0, .ref (za z (1 + 27 * b))), (1, .int x)]) hx hb dX0_reachedFrom_13 hl (by decide) rfl (fun ls hl => ?_)
      exact L15 (qp S) 0 (by omega) _ _ _ h (lv_sub hl [0, 1, 2, 3, 4] rfl)
  refine lv_iconst (v := 0) hx hb dX0_reachedFrom_0 (by decide) ?_
  refine lv_istore_n (lv' := [(2, .int 0), (0, .ref (za z (1 + 27 * b))), (1, .int x)]) hx hb dX0_reachedFrom_1 rfl hl (by decide) rfl (fun ls hl => ?_)
  refine lv_iconst (v := 0) hx hb dX0_reachedFrom_2 (by decide) ?_
  refine lv_istore_n (lv' := [(3, .int 0), (2, .int 0), (0, .ref (za z (1 + 27 * b))), (1, .int x)]) hx hb dX0_reachedFrom_3 rfl hl (by decide) rfl (fun ls hl => ?_)
  exact L4 (qt S) 0 (by omega) _ _ _ h (lv_sub hl [0, 1, 2, 3] rfl)
set_option maxHeartbeats 4000000 in
set_option maxRecDepth 100000 in
theorem c_X0_addTank (l : Launch) (z : QZ) (σ : Nat → QLs) (b : Nat) (hB : b < 2) (S : QLs) (hlt : qt S < 10) (x y v : Int32) : GI l yX0_addTank wsX0_addTank ({ frames := 0, cells := 0, slots := 0, locals := 0 } : Room) z [.ref (za z (1 + 27 * b)), .int x, .int y, .int v] 0 0 (XAt z) 0 55 (va_up σ b S) (fun r σ' => r = nI (qt S) ∧ σ' = va_up σ b (addT S x y v)) := by
  intro ct sz hn hq hat
  refine q_entry (lo := 0) (cc := cX0_addTank) (maxL := 5) (ret := (some .int)) (by decide) rfl (Nat.le_of_ble_eq_true rfl) hn hq hat ?_
  intro p e s m below meth c ls C0 hK hsz h hl
  subst hsz
  obtain ⟨hx, hb, hr, hml, hown, hts, hlocks⟩ := id C0
  have hin0 : ∀ w ∈ u_ws RX0 TX0 5, w ∈ wsX0_addTank := by decide +kernel
  have hl : lv_has ls 5 [(0, .ref (za z (1 + 27 * b))), (1, .int x), (2, .int y), (3, .int v)] := hl
  refine lv_aload_n hx hb dX0_addTank_0 rfl (lv_at hl 0 rfl) ?_
  refine L_gL C0 hK h hB hin0 2 (by decide) (by decide +kernel) rfl dX0_addTank_1 ?_
  refine lv_bipush (v := 10) hx hb dX0_addTank_4 (by decide) ?_
  refine lv_icmp_lt (tgt := 11) hx hb dX0_addTank_6 (by decide) (fun _ => ?_) (fun q9 => absurd (show nI (qt S) < nI 10 from nI_lt hlt (by decide)) q9)
  refine lv_aload_n hx hb dX0_addTank_11 rfl (lv_at hl 0 rfl) ?_
  refine L_gL C0 hK h hB hin0 0 (by decide) (by decide +kernel) rfl dX0_addTank_12 ?_
  refine lv_aload_n hx hb dX0_addTank_15 rfl (lv_at hl 0 rfl) ?_
  refine L_gL C0 hK h hB hin0 2 (by decide) (by decide +kernel) rfl dX0_addTank_16 ?_
  refine X_aT C0 hK h hB (i := qt S) rfl (by omega) dX0_addTank_19 ?_
  refine lv_astore (lv' := [(4, .ref (za z (1 + 27 * b + (3 + (qt S))))), (0, .ref (za z (1 + 27 * b))), (1, .int x), (2, .int y), (3, .int v)]) hx hb dX0_addTank_20 hl (by decide) rfl (fun ls hl => ?_)
  refine lv_aload hx hb dX0_addTank_22 (lv_at hl 0 rfl) ?_
  refine lv_iconst (v := 0) hx hb dX0_addTank_24 (by decide) ?_
  refine lv_iload_n hx hb dX0_addTank_25 rfl (lv_at hl 2 rfl) ?_
  refine L_stT C0 hK h hB (by omega) (k := 0) rfl (by decide) dX0_addTank_26 (fun H locs S1 eS1 h => ?_)
  refine lv_aload hx hb dX0_addTank_27 (lv_at hl 0 rfl) ?_
  refine lv_iconst (v := 1) hx hb dX0_addTank_29 (by decide) ?_
  refine lv_iload_n hx hb dX0_addTank_30 rfl (lv_at hl 3 rfl) ?_
  refine L_stT C0 hK h hB (by omega) (k := 1) rfl (by decide) dX0_addTank_31 (fun H locs S2 eS2 h => ?_)
  refine lv_aload hx hb dX0_addTank_32 (lv_at hl 0 rfl) ?_
  refine lv_iconst (v := 2) hx hb dX0_addTank_34 (by decide) ?_
  refine lv_iload_n hx hb dX0_addTank_35 rfl (lv_at hl 4 rfl) ?_
  refine L_stT C0 hK h hB (by omega) (k := 2) rfl (by decide) dX0_addTank_36 (fun H locs S3 eS3 h => ?_)
  refine lv_aload_n hx hb dX0_addTank_37 rfl (lv_at hl 1 rfl) ?_
  refine lv_dup hx hb dX0_addTank_38 rfl ?_
  refine L_gL C0 hK h hB hin0 2 (by decide) (by decide +kernel) rfl dX0_addTank_39 ?_
  refine lv_iconst (v := 1) hx hb dX0_addTank_42 (by decide) ?_
  refine lv_iadd hx hb dX0_addTank_43 ?_
  refine L_pt C0 hK h hB hin0 (by decide +kernel) (n := (qt S3) + 1) (q_add rfl rfl) dX0_addTank_44 (fun H locs S4 eS4 h => ?_)
  refine lv_aload_n hx hb dX0_addTank_47 rfl (lv_at hl 1 rfl) ?_
  refine L_gL C0 hK h hB hin0 2 (by decide) (by decide +kernel) rfl dX0_addTank_48 ?_
  refine lv_iconst (v := 1) hx hb dX0_addTank_51 (by decide) ?_
  refine lv_isub hx hb dX0_addTank_52 ?_
  exact G_iret C0 hK h ⟨by subst eS4 eS3 eS2 eS1; exact nI_pred _, congrArg (va_up σ b) (by subst eS4 eS3 eS2 eS1; simp only [qT_sT, sT_sT, qP_sP, sP_sP]; rfl)⟩ (Nat.le_of_ble_eq_true rfl) (Nat.le_of_ble_eq_true rfl) dX0_addTank_53

set_option maxHeartbeats 4000000 in
set_option maxRecDepth 100000 in
theorem c_X0_addTank_full (l : Launch) (z : QZ) (σ : Nat → QLs) (b : Nat) (hB : b < 2) (S : QLs) (hge : ¬ qt S < 10) (hle : qt S ≤ 10) (x y v : Int32) : GI l yX0_addTank wsX0_addTank ({ frames := 0, cells := 0, slots := 0, locals := 0 } : Room) z [.ref (za z (1 + 27 * b)), .int x, .int y, .int v] 0 0 (XAt z) 0 55 (va_up σ b S) (fun r σ' => r = -1 ∧ σ' = va_up σ b S) := by
  intro ct sz hn hq hat
  refine q_entry (lo := 0) (cc := cX0_addTank) (maxL := 5) (ret := (some .int)) (by decide) rfl (Nat.le_of_ble_eq_true rfl) hn hq hat ?_
  intro p e s m below meth c ls C0 hK hsz h hl
  subst hsz
  obtain ⟨hx, hb, hr, hml, hown, hts, hlocks⟩ := id C0
  have hin0 : ∀ w ∈ u_ws RX0 TX0 5, w ∈ wsX0_addTank := by decide +kernel
  have hl : lv_has ls 5 [(0, .ref (za z (1 + 27 * b))), (1, .int x), (2, .int y), (3, .int v)] := hl
  refine lv_aload_n hx hb dX0_addTank_0 rfl (lv_at hl 0 rfl) ?_
  refine L_gL C0 hK h hB hin0 2 (by decide) (by decide +kernel) rfl dX0_addTank_1 ?_
  refine lv_bipush (v := 10) hx hb dX0_addTank_4 (by decide) ?_
  refine lv_icmp_lt (tgt := 11) hx hb dX0_addTank_6 (by decide) (fun q9 => absurd q9 (show ¬ nI (qt S) < nI 10 from nI_nlt (by omega) (by omega))) (fun _ => ?_)
  refine lv_iconst (v := (-1)) hx hb dX0_addTank_9 (by decide) ?_
  exact G_iret C0 hK h ⟨rfl, rfl⟩ (Nat.le_of_ble_eq_true rfl) (Nat.le_of_ble_eq_true rfl) dX0_addTank_10
set_option maxHeartbeats 4000000 in
set_option maxRecDepth 100000 in
theorem c_X0_addPipe (l : Launch) (z : QZ) (σ : Nat → QLs) (b : Nat) (hB : b < 2) (S : QLs) (hlt : qp S < 14) (x y v u : Int32) : GI l yX0_addPipe wsX0_addPipe ({ frames := 0, cells := 0, slots := 0, locals := 0 } : Room) z [.ref (za z (1 + 27 * b)), .int x, .int y, .int v, .int u] 0 0 (XAt z) 0 55 (va_up σ b S) (fun r σ' => r = nI (qp S) ∧ σ' = va_up σ b (addP S x y v u)) := by
  intro ct sz hn hq hat
  refine q_entry (lo := 0) (cc := cX0_addPipe) (maxL := 6) (ret := (some .int)) (by decide) rfl (Nat.le_of_ble_eq_true rfl) hn hq hat ?_
  intro p e s m below meth c ls C0 hK hsz h hl
  subst hsz
  obtain ⟨hx, hb, hr, hml, hown, hts, hlocks⟩ := id C0
  have hin0 : ∀ w ∈ u_ws RX0 TX0 5, w ∈ wsX0_addPipe := by decide +kernel
  have hl : lv_has ls 6 [(0, .ref (za z (1 + 27 * b))), (1, .int x), (2, .int y), (3, .int v), (4, .int u)] := hl
  refine lv_aload_n hx hb dX0_addPipe_0 rfl (lv_at hl 0 rfl) ?_
  refine L_gL C0 hK h hB hin0 3 (by decide) (by decide +kernel) rfl dX0_addPipe_1 ?_
  refine lv_bipush (v := 14) hx hb dX0_addPipe_4 (by decide) ?_
  refine lv_icmp_lt (tgt := 11) hx hb dX0_addPipe_6 (by decide) (fun _ => ?_) (fun q9 => absurd (show nI (qp S) < nI 14 from nI_lt hlt (by decide)) q9)
  refine lv_aload_n hx hb dX0_addPipe_11 rfl (lv_at hl 0 rfl) ?_
  refine L_gL C0 hK h hB hin0 1 (by decide) (by decide +kernel) rfl dX0_addPipe_12 ?_
  refine lv_aload_n hx hb dX0_addPipe_15 rfl (lv_at hl 0 rfl) ?_
  refine L_gL C0 hK h hB hin0 3 (by decide) (by decide +kernel) rfl dX0_addPipe_16 ?_
  refine X_aP C0 hK h hB (i := qp S) rfl (by omega) dX0_addPipe_19 ?_
  refine lv_astore (lv' := [(5, .ref (za z (1 + 27 * b + (13 + (qp S))))), (0, .ref (za z (1 + 27 * b))), (1, .int x), (2, .int y), (3, .int v), (4, .int u)]) hx hb dX0_addPipe_20 hl (by decide) rfl (fun ls hl => ?_)
  refine lv_aload hx hb dX0_addPipe_22 (lv_at hl 0 rfl) ?_
  refine lv_iconst (v := 0) hx hb dX0_addPipe_24 (by decide) ?_
  refine lv_iload_n hx hb dX0_addPipe_25 rfl (lv_at hl 2 rfl) ?_
  refine L_stP C0 hK h hB (by omega) (k := 0) rfl (by decide) dX0_addPipe_26 (fun H locs S1 eS1 h => ?_)
  refine lv_aload hx hb dX0_addPipe_27 (lv_at hl 0 rfl) ?_
  refine lv_iconst (v := 1) hx hb dX0_addPipe_29 (by decide) ?_
  refine lv_iload_n hx hb dX0_addPipe_30 rfl (lv_at hl 3 rfl) ?_
  refine L_stP C0 hK h hB (by omega) (k := 1) rfl (by decide) dX0_addPipe_31 (fun H locs S2 eS2 h => ?_)
  refine lv_aload hx hb dX0_addPipe_32 (lv_at hl 0 rfl) ?_
  refine lv_iconst (v := 2) hx hb dX0_addPipe_34 (by decide) ?_
  refine lv_iload_n hx hb dX0_addPipe_35 rfl (lv_at hl 4 rfl) ?_
  refine L_stP C0 hK h hB (by omega) (k := 2) rfl (by decide) dX0_addPipe_36 (fun H locs S3 eS3 h => ?_)
  refine lv_aload hx hb dX0_addPipe_37 (lv_at hl 0 rfl) ?_
  refine lv_iconst (v := 3) hx hb dX0_addPipe_39 (by decide) ?_
  refine lv_iload hx hb dX0_addPipe_40 (lv_at hl 5 rfl) ?_
  refine L_stP C0 hK h hB (by omega) (k := 3) rfl (by decide) dX0_addPipe_42 (fun H locs S4 eS4 h => ?_)
  refine lv_aload_n hx hb dX0_addPipe_43 rfl (lv_at hl 1 rfl) ?_
  refine lv_dup hx hb dX0_addPipe_44 rfl ?_
  refine L_gL C0 hK h hB hin0 3 (by decide) (by decide +kernel) rfl dX0_addPipe_45 ?_
  refine lv_iconst (v := 1) hx hb dX0_addPipe_48 (by decide) ?_
  refine lv_iadd hx hb dX0_addPipe_49 ?_
  refine L_pp C0 hK h hB hin0 (by decide +kernel) (n := (qp S4) + 1) (q_add rfl rfl) dX0_addPipe_50 (fun H locs S5 eS5 h => ?_)
  refine lv_aload_n hx hb dX0_addPipe_53 rfl (lv_at hl 1 rfl) ?_
  refine L_gL C0 hK h hB hin0 3 (by decide) (by decide +kernel) rfl dX0_addPipe_54 ?_
  refine lv_iconst (v := 1) hx hb dX0_addPipe_57 (by decide) ?_
  refine lv_isub hx hb dX0_addPipe_58 ?_
  exact G_iret C0 hK h ⟨by subst eS5 eS4 eS3 eS2 eS1; exact nI_pred _, congrArg (va_up σ b) (by subst eS5 eS4 eS3 eS2 eS1; simp only [qT_sT, sT_sT, qP_sP, sP_sP]; rfl)⟩ (Nat.le_of_ble_eq_true rfl) (Nat.le_of_ble_eq_true rfl) dX0_addPipe_59

set_option maxHeartbeats 4000000 in
set_option maxRecDepth 100000 in
theorem c_X0_addPipe_full (l : Launch) (z : QZ) (σ : Nat → QLs) (b : Nat) (hB : b < 2) (S : QLs) (hge : ¬ qp S < 14) (hle : qp S ≤ 14) (x y v u : Int32) : GI l yX0_addPipe wsX0_addPipe ({ frames := 0, cells := 0, slots := 0, locals := 0 } : Room) z [.ref (za z (1 + 27 * b)), .int x, .int y, .int v, .int u] 0 0 (XAt z) 0 55 (va_up σ b S) (fun r σ' => r = -1 ∧ σ' = va_up σ b S) := by
  intro ct sz hn hq hat
  refine q_entry (lo := 0) (cc := cX0_addPipe) (maxL := 6) (ret := (some .int)) (by decide) rfl (Nat.le_of_ble_eq_true rfl) hn hq hat ?_
  intro p e s m below meth c ls C0 hK hsz h hl
  subst hsz
  obtain ⟨hx, hb, hr, hml, hown, hts, hlocks⟩ := id C0
  have hin0 : ∀ w ∈ u_ws RX0 TX0 5, w ∈ wsX0_addPipe := by decide +kernel
  have hl : lv_has ls 6 [(0, .ref (za z (1 + 27 * b))), (1, .int x), (2, .int y), (3, .int v), (4, .int u)] := hl
  refine lv_aload_n hx hb dX0_addPipe_0 rfl (lv_at hl 0 rfl) ?_
  refine L_gL C0 hK h hB hin0 3 (by decide) (by decide +kernel) rfl dX0_addPipe_1 ?_
  refine lv_bipush (v := 14) hx hb dX0_addPipe_4 (by decide) ?_
  refine lv_icmp_lt (tgt := 11) hx hb dX0_addPipe_6 (by decide) (fun q9 => absurd q9 (show ¬ nI (qp S) < nI 14 from nI_nlt (by omega) (by omega))) (fun _ => ?_)
  refine lv_iconst (v := (-1)) hx hb dX0_addPipe_9 (by decide) ?_
  exact G_iret C0 hK h ⟨rfl, rfl⟩ (Nat.le_of_ble_eq_true rfl) (Nat.le_of_ble_eq_true rfl) dX0_addPipe_10
