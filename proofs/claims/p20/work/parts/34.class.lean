/-! PART 34: build and lay -/
set_option maxHeartbeats 4000000 in
set_option maxRecDepth 100000 in
theorem c_X1_build_ok (l : Launch) (z : QZ) (σ : Nat → QLs) (S : QLs) (hk : LOk S) (ht : qt S < 10) (x y v : Int32) (h9 : (0 ≤ x ∧ x ≤ 99) ∧ (0 ≤ y ∧ y ≤ 20) ∧ (0 ≤ v ∧ v ≤ 20)) : GI l yX1_build wsX1_build ({ frames := 2, cells := 0, slots := 0, locals := 43 } : Room) z [.ref (za z 0), .int x, .int y, .int v] 0 0 (XAt z) 0 55 (va_up σ 0 S) (fun r σ' => r = nI (qt S) ∧ σ' = va_up σ 0 (addT S x y v)) := by
  intro ct sz hn hq hat
  refine q_entry (lo := 0) (cc := cX1_build) (maxL := 5) (ret := (some .int)) (by decide) rfl (Nat.le_of_ble_eq_true rfl) hn hq hat ?_
  intro p e s m below meth c ls C0 hK hsz h hl
  subst hsz
  obtain ⟨hx, hb, hr, hml, hown, hts, hlocks⟩ := id C0
  have hB : 0 < 2 := by decide
  have hin1 : ∀ w ∈ u_ws RX1 TX1 2, w ∈ wsX1_build := by decide +kernel
  have hl : lv_has ls 5 [(0, .ref (za z 0)), (1, .int x), (2, .int y), (3, .int v)] := hl
  have hk1 := hk.1
  have hk2 := hk.2.1
  refine lv_iload_n hx hb dX1_build_0 rfl (lv_at hl 1 rfl) ?_
  refine lv_iconst (v := 0) hx hb dX1_build_1 (by decide) ?_
  refine lv_bipush (v := 99) hx hb dX1_build_2 (by decide) ?_
  refine S_callSi C0 hK h (c_X1_isWithin l z σ S x 0 99) (va_cwS 3 hts gX1_build_X1_isWithin rfl rfl rfl (by decide +kernel) ⟨Nat.le_of_ble_eq_true rfl, Nat.le_of_ble_eq_true rfl⟩) rfl hl.1 (rest := []) rfl (Nat.le_of_ble_eq_true rfl) ⟨Nat.le_of_ble_eq_true rfl, Nat.le_of_ble_eq_true rfl⟩ dX1_build_4 (fun r u H locs hp h => ?_)
  obtain ⟨hr9, hu9⟩ := hp
  have hr9 := hr9.trans (if_pos h9.1)
  subst hr9
  rw [hu9] at h
  refine S_callSv C0 hK h (c_X1_needArgument_ok l z σ S) (va_cwS 1 hts gX1_build_X1_needArgument rfl rfl rfl (by decide +kernel) ⟨Nat.le_of_ble_eq_true rfl, Nat.le_of_ble_eq_true rfl⟩) rfl hl.1 (rest := []) rfl (Nat.le_of_ble_eq_true rfl) ⟨Nat.le_of_ble_eq_true rfl, Nat.le_of_ble_eq_true rfl⟩ dX1_build_7 (fun u H locs hp h => ?_)
  rw [hp] at h
  refine lv_iload_n hx hb dX1_build_10 rfl (lv_at hl 2 rfl) ?_
  refine lv_iload_n hx hb dX1_build_11 rfl (lv_at hl 3 rfl) ?_
  refine S_callSi C0 hK h (c_X1_isSpringAndThirst l z σ S y v) (va_cwS 2 hts gX1_build_X1_isSpringAndThirst rfl rfl rfl (by decide +kernel) ⟨Nat.le_of_ble_eq_true rfl, Nat.le_of_ble_eq_true rfl⟩) rfl hl.1 (rest := []) rfl (Nat.le_of_ble_eq_true rfl) ⟨Nat.le_of_ble_eq_true rfl, Nat.le_of_ble_eq_true rfl⟩ dX1_build_12 (fun r u H locs hp h => ?_)
  obtain ⟨hr9, hu9⟩ := hp
  have hr9 := hr9.trans (if_pos h9.2)
  subst hr9
  rw [hu9] at h
  refine S_callSv C0 hK h (c_X1_needArgument_ok l z σ S) (va_cwS 1 hts gX1_build_X1_needArgument rfl rfl rfl (by decide +kernel) ⟨Nat.le_of_ble_eq_true rfl, Nat.le_of_ble_eq_true rfl⟩) rfl hl.1 (rest := []) rfl (Nat.le_of_ble_eq_true rfl) ⟨Nat.le_of_ble_eq_true rfl, Nat.le_of_ble_eq_true rfl⟩ dX1_build_15 (fun u H locs hp h => ?_)
  rw [hp] at h
  refine lv_aload_n hx hb dX1_build_18 rfl (lv_at hl 0 rfl) ?_
  refine X_gO C0 hK h hin1 0 (by decide) (by decide +kernel) dX1_build_19 ?_
  refine lv_iload_n hx hb dX1_build_22 rfl (lv_at hl 1 rfl) ?_
  refine lv_iload_n hx hb dX1_build_23 rfl (lv_at hl 2 rfl) ?_
  refine lv_iload_n hx hb dX1_build_24 rfl (lv_at hl 3 rfl) ?_
  refine S_callVi C0 hK h (c_X0_addTank l z σ 0 hB S ht x y v) (cwV 3 hts gX1_build_X0_addTank rfl rfl rfl (by decide +kernel) ⟨Nat.le_of_ble_eq_true rfl, Nat.le_of_ble_eq_true rfl⟩) (k := 1 + 27 * 0) (ci := 0) (by omega) (fun ct hA => (hA.2 0 (by decide)).1) rfl rfl rfl hl.1 (rest := []) rfl (Nat.le_of_ble_eq_true rfl) ⟨Nat.le_of_ble_eq_true rfl, Nat.le_of_ble_eq_true rfl⟩ dX1_build_25 (fun r u H locs hp h => ?_)
  obtain ⟨rfl, hp⟩ := hp
  obtain ⟨S1, eS1⟩ : ∃ z9, z9 = addT S x y v := ⟨_, rfl⟩
  rw [hp, ← eS1] at h
  refine lv_istore (lv' := [(4, .int (nI (qt S))), (0, .ref (za z 0)), (1, .int x), (2, .int y), (3, .int v)]) hx hb dX1_build_28 hl (by decide) rfl (fun ls hl => ?_)
  refine lv_iload hx hb dX1_build_30 (lv_at hl 0 rfl) ?_
  refine lv_iconst (v := (-1)) hx hb dX1_build_32 (by decide) ?_
  refine lv_icmp_ne (tgt := 46) hx hb dX1_build_33 (by decide) (fun _ => ?_) (fun q9 => absurd q9 (q_nm1 (k := qt S) (by omega)))
  refine lv_iload hx hb dX1_build_46 (lv_at hl 0 rfl) ?_
  exact G_iret C0 hK h ⟨rfl, congrArg (va_up σ 0) (by subst eS1; rfl)⟩ (Nat.le_of_ble_eq_true rfl) (Nat.le_of_ble_eq_true rfl) dX1_build_48
set_option maxHeartbeats 4000000 in
set_option maxRecDepth 100000 in
theorem c_X1_lay_ok (l : Launch) (z : QZ) (σ : Nat → QLs) (S : QLs) (hk : LOk S) (i : Nat) (hi : i < qt S) (j : Nat) (hj : j < qt S) (hp9 : qp S < 14) (hne : i ≠ j) (x y : Int32) (h9 : (1 ≤ x ∧ x ≤ 20) ∧ (0 ≤ y ∧ y ≤ 60)) : GI l yX1_lay wsX1_lay ({ frames := 2, cells := 0, slots := 0, locals := 41 } : Room) z [.ref (za z 0), .int (nI i), .int (nI j), .int x, .int y] 0 0 (XAt z) 0 55 (va_up σ 0 S) (fun r σ' => r = nI (qp S) ∧ σ' = va_up σ 0 (addP S (nI i) (nI j) x y)) := by
  intro ct sz hn hq hat
  refine q_entry (lo := 0) (cc := cX1_lay) (maxL := 6) (ret := (some .int)) (by decide) rfl (Nat.le_of_ble_eq_true rfl) hn hq hat ?_
  intro p e s m below meth c ls C0 hK hsz h hl
  subst hsz
  obtain ⟨hx, hb, hr, hml, hown, hts, hlocks⟩ := id C0
  have hB : 0 < 2 := by decide
  have hin1 : ∀ w ∈ u_ws RX1 TX1 2, w ∈ wsX1_lay := by decide +kernel
  have hl : lv_has ls 6 [(0, .ref (za z 0)), (1, .int (nI i)), (2, .int (nI j)), (3, .int x), (4, .int y)] := hl
  have hk1 := hk.1
  have hk2 := hk.2.1
  refine lv_aload_n hx hb dX1_lay_0 rfl (lv_at hl 0 rfl) ?_
  refine lv_iload_n hx hb dX1_lay_1 rfl (lv_at hl 1 rfl) ?_
  refine S_callVv C0 hK h (c_X1_needTank_ok l z σ S i hi (by omega)) (cwV 1 hts gX1_lay_X1_needTank rfl rfl rfl (by decide +kernel) ⟨Nat.le_of_ble_eq_true rfl, Nat.le_of_ble_eq_true rfl⟩) (k := 0) (ci := 1) (by omega) (fun ct hA => hA.1) rfl rfl rfl hl.1 (rest := []) rfl (Nat.le_of_ble_eq_true rfl) ⟨Nat.le_of_ble_eq_true rfl, Nat.le_of_ble_eq_true rfl⟩ dX1_lay_2 (fun u H locs hp h => ?_)
  rw [hp] at h
  refine lv_aload_n hx hb dX1_lay_5 rfl (lv_at hl 0 rfl) ?_
  refine lv_iload_n hx hb dX1_lay_6 rfl (lv_at hl 2 rfl) ?_
  refine S_callVv C0 hK h (c_X1_needTank_ok l z σ S j hj (by omega)) (cwV 1 hts gX1_lay_X1_needTank rfl rfl rfl (by decide +kernel) ⟨Nat.le_of_ble_eq_true rfl, Nat.le_of_ble_eq_true rfl⟩) (k := 0) (ci := 1) (by omega) (fun ct hA => hA.1) rfl rfl rfl hl.1 (rest := []) rfl (Nat.le_of_ble_eq_true rfl) ⟨Nat.le_of_ble_eq_true rfl, Nat.le_of_ble_eq_true rfl⟩ dX1_lay_7 (fun u H locs hp h => ?_)
  rw [hp] at h
  refine lv_iload_n hx hb dX1_lay_10 rfl (lv_at hl 1 rfl) ?_
  refine lv_iload_n hx hb dX1_lay_11 rfl (lv_at hl 2 rfl) ?_
  refine lv_icmp_eq (tgt := 19) hx hb dX1_lay_12 (by decide) (fun q9 => absurd q9 (fun q => hne (q_nIc _ q (by omega)))) (fun _ => ?_)
  refine lv_iconst (v := 1) hx hb dX1_lay_15 (by decide) ?_
  refine lv_goto (tgt := 20) hx hb dX1_lay_16 (by decide) ?_
  refine S_callSv C0 hK h (c_X1_needArgument_ok l z σ S) (va_cwS 1 hts gX1_lay_X1_needArgument rfl rfl rfl (by decide +kernel) ⟨Nat.le_of_ble_eq_true rfl, Nat.le_of_ble_eq_true rfl⟩) rfl hl.1 (rest := []) rfl (Nat.le_of_ble_eq_true rfl) ⟨Nat.le_of_ble_eq_true rfl, Nat.le_of_ble_eq_true rfl⟩ dX1_lay_20 (fun u H locs hp h => ?_)
  rw [hp] at h
  refine lv_iload_n hx hb dX1_lay_23 rfl (lv_at hl 3 rfl) ?_
  refine lv_iconst (v := 1) hx hb dX1_lay_24 (by decide) ?_
  refine lv_bipush (v := 20) hx hb dX1_lay_25 (by decide) ?_
  refine S_callSi C0 hK h (c_X1_isWithin l z σ S x 1 20) (va_cwS 3 hts gX1_lay_X1_isWithin rfl rfl rfl (by decide +kernel) ⟨Nat.le_of_ble_eq_true rfl, Nat.le_of_ble_eq_true rfl⟩) rfl hl.1 (rest := []) rfl (Nat.le_of_ble_eq_true rfl) ⟨Nat.le_of_ble_eq_true rfl, Nat.le_of_ble_eq_true rfl⟩ dX1_lay_27 (fun r u H locs hp h => ?_)
  obtain ⟨hr9, hu9⟩ := hp
  have hr9 := hr9.trans (if_pos h9.1)
  subst hr9
  rw [hu9] at h
  refine S_callSv C0 hK h (c_X1_needArgument_ok l z σ S) (va_cwS 1 hts gX1_lay_X1_needArgument rfl rfl rfl (by decide +kernel) ⟨Nat.le_of_ble_eq_true rfl, Nat.le_of_ble_eq_true rfl⟩) rfl hl.1 (rest := []) rfl (Nat.le_of_ble_eq_true rfl) ⟨Nat.le_of_ble_eq_true rfl, Nat.le_of_ble_eq_true rfl⟩ dX1_lay_30 (fun u H locs hp h => ?_)
  rw [hp] at h
  refine lv_iload hx hb dX1_lay_33 (lv_at hl 4 rfl) ?_
  refine lv_iconst (v := 0) hx hb dX1_lay_35 (by decide) ?_
  refine lv_bipush (v := 60) hx hb dX1_lay_36 (by decide) ?_
  refine S_callSi C0 hK h (c_X1_isWithin l z σ S y 0 60) (va_cwS 3 hts gX1_lay_X1_isWithin rfl rfl rfl (by decide +kernel) ⟨Nat.le_of_ble_eq_true rfl, Nat.le_of_ble_eq_true rfl⟩) rfl hl.1 (rest := []) rfl (Nat.le_of_ble_eq_true rfl) ⟨Nat.le_of_ble_eq_true rfl, Nat.le_of_ble_eq_true rfl⟩ dX1_lay_38 (fun r u H locs hp h => ?_)
  obtain ⟨hr9, hu9⟩ := hp
  have hr9 := hr9.trans (if_pos h9.2)
  subst hr9
  rw [hu9] at h
  refine S_callSv C0 hK h (c_X1_needArgument_ok l z σ S) (va_cwS 1 hts gX1_lay_X1_needArgument rfl rfl rfl (by decide +kernel) ⟨Nat.le_of_ble_eq_true rfl, Nat.le_of_ble_eq_true rfl⟩) rfl hl.1 (rest := []) rfl (Nat.le_of_ble_eq_true rfl) ⟨Nat.le_of_ble_eq_true rfl, Nat.le_of_ble_eq_true rfl⟩ dX1_lay_41 (fun u H locs hp h => ?_)
  rw [hp] at h
  refine lv_aload_n hx hb dX1_lay_44 rfl (lv_at hl 0 rfl) ?_
  refine X_gO C0 hK h hin1 0 (by decide) (by decide +kernel) dX1_lay_45 ?_
  refine lv_iload_n hx hb dX1_lay_48 rfl (lv_at hl 1 rfl) ?_
  refine lv_iload_n hx hb dX1_lay_49 rfl (lv_at hl 2 rfl) ?_
  refine lv_iload_n hx hb dX1_lay_50 rfl (lv_at hl 3 rfl) ?_
  refine lv_iload hx hb dX1_lay_51 (lv_at hl 4 rfl) ?_
  refine S_callVi C0 hK h (c_X0_addPipe l z σ 0 hB S hp9 (nI i) (nI j) x y) (cwV 4 hts gX1_lay_X0_addPipe rfl rfl rfl (by decide +kernel) ⟨Nat.le_of_ble_eq_true rfl, Nat.le_of_ble_eq_true rfl⟩) (k := 1 + 27 * 0) (ci := 0) (by omega) (fun ct hA => (hA.2 0 (by decide)).1) rfl rfl rfl hl.1 (rest := []) rfl (Nat.le_of_ble_eq_true rfl) ⟨Nat.le_of_ble_eq_true rfl, Nat.le_of_ble_eq_true rfl⟩ dX1_lay_53 (fun r u H locs hp h => ?_)
  obtain ⟨rfl, hp⟩ := hp
  obtain ⟨S1, eS1⟩ : ∃ z9, z9 = addP S (nI i) (nI j) x y := ⟨_, rfl⟩
  rw [hp, ← eS1] at h
  refine lv_istore (lv' := [(5, .int (nI (qp S))), (0, .ref (za z 0)), (1, .int (nI i)), (2, .int (nI j)), (3, .int x), (4, .int y)]) hx hb dX1_lay_56 hl (by decide) rfl (fun ls hl => ?_)
  refine lv_iload hx hb dX1_lay_58 (lv_at hl 0 rfl) ?_
  refine lv_iconst (v := (-1)) hx hb dX1_lay_60 (by decide) ?_
  refine lv_icmp_ne (tgt := 74) hx hb dX1_lay_61 (by decide) (fun _ => ?_) (fun q9 => absurd q9 (q_nm1 (k := qp S) (by omega)))
  refine lv_iload hx hb dX1_lay_74 (lv_at hl 0 rfl) ?_
  exact G_iret C0 hK h ⟨rfl, congrArg (va_up σ 0) (by subst eS1; rfl)⟩ (Nat.le_of_ble_eq_true rfl) (Nat.le_of_ble_eq_true rfl) dX1_lay_76
