set_option maxHeartbeats 4000000 in
set_option maxRecDepth 100000 in
theorem c_X2_pour (l : Launch) (z : QZ) (M : QMs) (i : Nat) (hi : i < 10) (x y : Int32) : GV l yX2_pour wsX2_pour ({ frames := 1, cells := 0, slots := 0, locals := 23 } : Room) z [.ref (za z 55), .int (nI i), .int x, .int y] 0 0 (MAt z) 55 59 M (fun M' => M' = mPour M i x y) := by
  intro ct sz hn hq hat
  refine q_entry (lo := 55) (cc := cX2_pour) (maxL := 5) (ret := none) (by decide) rfl (Nat.le_of_ble_eq_true rfl) hn hq hat ?_
  intro p e s m below meth c ls C0 hK hsz h hl
  subst hsz
  obtain ⟨hx, hb, hr, hml, hown, hts, hlocks⟩ := id C0
  have hl : lv_has ls 5 [(0, .ref (za z 55)), (1, .int (nI i)), (2, .int x), (3, .int y)] := hl
  refine lv_aload_n hx hb dX2_pour_0 rfl (lv_at hl 0 rfl) ?_
  refine lv_iload_n hx hb dX2_pour_1 rfl (lv_at hl 1 rfl) ?_
  refine lv_iconst (v := 3) hx hb dX2_pour_2 (by decide) ?_
  refine S_callVi C0 hK h (c_X2_la l z M i (by omega) 3 (by omega)) (cwV 2 hts gX2_pour_X2_la rfl rfl rfl (by decide +kernel) ⟨Nat.le_of_ble_eq_true rfl, Nat.le_of_ble_eq_true rfl⟩) (k := 55) (ci := 2) (by omega) (fun ct hA => hA.1) rfl rfl rfl hl.1 (rest := []) rfl (Nat.le_of_ble_eq_true rfl) ⟨Nat.le_of_ble_eq_true rfl, Nat.le_of_ble_eq_true rfl⟩ dX2_pour_3 (fun r u H locs hp h => ?_)
  obtain ⟨rfl, hu9⟩ := hp
  rw [hu9] at h
  refine lv_iload_n hx hb dX2_pour_6 rfl (lv_at hl 2 rfl) ?_
  refine lv_iadd hx hb dX2_pour_7 ?_
  refine lv_istore (lv' := [(4, .int ((mA M (8 * i + 3)) + x)), (0, .ref (za z 55)), (1, .int (nI i)), (2, .int x), (3, .int y)]) hx hb dX2_pour_8 hl (by decide) rfl (fun ls hl => ?_)
  refine lv_aload_n hx hb dX2_pour_10 rfl (lv_at hl 1 rfl) ?_
  refine lv_iload_n hx hb dX2_pour_11 rfl (lv_at hl 2 rfl) ?_
  refine lv_bipush (v := 7) hx hb dX2_pour_12 (by decide) ?_
  refine lv_aload_n hx hb dX2_pour_14 rfl (lv_at hl 1 rfl) ?_
  refine lv_iload_n hx hb dX2_pour_15 rfl (lv_at hl 2 rfl) ?_
  refine lv_bipush (v := 7) hx hb dX2_pour_16 (by decide) ?_
  refine S_callVi C0 hK h (c_X2_la l z M i (by omega) 7 (by omega)) (cwV 2 hts gX2_pour_X2_la rfl rfl rfl (by decide +kernel) ⟨Nat.le_of_ble_eq_true rfl, Nat.le_of_ble_eq_true rfl⟩) (k := 55) (ci := 2) (by omega) (fun ct hA => hA.1) rfl rfl rfl hl.1 (rest := [.int 7, .int (nI i), .ref (za z 55)]) rfl (Nat.le_of_ble_eq_true rfl) ⟨Nat.le_of_ble_eq_true rfl, Nat.le_of_ble_eq_true rfl⟩ dX2_pour_18 (fun r u H locs hp h => ?_)
  obtain ⟨rfl, hu9⟩ := hp
  rw [hu9] at h
  refine lv_iconst (v := 0) hx hb dX2_pour_21 (by decide) ?_
  refine lv_iload hx hb dX2_pour_22 (lv_at hl 0 rfl) ?_
  refine lv_sipush (v := 200) hx hb dX2_pour_24 (by decide) ?_
  refine lv_isub hx hb dX2_pour_27 ?_
  refine G_mmax C0 hl.1 (by decide +kernel) (by decide +kernel) (by decide +kernel) (by decide +kernel) ⟨Nat.le_of_ble_eq_true rfl, Nat.le_of_ble_eq_true rfl, Nat.le_of_ble_eq_true rfl, Nat.le_of_ble_eq_true rfl⟩ dX2_pour_28 ?_
  refine lv_iadd hx hb dX2_pour_31 ?_
  refine S_callVv C0 hK h (c_X2_setTank l z M i (by omega) 7 (by omega) ((mA M (8 * i + 7)) + (qmax 0 (((mA M (8 * i + 3)) + x) - 200)))) (cwV 3 hts gX2_pour_X2_setTank rfl rfl rfl (by decide +kernel) ⟨Nat.le_of_ble_eq_true rfl, Nat.le_of_ble_eq_true rfl⟩) (k := 55) (ci := 2) (by omega) (fun ct hA => hA.1) rfl rfl rfl hl.1 (rest := []) rfl (Nat.le_of_ble_eq_true rfl) ⟨Nat.le_of_ble_eq_true rfl, Nat.le_of_ble_eq_true rfl⟩ dX2_pour_32 (fun u H locs hp h => ?_)
  obtain ⟨M1, eM1⟩ : ∃ z9, z9 = mSetT M i 7 ((mA M (8 * i + 7)) + (qmax 0 (((mA M (8 * i + 3)) + x) - 200))) := ⟨_, rfl⟩
  rw [hp, ← eM1] at h
  refine lv_aload_n hx hb dX2_pour_35 rfl (lv_at hl 1 rfl) ?_
  refine lv_iload_n hx hb dX2_pour_36 rfl (lv_at hl 2 rfl) ?_
  refine lv_iconst (v := 3) hx hb dX2_pour_37 (by decide) ?_
  refine lv_sipush (v := 200) hx hb dX2_pour_38 (by decide) ?_
  refine lv_iload hx hb dX2_pour_41 (lv_at hl 0 rfl) ?_
  refine G_mmin C0 hl.1 (by decide +kernel) (by decide +kernel) (by decide +kernel) (by decide +kernel) ⟨Nat.le_of_ble_eq_true rfl, Nat.le_of_ble_eq_true rfl, Nat.le_of_ble_eq_true rfl, Nat.le_of_ble_eq_true rfl⟩ dX2_pour_43 ?_
  refine S_callVv C0 hK h (c_X2_setTank l z M1 i (by omega) 3 (by omega) (qmin 200 ((mA M (8 * i + 3)) + x))) (cwV 3 hts gX2_pour_X2_setTank rfl rfl rfl (by decide +kernel) ⟨Nat.le_of_ble_eq_true rfl, Nat.le_of_ble_eq_true rfl⟩) (k := 55) (ci := 2) (by omega) (fun ct hA => hA.1) rfl rfl rfl hl.1 (rest := []) rfl (Nat.le_of_ble_eq_true rfl) ⟨Nat.le_of_ble_eq_true rfl, Nat.le_of_ble_eq_true rfl⟩ dX2_pour_46 (fun u H locs hp h => ?_)
  obtain ⟨M2, eM2⟩ : ∃ z9, z9 = mSetT M1 i 3 (qmin 200 ((mA M (8 * i + 3)) + x)) := ⟨_, rfl⟩
  rw [hp, ← eM2] at h
  refine lv_aload_n hx hb dX2_pour_49 rfl (lv_at hl 1 rfl) ?_
  refine lv_iload_n hx hb dX2_pour_50 rfl (lv_at hl 2 rfl) ?_
  refine lv_iconst (v := 4) hx hb dX2_pour_51 (by decide) ?_
  refine lv_bipush (v := 99) hx hb dX2_pour_52 (by decide) ?_
  refine lv_aload_n hx hb dX2_pour_54 rfl (lv_at hl 1 rfl) ?_
  refine lv_iload_n hx hb dX2_pour_55 rfl (lv_at hl 2 rfl) ?_
  refine lv_iconst (v := 4) hx hb dX2_pour_56 (by decide) ?_
  refine S_callVi C0 hK h (c_X2_la l z M2 i (by omega) 4 (by omega)) (cwV 2 hts gX2_pour_X2_la rfl rfl rfl (by decide +kernel) ⟨Nat.le_of_ble_eq_true rfl, Nat.le_of_ble_eq_true rfl⟩) (k := 55) (ci := 2) (by omega) (fun ct hA => hA.1) rfl rfl rfl hl.1 (rest := [.int 99, .int 4, .int (nI i), .ref (za z 55)]) rfl (Nat.le_of_ble_eq_true rfl) ⟨Nat.le_of_ble_eq_true rfl, Nat.le_of_ble_eq_true rfl⟩ dX2_pour_57 (fun r u H locs hp h => ?_)
  obtain ⟨rfl, hu9⟩ := hp
  rw [hu9] at h
  refine lv_iload_n hx hb dX2_pour_60 rfl (lv_at hl 4 rfl) ?_
  refine lv_iadd hx hb dX2_pour_61 ?_
  refine G_mmin C0 hl.1 (by decide +kernel) (by decide +kernel) (by decide +kernel) (by decide +kernel) ⟨Nat.le_of_ble_eq_true rfl, Nat.le_of_ble_eq_true rfl, Nat.le_of_ble_eq_true rfl, Nat.le_of_ble_eq_true rfl⟩ dX2_pour_62 ?_
  refine S_callVv C0 hK h (c_X2_setTank l z M2 i (by omega) 4 (by omega) (qmin 99 ((mA M2 (8 * i + 4)) + y))) (cwV 3 hts gX2_pour_X2_setTank rfl rfl rfl (by decide +kernel) ⟨Nat.le_of_ble_eq_true rfl, Nat.le_of_ble_eq_true rfl⟩) (k := 55) (ci := 2) (by omega) (fun ct hA => hA.1) rfl rfl rfl hl.1 (rest := []) rfl (Nat.le_of_ble_eq_true rfl) ⟨Nat.le_of_ble_eq_true rfl, Nat.le_of_ble_eq_true rfl⟩ dX2_pour_65 (fun u H locs hp h => ?_)
  obtain ⟨M3, eM3⟩ : ∃ z9, z9 = mSetT M2 i 4 (qmin 99 ((mA M2 (8 * i + 4)) + y)) := ⟨_, rfl⟩
  rw [hp, ← eM3] at h
  exact G_vret C0 hK h (by subst eM3 eM2 eM1; rfl) (Nat.le_of_ble_eq_true rfl) (Nat.le_of_ble_eq_true rfl) dX2_pour_68
set_option maxHeartbeats 4000000 in
set_option maxRecDepth 100000 in
theorem c_X2_flow (l : Launch) (z : QZ) (M : QMs) (hk : MOk M) (k : Nat) (hkp : k < mp_ M) : GV l yX2_flow wsX2_flow ({ frames := 3, cells := 0, slots := 0, locals := 65 } : Room) z [.ref (za z 55), .int (nI k)] 0 0 (MAt z) 55 59 M (fun M' => M' = mflow M k) := by
  intro ct sz hn hq hat
  refine q_entry (lo := 55) (cc := cX2_flow) (maxL := 6) (ret := none) (by decide) rfl (Nat.le_of_ble_eq_true rfl) hn hq hat ?_
  intro p e s m below meth c ls C0 hK hsz h hl
  subst hsz
  obtain ⟨hx, hb, hr, hml, hown, hts, hlocks⟩ := id C0
  have hl : lv_has ls 6 [(0, .ref (za z 55)), (1, .int (nI k))] := hl
  have hk1 := hk.1
  have hk2 := hk.2.1
  obtain ⟨hk3, hk4, hk5, hF0, hF1⟩ := hk.2.2 k hkp
  have hk6 : k < 14 := by omega
  have hk7 : mf M k < 10 := by omega
  have hk8 : mo M k < 10 := by omega
  refine lv_aload_n hx hb dX2_flow_0 rfl (lv_at hl 0 rfl) ?_
  refine lv_iload_n hx hb dX2_flow_1 rfl (lv_at hl 1 rfl) ?_
  refine S_callVi C0 hK h (c_X2_flows l z M hk k hkp) (cwV 1 hts gX2_flow_X2_flows rfl rfl rfl (by decide +kernel) ⟨Nat.le_of_ble_eq_true rfl, Nat.le_of_ble_eq_true rfl⟩) (k := 55) (ci := 2) (by omega) (fun ct hA => hA.1) rfl rfl rfl hl.1 (rest := []) rfl (Nat.le_of_ble_eq_true rfl) ⟨Nat.le_of_ble_eq_true rfl, Nat.le_of_ble_eq_true rfl⟩ dX2_flow_2 (fun r u H locs hp h => ?_)
  obtain ⟨rfl, hu9⟩ := hp
  rw [hu9] at h
  refine lv_istore_n (lv' := [(2, .int (mflows M k)), (0, .ref (za z 55)), (1, .int (nI k))]) hx hb dX2_flow_5 rfl hl (by decide) rfl (fun ls hl => ?_)
  refine lv_aload_n hx hb dX2_flow_6 rfl (lv_at hl 1 rfl) ?_
  refine lv_iload_n hx hb dX2_flow_7 rfl (lv_at hl 2 rfl) ?_
  refine lv_iconst (v := 0) hx hb dX2_flow_8 (by decide) ?_
  refine S_callVi C0 hK h (c_X2_li l z M k (by omega) 0 (by omega)) (cwV 2 hts gX2_flow_X2_li rfl rfl rfl (by decide +kernel) ⟨Nat.le_of_ble_eq_true rfl, Nat.le_of_ble_eq_true rfl⟩) (k := 55) (ci := 2) (by omega) (fun ct hA => hA.1) rfl rfl rfl hl.1 (rest := []) rfl (Nat.le_of_ble_eq_true rfl) ⟨Nat.le_of_ble_eq_true rfl, Nat.le_of_ble_eq_true rfl⟩ dX2_flow_9 (fun r u H locs hp h => ?_)
  obtain ⟨rfl, hu9⟩ := hp
  rw [hu9] at h
  refine lv_istore_n (lv' := [(3, .int (mB M (9 * k + 0))), (2, .int (mflows M k)), (0, .ref (za z 55)), (1, .int (nI k))]) hx hb dX2_flow_12 rfl hl (by decide) rfl (fun ls hl => ?_)
  refine lv_iload_n hx hb dX2_flow_13 rfl (lv_at hl 1 rfl) ?_
  refine lv_aload_n hx hb dX2_flow_14 rfl (lv_at hl 2 rfl) ?_
  refine lv_iload_n hx hb dX2_flow_15 rfl (lv_at hl 3 rfl) ?_
  refine lv_bipush (v := 8) hx hb dX2_flow_16 (by decide) ?_
  refine S_callVi C0 hK h (c_X2_li l z M k (by omega) 8 (by omega)) (cwV 2 hts gX2_flow_X2_li rfl rfl rfl (by decide +kernel) ⟨Nat.le_of_ble_eq_true rfl, Nat.le_of_ble_eq_true rfl⟩) (k := 55) (ci := 2) (by omega) (fun ct hA => hA.1) rfl rfl rfl hl.1 (rest := [.int (mflows M k)]) rfl (Nat.le_of_ble_eq_true rfl) ⟨Nat.le_of_ble_eq_true rfl, Nat.le_of_ble_eq_true rfl⟩ dX2_flow_18 (fun r u H locs hp h => ?_)
  obtain ⟨rfl, hu9⟩ := hp
  rw [hu9] at h
  refine G_mmin C0 hl.1 (by decide +kernel) (by decide +kernel) (by decide +kernel) (by decide +kernel) ⟨Nat.le_of_ble_eq_true rfl, Nat.le_of_ble_eq_true rfl, Nat.le_of_ble_eq_true rfl, Nat.le_of_ble_eq_true rfl⟩ dX2_flow_21 ?_
  refine lv_istore (lv' := [(4, .int (qmin (mflows M k) (mB M (9 * k + 8)))), (3, .int (mB M (9 * k + 0))), (2, .int (mflows M k)), (0, .ref (za z 55)), (1, .int (nI k))]) hx hb dX2_flow_24 hl (by decide) rfl (fun ls hl => ?_)
  refine lv_aload_n hx hb dX2_flow_26 rfl (lv_at hl 3 rfl) ?_
  refine lv_iload_n hx hb dX2_flow_27 rfl (lv_at hl 4 rfl) ?_
  refine lv_iconst (v := 5) hx hb dX2_flow_28 (by decide) ?_
  refine lv_iload_n hx hb dX2_flow_29 rfl (lv_at hl 2 rfl) ?_
  refine S_callVv C0 hK h (c_X2_setPipe l z M k (by omega) 5 (by omega) (mflows M k)) (cwV 3 hts gX2_flow_X2_setPipe rfl rfl rfl (by decide +kernel) ⟨Nat.le_of_ble_eq_true rfl, Nat.le_of_ble_eq_true rfl⟩) (k := 55) (ci := 2) (by omega) (fun ct hA => hA.1) rfl rfl rfl hl.1 (rest := []) rfl (Nat.le_of_ble_eq_true rfl) ⟨Nat.le_of_ble_eq_true rfl, Nat.le_of_ble_eq_true rfl⟩ dX2_flow_30 (fun u H locs hp h => ?_)
  obtain ⟨M1, eM1⟩ : ∃ z9, z9 = mSetP M k 5 (mflows M k) := ⟨_, rfl⟩
  rw [hp, ← eM1] at h
  refine lv_aload_n hx hb dX2_flow_33 rfl (lv_at hl 3 rfl) ?_
  refine lv_iload_n hx hb dX2_flow_34 rfl (lv_at hl 4 rfl) ?_
  refine lv_bipush (v := 6) hx hb dX2_flow_35 (by decide) ?_
  refine lv_iload hx hb dX2_flow_37 (lv_at hl 0 rfl) ?_
  refine S_callVv C0 hK h (c_X2_setPipe l z M1 k (by omega) 6 (by omega) (qmin (mflows M k) (mB M (9 * k + 8)))) (cwV 3 hts gX2_flow_X2_setPipe rfl rfl rfl (by decide +kernel) ⟨Nat.le_of_ble_eq_true rfl, Nat.le_of_ble_eq_true rfl⟩) (k := 55) (ci := 2) (by omega) (fun ct hA => hA.1) rfl rfl rfl hl.1 (rest := []) rfl (Nat.le_of_ble_eq_true rfl) ⟨Nat.le_of_ble_eq_true rfl, Nat.le_of_ble_eq_true rfl⟩ dX2_flow_39 (fun u H locs hp h => ?_)
  obtain ⟨M2, eM2⟩ : ∃ z9, z9 = mSetP M1 k 6 (qmin (mflows M k) (mB M (9 * k + 8))) := ⟨_, rfl⟩
  rw [hp, ← eM2] at h
  refine lv_aload_n hx hb dX2_flow_42 rfl (lv_at hl 3 rfl) ?_
  refine lv_iload_n hx hb dX2_flow_43 rfl (lv_at hl 4 rfl) ?_
  refine lv_bipush (v := 7) hx hb dX2_flow_44 (by decide) ?_
  refine lv_aload_n hx hb dX2_flow_46 rfl (lv_at hl 3 rfl) ?_
  refine lv_iload_n hx hb dX2_flow_47 rfl (lv_at hl 4 rfl) ?_
  refine lv_bipush (v := 7) hx hb dX2_flow_48 (by decide) ?_
  refine S_callVi C0 hK h (c_X2_li l z M2 k (by omega) 7 (by omega)) (cwV 2 hts gX2_flow_X2_li rfl rfl rfl (by decide +kernel) ⟨Nat.le_of_ble_eq_true rfl, Nat.le_of_ble_eq_true rfl⟩) (k := 55) (ci := 2) (by omega) (fun ct hA => hA.1) rfl rfl rfl hl.1 (rest := [.int 7, .int (nI k), .ref (za z 55)]) rfl (Nat.le_of_ble_eq_true rfl) ⟨Nat.le_of_ble_eq_true rfl, Nat.le_of_ble_eq_true rfl⟩ dX2_flow_50 (fun r u H locs hp h => ?_)
  obtain ⟨rfl, hu9⟩ := hp
  rw [hu9] at h
  refine lv_iload hx hb dX2_flow_53 (lv_at hl 0 rfl) ?_
  refine lv_iadd hx hb dX2_flow_55 ?_
  refine S_callVv C0 hK h (c_X2_setPipe l z M2 k (by omega) 7 (by omega) ((mB M2 (9 * k + 7)) + (qmin (mflows M k) (mB M (9 * k + 8))))) (cwV 3 hts gX2_flow_X2_setPipe rfl rfl rfl (by decide +kernel) ⟨Nat.le_of_ble_eq_true rfl, Nat.le_of_ble_eq_true rfl⟩) (k := 55) (ci := 2) (by omega) (fun ct hA => hA.1) rfl rfl rfl hl.1 (rest := []) rfl (Nat.le_of_ble_eq_true rfl) ⟨Nat.le_of_ble_eq_true rfl, Nat.le_of_ble_eq_true rfl⟩ dX2_flow_56 (fun u H locs hp h => ?_)
  obtain ⟨M3, eM3⟩ : ∃ z9, z9 = mSetP M2 k 7 ((mB M2 (9 * k + 7)) + (qmin (mflows M k) (mB M (9 * k + 8)))) := ⟨_, rfl⟩
  rw [hp, ← eM3] at h
  refine lv_iload_n hx hb dX2_flow_59 rfl (lv_at hl 2 rfl) ?_
  refine lv_if_ne (tgt := 64) hx hb dX2_flow_60 (by decide) (fun c_60 => ?_) (fun c_60 => ?_)
  · refine lv_aload_n hx hb dX2_flow_64 rfl (lv_at hl 3 rfl) ?_
    refine lv_iload_n hx hb dX2_flow_65 rfl (lv_at hl 1 rfl) ?_
    refine lv_iconst (v := 4) hx hb dX2_flow_66 (by decide) ?_
    refine S_callVi C0 hK h (c_X2_la l z M3 (mf M k) (by omega) 4 (by omega)) (cwV 2 hts gX2_flow_X2_la rfl rfl rfl (by decide +kernel) ⟨Nat.le_of_ble_eq_true rfl, Nat.le_of_ble_eq_true rfl⟩) (k := 55) (ci := 2) (by omega) (fun ct hA => hA.1) rfl rfl rfl hl.1 (rest := []) (by rw [hF0]; rfl) (Nat.le_of_ble_eq_true rfl) ⟨Nat.le_of_ble_eq_true rfl, Nat.le_of_ble_eq_true rfl⟩ dX2_flow_67 (fun r u H locs hp h => ?_)
    obtain ⟨rfl, hu9⟩ := hp
    rw [hu9] at h
    refine lv_iload_n hx hb dX2_flow_70 rfl (lv_at hl 2 rfl) ?_
    refine lv_imul hx hb dX2_flow_71 ?_
    refine lv_aload_n hx hb dX2_flow_72 rfl (lv_at hl 3 rfl) ?_
    refine lv_iload_n hx hb dX2_flow_73 rfl (lv_at hl 1 rfl) ?_
    refine lv_iconst (v := 3) hx hb dX2_flow_74 (by decide) ?_
    refine S_callVi C0 hK h (c_X2_la l z M3 (mf M k) (by omega) 3 (by omega)) (cwV 2 hts gX2_flow_X2_la rfl rfl rfl (by decide +kernel) ⟨Nat.le_of_ble_eq_true rfl, Nat.le_of_ble_eq_true rfl⟩) (k := 55) (ci := 2) (by omega) (fun ct hA => hA.1) rfl rfl rfl hl.1 (rest := [.int ((mA M3 (8 * (mf M k) + 4)) * (mflows M k))]) (by rw [hF0]; rfl) (Nat.le_of_ble_eq_true rfl) ⟨Nat.le_of_ble_eq_true rfl, Nat.le_of_ble_eq_true rfl⟩ dX2_flow_75 (fun r u H locs hp h => ?_)
    obtain ⟨rfl, hu9⟩ := hp
    rw [hu9] at h
    refine lv_idiv hx hb dX2_flow_78 (fun q => mflows_ne c_60 (by subst eM3 eM2 eM1; exact q)) ?_
    refine lv_istore (lv' := [(5, .int (((mA M3 (8 * (mf M k) + 4)) * (mflows M k)) / (mA M3 (8 * (mf M k) + 3)))), (4, .int (qmin (mflows M k) (mB M (9 * k + 8)))), (3, .int (mB M (9 * k + 0))), (2, .int (mflows M k)), (0, .ref (za z 55)), (1, .int (nI k))]) hx hb dX2_flow_79 hl (by decide) rfl (fun ls hl => ?_)
    refine lv_aload_n hx hb dX2_flow_81 rfl (lv_at hl 4 rfl) ?_
    refine lv_iload_n hx hb dX2_flow_82 rfl (lv_at hl 2 rfl) ?_
    refine lv_iconst (v := 3) hx hb dX2_flow_83 (by decide) ?_
    refine lv_aload_n hx hb dX2_flow_84 rfl (lv_at hl 4 rfl) ?_
    refine lv_iload_n hx hb dX2_flow_85 rfl (lv_at hl 2 rfl) ?_
    refine lv_iconst (v := 3) hx hb dX2_flow_86 (by decide) ?_
    refine S_callVi C0 hK h (c_X2_la l z M3 (mf M k) (by omega) 3 (by omega)) (cwV 2 hts gX2_flow_X2_la rfl rfl rfl (by decide +kernel) ⟨Nat.le_of_ble_eq_true rfl, Nat.le_of_ble_eq_true rfl⟩) (k := 55) (ci := 2) (by omega) (fun ct hA => hA.1) rfl rfl rfl hl.1 (rest := [.int 3, .int (mB M (9 * k + 0)), .ref (za z 55)]) (by rw [hF0]; rfl) (Nat.le_of_ble_eq_true rfl) ⟨Nat.le_of_ble_eq_true rfl, Nat.le_of_ble_eq_true rfl⟩ dX2_flow_87 (fun r u H locs hp h => ?_)
    obtain ⟨rfl, hu9⟩ := hp
    rw [hu9] at h
    refine lv_iload_n hx hb dX2_flow_90 rfl (lv_at hl 3 rfl) ?_
    refine lv_isub hx hb dX2_flow_91 ?_
    refine S_callVv C0 hK h (c_X2_setTank l z M3 (mf M k) (by omega) 3 (by omega) ((mA M3 (8 * (mf M k) + 3)) - (mflows M k))) (cwV 3 hts gX2_flow_X2_setTank rfl rfl rfl (by decide +kernel) ⟨Nat.le_of_ble_eq_true rfl, Nat.le_of_ble_eq_true rfl⟩) (k := 55) (ci := 2) (by omega) (fun ct hA => hA.1) rfl rfl rfl hl.1 (rest := []) (by rw [hF0]; rfl) (Nat.le_of_ble_eq_true rfl) ⟨Nat.le_of_ble_eq_true rfl, Nat.le_of_ble_eq_true rfl⟩ dX2_flow_92 (fun u H locs hp h => ?_)
    obtain ⟨M4, eM4⟩ : ∃ z9, z9 = mSetT M3 (mf M k) 3 ((mA M3 (8 * (mf M k) + 3)) - (mflows M k)) := ⟨_, rfl⟩
    rw [hp, ← eM4] at h
    refine lv_aload_n hx hb dX2_flow_95 rfl (lv_at hl 4 rfl) ?_
    refine lv_iload_n hx hb dX2_flow_96 rfl (lv_at hl 2 rfl) ?_
    refine lv_iconst (v := 4) hx hb dX2_flow_97 (by decide) ?_
    refine lv_aload_n hx hb dX2_flow_98 rfl (lv_at hl 4 rfl) ?_
    refine lv_iload_n hx hb dX2_flow_99 rfl (lv_at hl 2 rfl) ?_
    refine lv_iconst (v := 4) hx hb dX2_flow_100 (by decide) ?_
    refine S_callVi C0 hK h (c_X2_la l z M4 (mf M k) (by omega) 4 (by omega)) (cwV 2 hts gX2_flow_X2_la rfl rfl rfl (by decide +kernel) ⟨Nat.le_of_ble_eq_true rfl, Nat.le_of_ble_eq_true rfl⟩) (k := 55) (ci := 2) (by omega) (fun ct hA => hA.1) rfl rfl rfl hl.1 (rest := [.int 4, .int (mB M (9 * k + 0)), .ref (za z 55)]) (by rw [hF0]; rfl) (Nat.le_of_ble_eq_true rfl) ⟨Nat.le_of_ble_eq_true rfl, Nat.le_of_ble_eq_true rfl⟩ dX2_flow_101 (fun r u H locs hp h => ?_)
    obtain ⟨rfl, hu9⟩ := hp
    rw [hu9] at h
    refine lv_iload hx hb dX2_flow_104 (lv_at hl 0 rfl) ?_
    refine lv_isub hx hb dX2_flow_106 ?_
    refine S_callVv C0 hK h (c_X2_setTank l z M4 (mf M k) (by omega) 4 (by omega) ((mA M4 (8 * (mf M k) + 4)) - (((mA M3 (8 * (mf M k) + 4)) * (mflows M k)) / (mA M3 (8 * (mf M k) + 3))))) (cwV 3 hts gX2_flow_X2_setTank rfl rfl rfl (by decide +kernel) ⟨Nat.le_of_ble_eq_true rfl, Nat.le_of_ble_eq_true rfl⟩) (k := 55) (ci := 2) (by omega) (fun ct hA => hA.1) rfl rfl rfl hl.1 (rest := []) (by rw [hF0]; rfl) (Nat.le_of_ble_eq_true rfl) ⟨Nat.le_of_ble_eq_true rfl, Nat.le_of_ble_eq_true rfl⟩ dX2_flow_107 (fun u H locs hp h => ?_)
    obtain ⟨M5, eM5⟩ : ∃ z9, z9 = mSetT M4 (mf M k) 4 ((mA M4 (8 * (mf M k) + 4)) - (((mA M3 (8 * (mf M k) + 4)) * (mflows M k)) / (mA M3 (8 * (mf M k) + 3)))) := ⟨_, rfl⟩
    rw [hp, ← eM5] at h
    refine lv_aload_n hx hb dX2_flow_110 rfl (lv_at hl 4 rfl) ?_
    have hF9 : mB M5 (9 * k + 1) = nI (mo M k) := by
      have hG9 : mB M5 (9 * k + 1) = mB M (9 * k + 1) := by subst eM5 eM4 eM3 eM2 eM1; simp only [mSetP, mSetT, mB_uB, mB_uA]; rw [pk_un (by omega), pk_un (by omega), pk_un (by omega)]
      rw [hG9]; exact hF1
    refine lv_aload_n hx hb dX2_flow_111 rfl (lv_at hl 4 rfl) ?_
    refine lv_iload_n hx hb dX2_flow_112 rfl (lv_at hl 5 rfl) ?_
    refine lv_iconst (v := 1) hx hb dX2_flow_113 (by decide) ?_
    refine S_callVi C0 hK h (c_X2_li l z M5 k (by omega) 1 (by omega)) (cwV 2 hts gX2_flow_X2_li rfl rfl rfl (by decide +kernel) ⟨Nat.le_of_ble_eq_true rfl, Nat.le_of_ble_eq_true rfl⟩) (k := 55) (ci := 2) (by omega) (fun ct hA => hA.1) rfl rfl rfl hl.1 (rest := [.ref (za z 55)]) rfl (Nat.le_of_ble_eq_true rfl) ⟨Nat.le_of_ble_eq_true rfl, Nat.le_of_ble_eq_true rfl⟩ dX2_flow_114 (fun r u H locs hp h => ?_)
    obtain ⟨rfl, hu9⟩ := hp
    rw [hu9] at h
    refine lv_iload_n hx hb dX2_flow_117 rfl (lv_at hl 3 rfl) ?_
    refine lv_iload hx hb dX2_flow_118 (lv_at hl 1 rfl) ?_
    refine lv_isub hx hb dX2_flow_120 ?_
    refine lv_iload hx hb dX2_flow_121 (lv_at hl 0 rfl) ?_
    refine S_callVv C0 hK h (c_X2_pour l z M5 (mo M k) (by omega) ((mflows M k) - (qmin (mflows M k) (mB M (9 * k + 8)))) (((mA M3 (8 * (mf M k) + 4)) * (mflows M k)) / (mA M3 (8 * (mf M k) + 3)))) (cwV 3 hts gX2_flow_X2_pour rfl rfl rfl (by decide +kernel) ⟨Nat.le_of_ble_eq_true rfl, Nat.le_of_ble_eq_true rfl⟩) (k := 55) (ci := 2) (by omega) (fun ct hA => hA.1) rfl rfl rfl hl.1 (rest := []) (by rw [hF9]; rfl) (Nat.le_of_ble_eq_true rfl) ⟨Nat.le_of_ble_eq_true rfl, Nat.le_of_ble_eq_true rfl⟩ dX2_flow_123 (fun u H locs hp h => ?_)
    obtain ⟨M6, eM6⟩ : ∃ z9, z9 = mPour M5 (mo M k) ((mflows M k) - (qmin (mflows M k) (mB M (9 * k + 8)))) (((mA M3 (8 * (mf M k) + 4)) * (mflows M k)) / (mA M3 (8 * (mf M k) + 3))) := ⟨_, rfl⟩
    rw [hp, ← eM6] at h
    exact G_vret C0 hK h (by subst eM6 eM5 eM4 eM3 eM2 eM1; unfold mflow; simp only []; rw [if_neg c_60]) (Nat.le_of_ble_eq_true rfl) (Nat.le_of_ble_eq_true rfl) dX2_flow_126
  · exact G_vret C0 hK h (by subst eM3 eM2 eM1; unfold mflow; simp only []; rw [if_pos c_60]) (Nat.le_of_ble_eq_true rfl) (Nat.le_of_ble_eq_true rfl) dX2_flow_63
set_option maxHeartbeats 4000000 in
set_option maxRecDepth 100000 in
theorem c_X2_dayOn (l : Launch) (z : QZ) (M : QMs) (hk : MOk M) : GV l yX2_dayOn wsX2_dayOn ({ frames := 4, cells := 0, slots := 0, locals := 90 } : Room) z [.ref (za z 55)] 0 0 (MAt z) 55 59 M (fun M' => M' = mday M) := by
  intro ct sz hn hq hat
  refine q_entry (lo := 55) (cc := cX2_dayOn) (maxL := 4) (ret := none) (by decide) rfl (Nat.le_of_ble_eq_true rfl) hn hq hat ?_
  intro p e s m below meth c ls C0 hK hsz h hl
  subst hsz
  obtain ⟨hx, hb, hr, hml, hown, hts, hlocks⟩ := id C0
  have hin2 : ∀ w ∈ u_ws RX2 TX2 6, w ∈ wsX2_dayOn := by decide +kernel
  have hl : lv_has ls 4 [(0, .ref (za z 55))] := hl
  have hk1 := hk.1
  have hk2 := hk.2.1
  have L113 : ∀ (Mb : QMs) (hkb : MOk Mb) (hq9 : uY (itN mdrinkF (mt_ Mb) Mb) (upd (mY (itN mdrinkF (mt_ Mb) Mb)) 0 (mY (itN mdrinkF (mt_ Mb) Mb) 0 + 1)) = mday M) (d i : Nat), i + d = mt_ Mb → ∀ (H : Heap) (locs : List Loc) (ls : Array Slot), GW z (MAt z) 55 59 s.heap ct (itN mdrinkF i Mb) H locs → lv_has ls 4 [(1, .int (nI i)), (0, .ref (za z 55))] → W p l e ({ frames := 4, cells := 0, slots := 0, locals := 90 } : Room) s m [.ref (za z 55)].toArray below meth c H locs 0 0 (EV z (MAt z) 55 59 ct s below [.ref (za z 55)] 0 0 (fun M' => M' = mday M)) (F0 m 113 ls []) := by
    intro Mb hkb hq9 d
    induction d with
    | zero =>
      intro i hdi H locs ls h hl
      have hEi : i = mt_ Mb := by omega
      have hkc := hkb.1
      obtain ⟨S1, eS1⟩ : ∃ z9, z9 = itN mdrinkF i Mb := ⟨_, rfl⟩
      rw [← eS1] at h
      have hs9 : MShp Mb S1 := by rw [eS1]; exact mshp_it (f := mdrinkF) (fun _ _ => mshp_drink) Mb i
      have hs1 := hs9.1
      have hs2 := hs9.2.1
      have hk9 := hs9.ok hkb
      refine lv_iload_n hx hb dX2_dayOn_113 rfl (lv_at hl 0 rfl) ?_
      refine lv_aload_n hx hb dX2_dayOn_114 rfl (lv_at hl 1 rfl) ?_
      refine M_g C0 hK h hin2 1 (by decide) (by decide +kernel) rfl dX2_dayOn_115 ?_
      refine lv_icmp_ge (tgt := 204) hx hb dX2_dayOn_118 (by decide) (fun _ => ?_) (fun q9 => absurd (nI_le (by omega) (by omega)) q9)
      refine lv_aload_n hx hb dX2_dayOn_204 rfl (lv_at hl 1 rfl) ?_
      refine M_g C0 hK h hin2 5 (by decide) (by decide +kernel) rfl dX2_dayOn_205 ?_
      refine lv_iconst (v := 0) hx hb dX2_dayOn_208 (by decide) ?_
      refine lv_dup2_11 hx hb dX2_dayOn_209 rfl rfl ?_
      refine M_ldY C0 hK h (k := 0) rfl (by omega) dX2_dayOn_210 ?_
      refine lv_iconst (v := 1) hx hb dX2_dayOn_211 (by decide) ?_
      refine lv_iadd hx hb dX2_dayOn_212 ?_
      refine N_stY C0 hK h (k := 0) rfl (by omega) dX2_dayOn_213 (fun H locs M2 eM2 h => ?_)
      exact G_vret C0 hK h (by subst eM2; rw [← hq9, eS1, hEi]) (Nat.le_of_ble_eq_true rfl) (Nat.le_of_ble_eq_true rfl) dX2_dayOn_214
    | succ d ihL113 =>
      intro i hdi H locs ls h hl
      have hEi : i < mt_ Mb := by omega
      have hkc := hkb.1
      obtain ⟨S3, eS3⟩ : ∃ z9, z9 = itN mdrinkF i Mb := ⟨_, rfl⟩
      rw [← eS3] at h
      have hs9 : MShp Mb S3 := by rw [eS3]; exact mshp_it (f := mdrinkF) (fun _ _ => mshp_drink) Mb i
      have hs1 := hs9.1
      have hs2 := hs9.2.1
      have hk9 := hs9.ok hkb
      refine lv_iload_n hx hb dX2_dayOn_113 rfl (lv_at hl 0 rfl) ?_
      refine lv_aload_n hx hb dX2_dayOn_114 rfl (lv_at hl 1 rfl) ?_
      refine M_g C0 hK h hin2 1 (by decide) (by decide +kernel) rfl dX2_dayOn_115 ?_
      refine lv_icmp_ge (tgt := 204) hx hb dX2_dayOn_118 (by decide) (fun q9 => absurd q9 (nI_ge (by omega) (by omega))) (fun _ => ?_)
      refine lv_aload_n hx hb dX2_dayOn_121 rfl (lv_at hl 1 rfl) ?_
      refine lv_iload_n hx hb dX2_dayOn_122 rfl (lv_at hl 0 rfl) ?_
      refine lv_iconst (v := 4) hx hb dX2_dayOn_123 (by decide) ?_
      refine S_callVi C0 hK h (c_X2_la l z S3 i (by omega) 4 (by omega)) (cwV 2 hts gX2_dayOn_X2_la rfl rfl rfl (by decide +kernel) ⟨Nat.le_of_ble_eq_true rfl, Nat.le_of_ble_eq_true rfl⟩) (k := 55) (ci := 2) (by omega) (fun ct hA => hA.1) rfl rfl rfl hl.1 (rest := []) rfl (Nat.le_of_ble_eq_true rfl) ⟨Nat.le_of_ble_eq_true rfl, Nat.le_of_ble_eq_true rfl⟩ dX2_dayOn_124 (fun r u H locs hp h => ?_)
      obtain ⟨rfl, hu9⟩ := hp
      rw [hu9] at h
      refine lv_bipush (v := 50) hx hb dX2_dayOn_127 (by decide) ?_
      refine lv_icmp_lt (tgt := 143) hx hb dX2_dayOn_129 (by decide) (fun c_129 => ?_) (fun c_129 => ?_)
      · refine lv_aload_n hx hb dX2_dayOn_143 rfl (lv_at hl 1 rfl) ?_
        refine lv_iload_n hx hb dX2_dayOn_144 rfl (lv_at hl 0 rfl) ?_
        refine lv_iconst (v := 2) hx hb dX2_dayOn_145 (by decide) ?_
        refine S_callVi C0 hK h (c_X2_la l z S3 i (by omega) 2 (by omega)) (cwV 2 hts gX2_dayOn_X2_la rfl rfl rfl (by decide +kernel) ⟨Nat.le_of_ble_eq_true rfl, Nat.le_of_ble_eq_true rfl⟩) (k := 55) (ci := 2) (by omega) (fun ct hA => hA.1) rfl rfl rfl hl.1 (rest := []) rfl (Nat.le_of_ble_eq_true rfl) ⟨Nat.le_of_ble_eq_true rfl, Nat.le_of_ble_eq_true rfl⟩ dX2_dayOn_146 (fun r u H locs hp h => ?_)
        obtain ⟨rfl, hu9⟩ := hp
        rw [hu9] at h
        refine lv_istore_n (lv' := [(2, .int (mA S3 (8 * i + 2))), (1, .int (nI i)), (0, .ref (za z 55))]) hx hb dX2_dayOn_149 rfl hl (by decide) rfl (fun ls hl => ?_)
        refine lv_iload_n hx hb dX2_dayOn_150 rfl (lv_at hl 0 rfl) ?_
        refine lv_aload_n hx hb dX2_dayOn_151 rfl (lv_at hl 2 rfl) ?_
        refine lv_iload_n hx hb dX2_dayOn_152 rfl (lv_at hl 1 rfl) ?_
        refine lv_iconst (v := 3) hx hb dX2_dayOn_153 (by decide) ?_
        refine S_callVi C0 hK h (c_X2_la l z S3 i (by omega) 3 (by omega)) (cwV 2 hts gX2_dayOn_X2_la rfl rfl rfl (by decide +kernel) ⟨Nat.le_of_ble_eq_true rfl, Nat.le_of_ble_eq_true rfl⟩) (k := 55) (ci := 2) (by omega) (fun ct hA => hA.1) rfl rfl rfl hl.1 (rest := [.int (mA S3 (8 * i + 2))]) rfl (Nat.le_of_ble_eq_true rfl) ⟨Nat.le_of_ble_eq_true rfl, Nat.le_of_ble_eq_true rfl⟩ dX2_dayOn_154 (fun r u H locs hp h => ?_)
        obtain ⟨rfl, hu9⟩ := hp
        rw [hu9] at h
        refine G_mmin C0 hl.1 (by decide +kernel) (by decide +kernel) (by decide +kernel) (by decide +kernel) ⟨Nat.le_of_ble_eq_true rfl, Nat.le_of_ble_eq_true rfl, Nat.le_of_ble_eq_true rfl, Nat.le_of_ble_eq_true rfl⟩ dX2_dayOn_157 ?_
        refine lv_istore_n (lv' := [(3, .int (qmin (mA S3 (8 * i + 2)) (mA S3 (8 * i + 3)))), (2, .int (mA S3 (8 * i + 2))), (1, .int (nI i)), (0, .ref (za z 55))]) hx hb dX2_dayOn_160 rfl hl (by decide) rfl (fun ls hl => ?_)
        refine lv_aload_n hx hb dX2_dayOn_161 rfl (lv_at hl 3 rfl) ?_
        refine lv_iload_n hx hb dX2_dayOn_162 rfl (lv_at hl 2 rfl) ?_
        refine lv_iconst (v := 3) hx hb dX2_dayOn_163 (by decide) ?_
        refine lv_aload_n hx hb dX2_dayOn_164 rfl (lv_at hl 3 rfl) ?_
        refine lv_iload_n hx hb dX2_dayOn_165 rfl (lv_at hl 2 rfl) ?_
        refine lv_iconst (v := 3) hx hb dX2_dayOn_166 (by decide) ?_
        refine S_callVi C0 hK h (c_X2_la l z S3 i (by omega) 3 (by omega)) (cwV 2 hts gX2_dayOn_X2_la rfl rfl rfl (by decide +kernel) ⟨Nat.le_of_ble_eq_true rfl, Nat.le_of_ble_eq_true rfl⟩) (k := 55) (ci := 2) (by omega) (fun ct hA => hA.1) rfl rfl rfl hl.1 (rest := [.int 3, .int (nI i), .ref (za z 55)]) rfl (Nat.le_of_ble_eq_true rfl) ⟨Nat.le_of_ble_eq_true rfl, Nat.le_of_ble_eq_true rfl⟩ dX2_dayOn_167 (fun r u H locs hp h => ?_)
        obtain ⟨rfl, hu9⟩ := hp
        rw [hu9] at h
        refine lv_iload_n hx hb dX2_dayOn_170 rfl (lv_at hl 0 rfl) ?_
        refine lv_isub hx hb dX2_dayOn_171 ?_
        refine S_callVv C0 hK h (c_X2_setTank l z S3 i (by omega) 3 (by omega) ((mA S3 (8 * i + 3)) - (qmin (mA S3 (8 * i + 2)) (mA S3 (8 * i + 3))))) (cwV 3 hts gX2_dayOn_X2_setTank rfl rfl rfl (by decide +kernel) ⟨Nat.le_of_ble_eq_true rfl, Nat.le_of_ble_eq_true rfl⟩) (k := 55) (ci := 2) (by omega) (fun ct hA => hA.1) rfl rfl rfl hl.1 (rest := []) rfl (Nat.le_of_ble_eq_true rfl) ⟨Nat.le_of_ble_eq_true rfl, Nat.le_of_ble_eq_true rfl⟩ dX2_dayOn_172 (fun u H locs hp h => ?_)
        obtain ⟨M4, eM4⟩ : ∃ z9, z9 = mSetT S3 i 3 ((mA S3 (8 * i + 3)) - (qmin (mA S3 (8 * i + 2)) (mA S3 (8 * i + 3)))) := ⟨_, rfl⟩
        rw [hp, ← eM4] at h
        refine lv_aload_n hx hb dX2_dayOn_175 rfl (lv_at hl 3 rfl) ?_
        refine lv_iload_n hx hb dX2_dayOn_176 rfl (lv_at hl 2 rfl) ?_
        refine lv_iconst (v := 5) hx hb dX2_dayOn_177 (by decide) ?_
        refine lv_iload_n hx hb dX2_dayOn_178 rfl (lv_at hl 0 rfl) ?_
        refine S_callVv C0 hK h (c_X2_setTank l z M4 i (by omega) 5 (by omega) (qmin (mA S3 (8 * i + 2)) (mA S3 (8 * i + 3)))) (cwV 3 hts gX2_dayOn_X2_setTank rfl rfl rfl (by decide +kernel) ⟨Nat.le_of_ble_eq_true rfl, Nat.le_of_ble_eq_true rfl⟩) (k := 55) (ci := 2) (by omega) (fun ct hA => hA.1) rfl rfl rfl hl.1 (rest := []) rfl (Nat.le_of_ble_eq_true rfl) ⟨Nat.le_of_ble_eq_true rfl, Nat.le_of_ble_eq_true rfl⟩ dX2_dayOn_179 (fun u H locs hp h => ?_)
        obtain ⟨M5, eM5⟩ : ∃ z9, z9 = mSetT M4 i 5 (qmin (mA S3 (8 * i + 2)) (mA S3 (8 * i + 3))) := ⟨_, rfl⟩
        rw [hp, ← eM5] at h
        refine lv_aload_n hx hb dX2_dayOn_182 rfl (lv_at hl 3 rfl) ?_
        refine lv_iload_n hx hb dX2_dayOn_183 rfl (lv_at hl 2 rfl) ?_
        refine lv_bipush (v := 6) hx hb dX2_dayOn_184 (by decide) ?_
        refine lv_aload_n hx hb dX2_dayOn_186 rfl (lv_at hl 3 rfl) ?_
        refine lv_iload_n hx hb dX2_dayOn_187 rfl (lv_at hl 2 rfl) ?_
        refine lv_bipush (v := 6) hx hb dX2_dayOn_188 (by decide) ?_
        refine S_callVi C0 hK h (c_X2_la l z M5 i (by omega) 6 (by omega)) (cwV 2 hts gX2_dayOn_X2_la rfl rfl rfl (by decide +kernel) ⟨Nat.le_of_ble_eq_true rfl, Nat.le_of_ble_eq_true rfl⟩) (k := 55) (ci := 2) (by omega) (fun ct hA => hA.1) rfl rfl rfl hl.1 (rest := [.int 6, .int (nI i), .ref (za z 55)]) rfl (Nat.le_of_ble_eq_true rfl) ⟨Nat.le_of_ble_eq_true rfl, Nat.le_of_ble_eq_true rfl⟩ dX2_dayOn_190 (fun r u H locs hp h => ?_)
        obtain ⟨rfl, hu9⟩ := hp
        rw [hu9] at h
        refine lv_iload_n hx hb dX2_dayOn_193 rfl (lv_at hl 0 rfl) ?_
        refine lv_iadd hx hb dX2_dayOn_194 ?_
        refine S_callVv C0 hK h (c_X2_setTank l z M5 i (by omega) 6 (by omega) ((mA M5 (8 * i + 6)) + (qmin (mA S3 (8 * i + 2)) (mA S3 (8 * i + 3))))) (cwV 3 hts gX2_dayOn_X2_setTank rfl rfl rfl (by decide +kernel) ⟨Nat.le_of_ble_eq_true rfl, Nat.le_of_ble_eq_true rfl⟩) (k := 55) (ci := 2) (by omega) (fun ct hA => hA.1) rfl rfl rfl hl.1 (rest := []) rfl (Nat.le_of_ble_eq_true rfl) ⟨Nat.le_of_ble_eq_true rfl, Nat.le_of_ble_eq_true rfl⟩ dX2_dayOn_195 (fun u H locs hp h => ?_)
        obtain ⟨M6, eM6⟩ : ∃ z9, z9 = mSetT M5 i 6 ((mA M5 (8 * i + 6)) + (qmin (mA S3 (8 * i + 2)) (mA S3 (8 * i + 3)))) := ⟨_, rfl⟩
        rw [hp, ← eM6] at h
        refine lv_iinc (v := nI (i + 1)) (lv' := [(1, .int (nI (i + 1))), (3, .int (qmin (mA S3 (8 * i + 2)) (mA S3 (8 * i + 3)))), (2, .int (mA S3 (8 * i + 2))), (0, .ref (za z 55))]) hx hb dX2_dayOn_198 hl (k := 2) rfl (q_inc i 1) (by decide) rfl (fun ls hl => ?_)
        refine lv_goto (tgt := 113) hx hb dX2_dayOn_201 (by decide) ?_
        exact ihL113 (i + 1) (by omega) _ _ _ (by subst eM6 eM5 eM4; subst eS3; have e9 : itN mdrinkF (i + 1) Mb = mdrink (itN mdrinkF i Mb) i := rfl; rw [e9]; unfold mdrink; simp only []; rw [if_pos c_129]; exact h) (lv_sub hl [0, 3] rfl)
      · refine lv_aload_n hx hb dX2_dayOn_132 rfl (lv_at hl 1 rfl) ?_
        refine lv_iload_n hx hb dX2_dayOn_133 rfl (lv_at hl 0 rfl) ?_
        refine lv_iconst (v := 2) hx hb dX2_dayOn_134 (by decide) ?_
        refine S_callVi C0 hK h (c_X2_la l z S3 i (by omega) 2 (by omega)) (cwV 2 hts gX2_dayOn_X2_la rfl rfl rfl (by decide +kernel) ⟨Nat.le_of_ble_eq_true rfl, Nat.le_of_ble_eq_true rfl⟩) (k := 55) (ci := 2) (by omega) (fun ct hA => hA.1) rfl rfl rfl hl.1 (rest := []) rfl (Nat.le_of_ble_eq_true rfl) ⟨Nat.le_of_ble_eq_true rfl, Nat.le_of_ble_eq_true rfl⟩ dX2_dayOn_135 (fun r u H locs hp h => ?_)
        obtain ⟨rfl, hu9⟩ := hp
        rw [hu9] at h
        refine lv_iconst (v := 2) hx hb dX2_dayOn_138 (by decide) ?_
        refine lv_idiv hx hb dX2_dayOn_139 (by decide) ?_
        refine lv_goto (tgt := 149) hx hb dX2_dayOn_140 (by decide) ?_
        refine lv_istore_n (lv' := [(2, .int ((mA S3 (8 * i + 2)) / 2)), (1, .int (nI i)), (0, .ref (za z 55))]) hx hb dX2_dayOn_149 rfl hl (by decide) rfl (fun ls hl => ?_)
        refine lv_iload_n hx hb dX2_dayOn_150 rfl (lv_at hl 0 rfl) ?_
        refine lv_aload_n hx hb dX2_dayOn_151 rfl (lv_at hl 2 rfl) ?_
        refine lv_iload_n hx hb dX2_dayOn_152 rfl (lv_at hl 1 rfl) ?_
        refine lv_iconst (v := 3) hx hb dX2_dayOn_153 (by decide) ?_
        refine S_callVi C0 hK h (c_X2_la l z S3 i (by omega) 3 (by omega)) (cwV 2 hts gX2_dayOn_X2_la rfl rfl rfl (by decide +kernel) ⟨Nat.le_of_ble_eq_true rfl, Nat.le_of_ble_eq_true rfl⟩) (k := 55) (ci := 2) (by omega) (fun ct hA => hA.1) rfl rfl rfl hl.1 (rest := [.int ((mA S3 (8 * i + 2)) / 2)]) rfl (Nat.le_of_ble_eq_true rfl) ⟨Nat.le_of_ble_eq_true rfl, Nat.le_of_ble_eq_true rfl⟩ dX2_dayOn_154 (fun r u H locs hp h => ?_)
        obtain ⟨rfl, hu9⟩ := hp
        rw [hu9] at h
        refine G_mmin C0 hl.1 (by decide +kernel) (by decide +kernel) (by decide +kernel) (by decide +kernel) ⟨Nat.le_of_ble_eq_true rfl, Nat.le_of_ble_eq_true rfl, Nat.le_of_ble_eq_true rfl, Nat.le_of_ble_eq_true rfl⟩ dX2_dayOn_157 ?_
        refine lv_istore_n (lv' := [(3, .int (qmin ((mA S3 (8 * i + 2)) / 2) (mA S3 (8 * i + 3)))), (2, .int ((mA S3 (8 * i + 2)) / 2)), (1, .int (nI i)), (0, .ref (za z 55))]) hx hb dX2_dayOn_160 rfl hl (by decide) rfl (fun ls hl => ?_)
        refine lv_aload_n hx hb dX2_dayOn_161 rfl (lv_at hl 3 rfl) ?_
        refine lv_iload_n hx hb dX2_dayOn_162 rfl (lv_at hl 2 rfl) ?_
        refine lv_iconst (v := 3) hx hb dX2_dayOn_163 (by decide) ?_
        refine lv_aload_n hx hb dX2_dayOn_164 rfl (lv_at hl 3 rfl) ?_
        refine lv_iload_n hx hb dX2_dayOn_165 rfl (lv_at hl 2 rfl) ?_
        refine lv_iconst (v := 3) hx hb dX2_dayOn_166 (by decide) ?_
        refine S_callVi C0 hK h (c_X2_la l z S3 i (by omega) 3 (by omega)) (cwV 2 hts gX2_dayOn_X2_la rfl rfl rfl (by decide +kernel) ⟨Nat.le_of_ble_eq_true rfl, Nat.le_of_ble_eq_true rfl⟩) (k := 55) (ci := 2) (by omega) (fun ct hA => hA.1) rfl rfl rfl hl.1 (rest := [.int 3, .int (nI i), .ref (za z 55)]) rfl (Nat.le_of_ble_eq_true rfl) ⟨Nat.le_of_ble_eq_true rfl, Nat.le_of_ble_eq_true rfl⟩ dX2_dayOn_167 (fun r u H locs hp h => ?_)
        obtain ⟨rfl, hu9⟩ := hp
        rw [hu9] at h
        refine lv_iload_n hx hb dX2_dayOn_170 rfl (lv_at hl 0 rfl) ?_
        refine lv_isub hx hb dX2_dayOn_171 ?_
        refine S_callVv C0 hK h (c_X2_setTank l z S3 i (by omega) 3 (by omega) ((mA S3 (8 * i + 3)) - (qmin ((mA S3 (8 * i + 2)) / 2) (mA S3 (8 * i + 3))))) (cwV 3 hts gX2_dayOn_X2_setTank rfl rfl rfl (by decide +kernel) ⟨Nat.le_of_ble_eq_true rfl, Nat.le_of_ble_eq_true rfl⟩) (k := 55) (ci := 2) (by omega) (fun ct hA => hA.1) rfl rfl rfl hl.1 (rest := []) rfl (Nat.le_of_ble_eq_true rfl) ⟨Nat.le_of_ble_eq_true rfl, Nat.le_of_ble_eq_true rfl⟩ dX2_dayOn_172 (fun u H locs hp h => ?_)
        obtain ⟨M7, eM7⟩ : ∃ z9, z9 = mSetT S3 i 3 ((mA S3 (8 * i + 3)) - (qmin ((mA S3 (8 * i + 2)) / 2) (mA S3 (8 * i + 3)))) := ⟨_, rfl⟩
        rw [hp, ← eM7] at h
        refine lv_aload_n hx hb dX2_dayOn_175 rfl (lv_at hl 3 rfl) ?_
        refine lv_iload_n hx hb dX2_dayOn_176 rfl (lv_at hl 2 rfl) ?_
        refine lv_iconst (v := 5) hx hb dX2_dayOn_177 (by decide) ?_
        refine lv_iload_n hx hb dX2_dayOn_178 rfl (lv_at hl 0 rfl) ?_
        refine S_callVv C0 hK h (c_X2_setTank l z M7 i (by omega) 5 (by omega) (qmin ((mA S3 (8 * i + 2)) / 2) (mA S3 (8 * i + 3)))) (cwV 3 hts gX2_dayOn_X2_setTank rfl rfl rfl (by decide +kernel) ⟨Nat.le_of_ble_eq_true rfl, Nat.le_of_ble_eq_true rfl⟩) (k := 55) (ci := 2) (by omega) (fun ct hA => hA.1) rfl rfl rfl hl.1 (rest := []) rfl (Nat.le_of_ble_eq_true rfl) ⟨Nat.le_of_ble_eq_true rfl, Nat.le_of_ble_eq_true rfl⟩ dX2_dayOn_179 (fun u H locs hp h => ?_)
        obtain ⟨M8, eM8⟩ : ∃ z9, z9 = mSetT M7 i 5 (qmin ((mA S3 (8 * i + 2)) / 2) (mA S3 (8 * i + 3))) := ⟨_, rfl⟩
        rw [hp, ← eM8] at h
        refine lv_aload_n hx hb dX2_dayOn_182 rfl (lv_at hl 3 rfl) ?_
        refine lv_iload_n hx hb dX2_dayOn_183 rfl (lv_at hl 2 rfl) ?_
        refine lv_bipush (v := 6) hx hb dX2_dayOn_184 (by decide) ?_
        refine lv_aload_n hx hb dX2_dayOn_186 rfl (lv_at hl 3 rfl) ?_
        refine lv_iload_n hx hb dX2_dayOn_187 rfl (lv_at hl 2 rfl) ?_
        refine lv_bipush (v := 6) hx hb dX2_dayOn_188 (by decide) ?_
        refine S_callVi C0 hK h (c_X2_la l z M8 i (by omega) 6 (by omega)) (cwV 2 hts gX2_dayOn_X2_la rfl rfl rfl (by decide +kernel) ⟨Nat.le_of_ble_eq_true rfl, Nat.le_of_ble_eq_true rfl⟩) (k := 55) (ci := 2) (by omega) (fun ct hA => hA.1) rfl rfl rfl hl.1 (rest := [.int 6, .int (nI i), .ref (za z 55)]) rfl (Nat.le_of_ble_eq_true rfl) ⟨Nat.le_of_ble_eq_true rfl, Nat.le_of_ble_eq_true rfl⟩ dX2_dayOn_190 (fun r u H locs hp h => ?_)
        obtain ⟨rfl, hu9⟩ := hp
        rw [hu9] at h
        refine lv_iload_n hx hb dX2_dayOn_193 rfl (lv_at hl 0 rfl) ?_
        refine lv_iadd hx hb dX2_dayOn_194 ?_
        refine S_callVv C0 hK h (c_X2_setTank l z M8 i (by omega) 6 (by omega) ((mA M8 (8 * i + 6)) + (qmin ((mA S3 (8 * i + 2)) / 2) (mA S3 (8 * i + 3))))) (cwV 3 hts gX2_dayOn_X2_setTank rfl rfl rfl (by decide +kernel) ⟨Nat.le_of_ble_eq_true rfl, Nat.le_of_ble_eq_true rfl⟩) (k := 55) (ci := 2) (by omega) (fun ct hA => hA.1) rfl rfl rfl hl.1 (rest := []) rfl (Nat.le_of_ble_eq_true rfl) ⟨Nat.le_of_ble_eq_true rfl, Nat.le_of_ble_eq_true rfl⟩ dX2_dayOn_195 (fun u H locs hp h => ?_)
        obtain ⟨M9, eM9⟩ : ∃ z9, z9 = mSetT M8 i 6 ((mA M8 (8 * i + 6)) + (qmin ((mA S3 (8 * i + 2)) / 2) (mA S3 (8 * i + 3)))) := ⟨_, rfl⟩
        rw [hp, ← eM9] at h
        refine lv_iinc (v := nI (i + 1)) (lv' := [(1, .int (nI (i + 1))), (3, .int (qmin ((mA S3 (8 * i + 2)) / 2) (mA S3 (8 * i + 3)))), (2, .int ((mA S3 (8 * i + 2)) / 2)), (0, .ref (za z 55))]) hx hb dX2_dayOn_198 hl (k := 2) rfl (q_inc i 1) (by decide) rfl (fun ls hl => ?_)
        refine lv_goto (tgt := 113) hx hb dX2_dayOn_201 (by decide) ?_
        exact ihL113 (i + 1) (by omega) _ _ _ (by subst eM9 eM8 eM7; subst eS3; have e9 : itN mdrinkF (i + 1) Mb = mdrink (itN mdrinkF i Mb) i := rfl; rw [e9]; unfold mdrink; simp only []; rw [if_neg c_129]; exact h) (lv_sub hl [0, 3] rfl)
  have L58 : ∀ (Mb : QMs) (hkb : MOk Mb) (hc9 : mY Mb 0 - mY Mb 0 / 4 * 4 = 0) (hq9 : Mb = itN mflowF (mp_ (itN mfeedF (mt_ M) M)) (itN mfeedF (mt_ M) M)) (d i : Nat), i + d = mp_ Mb → ∀ (H : Heap) (locs : List Loc) (ls : Array Slot), GW z (MAt z) 55 59 s.heap ct (itN mcrustF i Mb) H locs → lv_has ls 4 [(1, .int (nI i)), (0, .ref (za z 55))] → W p l e ({ frames := 4, cells := 0, slots := 0, locals := 90 } : Room) s m [.ref (za z 55)].toArray below meth c H locs 0 0 (EV z (MAt z) 55 59 ct s below [.ref (za z 55)] 0 0 (fun M' => M' = mday M)) (F0 m 58 ls []) := by
    intro Mb hkb hc9 hq9 d
    induction d with
    | zero =>
      intro i hdi H locs ls h hl
      have hEi : i = mp_ Mb := by omega
      have hkc := hkb.2.1
      obtain ⟨S10, eS10⟩ : ∃ z9, z9 = itN mcrustF i Mb := ⟨_, rfl⟩
      rw [← eS10] at h
      have hs9 : MShp Mb S10 := by rw [eS10]; exact mshp_it (f := mcrustF) (fun _ _ => mshp_crust) Mb i
      have hs1 := hs9.1
      have hs2 := hs9.2.1
      have hk9 := hs9.ok hkb
      have hY9 : mY S10 = mY Mb := by rw [eS10]; exact mcrust_Y Mb i
      refine lv_iload_n hx hb dX2_dayOn_58 rfl (lv_at hl 0 rfl) ?_
      refine lv_aload_n hx hb dX2_dayOn_59 rfl (lv_at hl 1 rfl) ?_
      refine M_g C0 hK h hin2 2 (by decide) (by decide +kernel) rfl dX2_dayOn_60 ?_
      refine lv_icmp_ge (tgt := 111) hx hb dX2_dayOn_63 (by decide) (fun _ => ?_) (fun q9 => absurd (nI_le (by omega) (by omega)) q9)
      refine lv_iconst (v := 0) hx hb dX2_dayOn_111 (by decide) ?_
      refine lv_istore_n (lv' := [(1, .int 0), (0, .ref (za z 55))]) hx hb dX2_dayOn_112 rfl hl (by decide) rfl (fun ls hl => ?_)
      exact L113 S10 hk9 (by rw [eS10, hEi]; subst hq9; unfold mday; simp only []; rw [if_pos hc9]) (mt_ S10) 0 (by omega) _ _ _ h (lv_sub hl [0, 1] rfl)
    | succ d ihL58 =>
      intro i hdi H locs ls h hl
      have hEi : i < mp_ Mb := by omega
      have hkc := hkb.2.1
      obtain ⟨S11, eS11⟩ : ∃ z9, z9 = itN mcrustF i Mb := ⟨_, rfl⟩
      rw [← eS11] at h
      have hs9 : MShp Mb S11 := by rw [eS11]; exact mshp_it (f := mcrustF) (fun _ _ => mshp_crust) Mb i
      have hs1 := hs9.1
      have hs2 := hs9.2.1
      have hk9 := hs9.ok hkb
      have hY9 : mY S11 = mY Mb := by rw [eS11]; exact mcrust_Y Mb i
      refine lv_iload_n hx hb dX2_dayOn_58 rfl (lv_at hl 0 rfl) ?_
      refine lv_aload_n hx hb dX2_dayOn_59 rfl (lv_at hl 1 rfl) ?_
      refine M_g C0 hK h hin2 2 (by decide) (by decide +kernel) rfl dX2_dayOn_60 ?_
      refine lv_icmp_ge (tgt := 111) hx hb dX2_dayOn_63 (by decide) (fun q9 => absurd q9 (nI_ge (by omega) (by omega))) (fun _ => ?_)
      refine lv_aload_n hx hb dX2_dayOn_66 rfl (lv_at hl 1 rfl) ?_
      refine M_g C0 hK h hin2 5 (by decide) (by decide +kernel) rfl dX2_dayOn_67 ?_
      refine lv_iconst (v := 0) hx hb dX2_dayOn_70 (by decide) ?_
      refine M_ldY C0 hK h (k := 0) rfl (by omega) dX2_dayOn_71 ?_
      refine lv_iconst (v := 4) hx hb dX2_dayOn_72 (by decide) ?_
      refine lv_irem hx hb dX2_dayOn_73 (by decide) ?_
      refine lv_if_ne (tgt := 111) hx hb dX2_dayOn_74 (by decide) (fun q9 => absurd (by rw [hY9]; exact hc9) q9) (fun _ => ?_)
      refine lv_aload_n hx hb dX2_dayOn_77 rfl (lv_at hl 1 rfl) ?_
      refine lv_iload_n hx hb dX2_dayOn_78 rfl (lv_at hl 0 rfl) ?_
      refine lv_iconst (v := 5) hx hb dX2_dayOn_79 (by decide) ?_
      refine S_callVi C0 hK h (c_X2_li l z S11 i (by omega) 5 (by omega)) (cwV 2 hts gX2_dayOn_X2_li rfl rfl rfl (by decide +kernel) ⟨Nat.le_of_ble_eq_true rfl, Nat.le_of_ble_eq_true rfl⟩) (k := 55) (ci := 2) (by omega) (fun ct hA => hA.1) rfl rfl rfl hl.1 (rest := []) rfl (Nat.le_of_ble_eq_true rfl) ⟨Nat.le_of_ble_eq_true rfl, Nat.le_of_ble_eq_true rfl⟩ dX2_dayOn_80 (fun r u H locs hp h => ?_)
      obtain ⟨rfl, hu9⟩ := hp
      rw [hu9] at h
      refine lv_if_le (tgt := 105) hx hb dX2_dayOn_83 (by decide) (fun c_83 => ?_) (fun c_83 => ?_)
      · refine lv_iinc (v := nI (i + 1)) (lv' := [(1, .int (nI (i + 1))), (0, .ref (za z 55))]) hx hb dX2_dayOn_105 hl (k := 0) rfl (q_inc i 1) (by decide) rfl (fun ls hl => ?_)
        refine lv_goto (tgt := 58) hx hb dX2_dayOn_108 (by decide) ?_
        exact ihL58 (i + 1) (by omega) _ _ _ (by subst eS11; have e9 : itN mcrustF (i + 1) Mb = mcrust (itN mcrustF i Mb) i := rfl; rw [e9]; unfold mcrust; rw [if_pos c_83]; exact h) (lv_sub hl [0, 1] rfl)
      · refine lv_aload_n hx hb dX2_dayOn_86 rfl (lv_at hl 1 rfl) ?_
        refine lv_iload_n hx hb dX2_dayOn_87 rfl (lv_at hl 0 rfl) ?_
        refine lv_iconst (v := 4) hx hb dX2_dayOn_88 (by decide) ?_
        refine lv_bipush (v := 20) hx hb dX2_dayOn_89 (by decide) ?_
        refine lv_aload_n hx hb dX2_dayOn_91 rfl (lv_at hl 1 rfl) ?_
        refine lv_iload_n hx hb dX2_dayOn_92 rfl (lv_at hl 0 rfl) ?_
        refine lv_iconst (v := 4) hx hb dX2_dayOn_93 (by decide) ?_
        refine S_callVi C0 hK h (c_X2_li l z S11 i (by omega) 4 (by omega)) (cwV 2 hts gX2_dayOn_X2_li rfl rfl rfl (by decide +kernel) ⟨Nat.le_of_ble_eq_true rfl, Nat.le_of_ble_eq_true rfl⟩) (k := 55) (ci := 2) (by omega) (fun ct hA => hA.1) rfl rfl rfl hl.1 (rest := [.int 20, .int 4, .int (nI i), .ref (za z 55)]) rfl (Nat.le_of_ble_eq_true rfl) ⟨Nat.le_of_ble_eq_true rfl, Nat.le_of_ble_eq_true rfl⟩ dX2_dayOn_94 (fun r u H locs hp h => ?_)
        obtain ⟨rfl, hu9⟩ := hp
        rw [hu9] at h
        refine lv_iconst (v := 1) hx hb dX2_dayOn_97 (by decide) ?_
        refine lv_iadd hx hb dX2_dayOn_98 ?_
        refine G_mmin C0 hl.1 (by decide +kernel) (by decide +kernel) (by decide +kernel) (by decide +kernel) ⟨Nat.le_of_ble_eq_true rfl, Nat.le_of_ble_eq_true rfl, Nat.le_of_ble_eq_true rfl, Nat.le_of_ble_eq_true rfl⟩ dX2_dayOn_99 ?_
        refine S_callVv C0 hK h (c_X2_setPipe l z S11 i (by omega) 4 (by omega) (qmin 20 ((mB S11 (9 * i + 4)) + 1))) (cwV 3 hts gX2_dayOn_X2_setPipe rfl rfl rfl (by decide +kernel) ⟨Nat.le_of_ble_eq_true rfl, Nat.le_of_ble_eq_true rfl⟩) (k := 55) (ci := 2) (by omega) (fun ct hA => hA.1) rfl rfl rfl hl.1 (rest := []) rfl (Nat.le_of_ble_eq_true rfl) ⟨Nat.le_of_ble_eq_true rfl, Nat.le_of_ble_eq_true rfl⟩ dX2_dayOn_102 (fun u H locs hp h => ?_)
        obtain ⟨M12, eM12⟩ : ∃ z9, z9 = mSetP S11 i 4 (qmin 20 ((mB S11 (9 * i + 4)) + 1)) := ⟨_, rfl⟩
        rw [hp, ← eM12] at h
        refine lv_iinc (v := nI (i + 1)) (lv' := [(1, .int (nI (i + 1))), (0, .ref (za z 55))]) hx hb dX2_dayOn_105 hl (k := 0) rfl (q_inc i 1) (by decide) rfl (fun ls hl => ?_)
        refine lv_goto (tgt := 58) hx hb dX2_dayOn_108 (by decide) ?_
        exact ihL58 (i + 1) (by omega) _ _ _ (by subst eM12; subst eS11; have e9 : itN mcrustF (i + 1) Mb = mcrust (itN mcrustF i Mb) i := rfl; rw [e9]; unfold mcrust; rw [if_neg c_83]; exact h) (lv_sub hl [0, 1] rfl)
  have L37 : ∀ (Mb : QMs) (hkb : MOk Mb) (hq9 : Mb = itN mfeedF (mt_ M) M) (d i : Nat), i + d = mp_ Mb → ∀ (H : Heap) (locs : List Loc) (ls : Array Slot), GW z (MAt z) 55 59 s.heap ct (itN mflowF i Mb) H locs → lv_has ls 4 [(1, .int (nI i)), (0, .ref (za z 55))] → W p l e ({ frames := 4, cells := 0, slots := 0, locals := 90 } : Room) s m [.ref (za z 55)].toArray below meth c H locs 0 0 (EV z (MAt z) 55 59 ct s below [.ref (za z 55)] 0 0 (fun M' => M' = mday M)) (F0 m 37 ls []) := by
    intro Mb hkb hq9 d
    induction d with
    | zero =>
      intro i hdi H locs ls h hl
      have hEi : i = mp_ Mb := by omega
      have hkc := hkb.2.1
      obtain ⟨S13, eS13⟩ : ∃ z9, z9 = itN mflowF i Mb := ⟨_, rfl⟩
      rw [← eS13] at h
      have hs9 : MShp Mb S13 := by rw [eS13]; exact mshp_it (f := mflowF) (fun _ _ => mshp_flow) Mb i
      have hs1 := hs9.1
      have hs2 := hs9.2.1
      have hk9 := hs9.ok hkb
      refine lv_iload_n hx hb dX2_dayOn_37 rfl (lv_at hl 0 rfl) ?_
      refine lv_aload_n hx hb dX2_dayOn_38 rfl (lv_at hl 1 rfl) ?_
      refine M_g C0 hK h hin2 2 (by decide) (by decide +kernel) rfl dX2_dayOn_39 ?_
      refine lv_icmp_ge (tgt := 56) hx hb dX2_dayOn_42 (by decide) (fun _ => ?_) (fun q9 => absurd (nI_le (by omega) (by omega)) q9)
      refine lv_iconst (v := 0) hx hb dX2_dayOn_56 (by decide) ?_
      refine lv_istore_n (lv' := [(1, .int 0), (0, .ref (za z 55))]) hx hb dX2_dayOn_57 rfl hl (by decide) rfl (fun ls hl => ?_)
      by_cases hc9 : mY S13 0 - mY S13 0 / 4 * 4 = 0
      · exact L58 S13 hk9 hc9 (by rw [eS13, hEi]; subst hq9; rfl) (mp_ S13) 0 (by omega) _ _ _ h (lv_sub hl [0, 1] rfl)
      · refine lv_iload_n hx hb dX2_dayOn_58 rfl (lv_at hl 0 rfl) ?_
        refine lv_aload_n hx hb dX2_dayOn_59 rfl (lv_at hl 1 rfl) ?_
        refine M_g C0 hK h hin2 2 (by decide) (by decide +kernel) rfl dX2_dayOn_60 ?_
        refine lv_icmp_ge (tgt := 111) hx hb dX2_dayOn_63 (by decide) (fun c_63 => ?_) (fun c_63 => ?_)
        · refine lv_iconst (v := 0) hx hb dX2_dayOn_111 (by decide) ?_
          refine lv_istore_n (lv' := [(1, .int 0), (0, .ref (za z 55))]) hx hb dX2_dayOn_112 rfl hl (by decide) rfl (fun ls hl => ?_)
          exact L113 S13 hk9 (by rw [eS13, hEi] at hc9 ⊢; subst hq9; unfold mday; simp only []; rw [if_neg hc9]) (mt_ S13) 0 (by omega) _ _ _ h (lv_sub hl [0, 1] rfl)
        · refine lv_aload_n hx hb dX2_dayOn_66 rfl (lv_at hl 1 rfl) ?_
          refine M_g C0 hK h hin2 5 (by decide) (by decide +kernel) rfl dX2_dayOn_67 ?_
          refine lv_iconst (v := 0) hx hb dX2_dayOn_70 (by decide) ?_
          refine M_ldY C0 hK h (k := 0) rfl (by omega) dX2_dayOn_71 ?_
          refine lv_iconst (v := 4) hx hb dX2_dayOn_72 (by decide) ?_
          refine lv_irem hx hb dX2_dayOn_73 (by decide) ?_
          refine lv_if_ne (tgt := 111) hx hb dX2_dayOn_74 (by decide) (fun _ => ?_) (fun q9 => absurd q9 hc9)
          refine lv_iconst (v := 0) hx hb dX2_dayOn_111 (by decide) ?_
          refine lv_istore_n (lv' := [(1, .int 0), (0, .ref (za z 55))]) hx hb dX2_dayOn_112 rfl hl (by decide) rfl (fun ls hl => ?_)
          exact L113 S13 hk9 (by rw [eS13, hEi] at hc9 ⊢; subst hq9; unfold mday; simp only []; rw [if_neg hc9]) (mt_ S13) 0 (by omega) _ _ _ h (lv_sub hl [0, 1] rfl)
    | succ d ihL37 =>
      intro i hdi H locs ls h hl
      have hEi : i < mp_ Mb := by omega
      have hkc := hkb.2.1
      obtain ⟨S14, eS14⟩ : ∃ z9, z9 = itN mflowF i Mb := ⟨_, rfl⟩
      rw [← eS14] at h
      have hs9 : MShp Mb S14 := by rw [eS14]; exact mshp_it (f := mflowF) (fun _ _ => mshp_flow) Mb i
      have hs1 := hs9.1
      have hs2 := hs9.2.1
      have hk9 := hs9.ok hkb
      refine lv_iload_n hx hb dX2_dayOn_37 rfl (lv_at hl 0 rfl) ?_
      refine lv_aload_n hx hb dX2_dayOn_38 rfl (lv_at hl 1 rfl) ?_
      refine M_g C0 hK h hin2 2 (by decide) (by decide +kernel) rfl dX2_dayOn_39 ?_
      refine lv_icmp_ge (tgt := 56) hx hb dX2_dayOn_42 (by decide) (fun q9 => absurd q9 (nI_ge (by omega) (by omega))) (fun _ => ?_)
      refine lv_aload_n hx hb dX2_dayOn_45 rfl (lv_at hl 1 rfl) ?_
      refine lv_iload_n hx hb dX2_dayOn_46 rfl (lv_at hl 0 rfl) ?_
      refine S_callVv C0 hK h (c_X2_flow l z S14 hk9 i (by omega)) (cwV 1 hts gX2_dayOn_X2_flow rfl rfl rfl (by decide +kernel) ⟨Nat.le_of_ble_eq_true rfl, Nat.le_of_ble_eq_true rfl⟩) (k := 55) (ci := 2) (by omega) (fun ct hA => hA.1) rfl rfl rfl hl.1 (rest := []) rfl (Nat.le_of_ble_eq_true rfl) ⟨Nat.le_of_ble_eq_true rfl, Nat.le_of_ble_eq_true rfl⟩ dX2_dayOn_47 (fun u H locs hp h => ?_)
      obtain ⟨M15, eM15⟩ : ∃ z9, z9 = mflow S14 i := ⟨_, rfl⟩
      rw [hp, ← eM15] at h
      refine lv_iinc (v := nI (i + 1)) (lv' := [(1, .int (nI (i + 1))), (0, .ref (za z 55))]) hx hb dX2_dayOn_50 hl (k := 0) rfl (q_inc i 1) (by decide) rfl (fun ls hl => ?_)
      refine lv_goto (tgt := 37) hx hb dX2_dayOn_53 (by decide) ?_
      exact ihL37 (i + 1) (by omega) _ _ _ (by subst eM15; rw [eS14] at h; exact h) (lv_sub hl [0, 1] rfl)
  have L2 : ∀ (d i : Nat), i + d = mt_ M → ∀ (H : Heap) (locs : List Loc) (ls : Array Slot), GW z (MAt z) 55 59 s.heap ct (itN mfeedF i M) H locs → lv_has ls 4 [(1, .int (nI i)), (0, .ref (za z 55))] → W p l e ({ frames := 4, cells := 0, slots := 0, locals := 90 } : Room) s m [.ref (za z 55)].toArray below meth c H locs 0 0 (EV z (MAt z) 55 59 ct s below [.ref (za z 55)] 0 0 (fun M' => M' = mday M)) (F0 m 2 ls []) := by
    intro  d
    induction d with
    | zero =>
      intro i hdi H locs ls h hl
      have hEi : i = mt_ M := by omega
      obtain ⟨S16, eS16⟩ : ∃ z9, z9 = itN mfeedF i M := ⟨_, rfl⟩
      rw [← eS16] at h
      have hs9 : MShp M S16 := by rw [eS16]; exact mshp_it (f := mfeedF) (fun _ _ => mshp_pour) M i
      have hs1 := hs9.1
      have hs2 := hs9.2.1
      have hk9 := hs9.ok hk
      refine lv_iload_n hx hb dX2_dayOn_2 rfl (lv_at hl 0 rfl) ?_
      refine lv_aload_n hx hb dX2_dayOn_3 rfl (lv_at hl 1 rfl) ?_
      refine M_g C0 hK h hin2 1 (by decide) (by decide +kernel) rfl dX2_dayOn_4 ?_
      refine lv_icmp_ge (tgt := 35) hx hb dX2_dayOn_7 (by decide) (fun _ => ?_) (fun q9 => absurd (nI_le (by omega) (by omega)) q9)
      refine lv_iconst (v := 0) hx hb dX2_dayOn_35 (by decide) ?_
      refine lv_istore_n (lv' := [(1, .int 0), (0, .ref (za z 55))]) hx hb dX2_dayOn_36 rfl hl (by decide) rfl (fun ls hl => ?_)
      exact L37 S16 hk9 (by rw [eS16, hEi]) (mp_ S16) 0 (by omega) _ _ _ h (lv_sub hl [0, 1] rfl)
    | succ d ihL2 =>
      intro i hdi H locs ls h hl
      have hEi : i < mt_ M := by omega
      obtain ⟨S17, eS17⟩ : ∃ z9, z9 = itN mfeedF i M := ⟨_, rfl⟩
      rw [← eS17] at h
      have hs9 : MShp M S17 := by rw [eS17]; exact mshp_it (f := mfeedF) (fun _ _ => mshp_pour) M i
      have hs1 := hs9.1
      have hs2 := hs9.2.1
      have hk9 := hs9.ok hk
      refine lv_iload_n hx hb dX2_dayOn_2 rfl (lv_at hl 0 rfl) ?_
      refine lv_aload_n hx hb dX2_dayOn_3 rfl (lv_at hl 1 rfl) ?_
      refine M_g C0 hK h hin2 1 (by decide) (by decide +kernel) rfl dX2_dayOn_4 ?_
      refine lv_icmp_ge (tgt := 35) hx hb dX2_dayOn_7 (by decide) (fun q9 => absurd q9 (nI_ge (by omega) (by omega))) (fun _ => ?_)
      refine lv_aload_n hx hb dX2_dayOn_10 rfl (lv_at hl 1 rfl) ?_
      refine lv_iload_n hx hb dX2_dayOn_11 rfl (lv_at hl 0 rfl) ?_
      refine lv_aload_n hx hb dX2_dayOn_12 rfl (lv_at hl 1 rfl) ?_
      refine lv_iload_n hx hb dX2_dayOn_13 rfl (lv_at hl 0 rfl) ?_
      refine lv_iconst (v := 1) hx hb dX2_dayOn_14 (by decide) ?_
      refine S_callVi C0 hK h (c_X2_la l z S17 i (by omega) 1 (by omega)) (cwV 2 hts gX2_dayOn_X2_la rfl rfl rfl (by decide +kernel) ⟨Nat.le_of_ble_eq_true rfl, Nat.le_of_ble_eq_true rfl⟩) (k := 55) (ci := 2) (by omega) (fun ct hA => hA.1) rfl rfl rfl hl.1 (rest := [.int (nI i), .ref (za z 55)]) rfl (Nat.le_of_ble_eq_true rfl) ⟨Nat.le_of_ble_eq_true rfl, Nat.le_of_ble_eq_true rfl⟩ dX2_dayOn_15 (fun r u H locs hp h => ?_)
      obtain ⟨rfl, hu9⟩ := hp
      rw [hu9] at h
      refine lv_aload_n hx hb dX2_dayOn_18 rfl (lv_at hl 1 rfl) ?_
      refine lv_iload_n hx hb dX2_dayOn_19 rfl (lv_at hl 0 rfl) ?_
      refine lv_iconst (v := 1) hx hb dX2_dayOn_20 (by decide) ?_
      refine S_callVi C0 hK h (c_X2_la l z S17 i (by omega) 1 (by omega)) (cwV 2 hts gX2_dayOn_X2_la rfl rfl rfl (by decide +kernel) ⟨Nat.le_of_ble_eq_true rfl, Nat.le_of_ble_eq_true rfl⟩) (k := 55) (ci := 2) (by omega) (fun ct hA => hA.1) rfl rfl rfl hl.1 (rest := [.int (mA S17 (8 * i + 1)), .int (nI i), .ref (za z 55)]) rfl (Nat.le_of_ble_eq_true rfl) ⟨Nat.le_of_ble_eq_true rfl, Nat.le_of_ble_eq_true rfl⟩ dX2_dayOn_21 (fun r u H locs hp h => ?_)
      obtain ⟨rfl, hu9⟩ := hp
      rw [hu9] at h
      refine lv_iconst (v := 4) hx hb dX2_dayOn_24 (by decide) ?_
      refine lv_idiv hx hb dX2_dayOn_25 (by decide) ?_
      refine S_callVv C0 hK h (c_X2_pour l z S17 i (by omega) (mA S17 (8 * i + 1)) ((mA S17 (8 * i + 1)) / 4)) (cwV 3 hts gX2_dayOn_X2_pour rfl rfl rfl (by decide +kernel) ⟨Nat.le_of_ble_eq_true rfl, Nat.le_of_ble_eq_true rfl⟩) (k := 55) (ci := 2) (by omega) (fun ct hA => hA.1) rfl rfl rfl hl.1 (rest := []) rfl (Nat.le_of_ble_eq_true rfl) ⟨Nat.le_of_ble_eq_true rfl, Nat.le_of_ble_eq_true rfl⟩ dX2_dayOn_26 (fun u H locs hp h => ?_)
      obtain ⟨M18, eM18⟩ : ∃ z9, z9 = mPour S17 i (mA S17 (8 * i + 1)) ((mA S17 (8 * i + 1)) / 4) := ⟨_, rfl⟩
      rw [hp, ← eM18] at h
      refine lv_iinc (v := nI (i + 1)) (lv' := [(1, .int (nI (i + 1))), (0, .ref (za z 55))]) hx hb dX2_dayOn_29 hl (k := 0) rfl (q_inc i 1) (by decide) rfl (fun ls hl => ?_)
      refine lv_goto (tgt := 2) hx hb dX2_dayOn_32 (by decide) ?_
      exact ihL2 (i + 1) (by omega) _ _ _ (by subst eM18; rw [eS17] at h; exact h) (lv_sub hl [0, 1] rfl)
  refine lv_iconst (v := 0) hx hb dX2_dayOn_0 (by decide) ?_
  refine lv_istore_n (lv' := [(1, .int 0), (0, .ref (za z 55))]) hx hb dX2_dayOn_1 rfl hl (by decide) rfl (fun ls hl => ?_)
  exact L2 (mt_ M) 0 (by omega) _ _ _ h (lv_sub hl [0, 1] rfl)
set_option maxHeartbeats 4000000 in
set_option maxRecDepth 100000 in
theorem c_X2_daysOn (l : Launch) (z : QZ) (M : QMs) (hk : MOk M) (n : Nat) (hn9 : n < 2147483648) : GV l yX2_daysOn wsX2_daysOn ({ frames := 5, cells := 0, slots := 0, locals := 113 } : Room) z [.ref (za z 55), .int (nI n)] 0 0 (MAt z) 55 59 M (fun M' => M' = itN mdayF n M) := by
  intro ct sz hn hq hat
  refine q_entry (lo := 55) (cc := cX2_daysOn) (maxL := 3) (ret := none) (by decide) rfl (Nat.le_of_ble_eq_true rfl) hn hq hat ?_
  intro p e s m below meth c ls C0 hK hsz h hl
  subst hsz
  obtain ⟨hx, hb, hr, hml, hown, hts, hlocks⟩ := id C0
  have hl : lv_has ls 3 [(0, .ref (za z 55)), (1, .int (nI n))] := hl
  have L2 : ∀ (d i : Nat), i + d = n → ∀ (H : Heap) (locs : List Loc) (ls : Array Slot), GW z (MAt z) 55 59 s.heap ct (itN mdayF i M) H locs → lv_has ls 3 [(2, .int (nI i)), (0, .ref (za z 55)), (1, .int (nI n))] → W p l e ({ frames := 5, cells := 0, slots := 0, locals := 113 } : Room) s m [.ref (za z 55), .int (nI n)].toArray below meth c H locs 0 0 (EV z (MAt z) 55 59 ct s below [.ref (za z 55), .int (nI n)] 0 0 (fun M' => M' = itN mdayF n M)) (F0 m 2 ls []) := by
    intro  d
    induction d with
    | zero =>
      intro i hdi H locs ls h hl
      have hEi : i = n := by omega
      obtain ⟨S1, eS1⟩ : ∃ z9, z9 = itN mdayF i M := ⟨_, rfl⟩
      rw [← eS1] at h
      have hk9 : MOk S1 := by rw [eS1]; exact (mshp_days M i).ok hk
      refine lv_iload_n hx hb dX2_daysOn_2 rfl (lv_at hl 0 rfl) ?_
      refine lv_iload_n hx hb dX2_daysOn_3 rfl (lv_at hl 2 rfl) ?_
      refine lv_icmp_ge (tgt := 17) hx hb dX2_daysOn_4 (by decide) (fun _ => ?_) (fun q9 => absurd (nI_le (by omega) (by omega)) q9)
      exact G_vret C0 hK h (by rw [eS1, hEi]) (Nat.le_of_ble_eq_true rfl) (Nat.le_of_ble_eq_true rfl) dX2_daysOn_17
    | succ d ihL2 =>
      intro i hdi H locs ls h hl
      have hEi : i < n := by omega
      obtain ⟨S2, eS2⟩ : ∃ z9, z9 = itN mdayF i M := ⟨_, rfl⟩
      rw [← eS2] at h
      have hk9 : MOk S2 := by rw [eS2]; exact (mshp_days M i).ok hk
      refine lv_iload_n hx hb dX2_daysOn_2 rfl (lv_at hl 0 rfl) ?_
      refine lv_iload_n hx hb dX2_daysOn_3 rfl (lv_at hl 2 rfl) ?_
      refine lv_icmp_ge (tgt := 17) hx hb dX2_daysOn_4 (by decide) (fun q9 => absurd q9 (nI_ge (by omega) (by omega))) (fun _ => ?_)
      refine lv_aload_n hx hb dX2_daysOn_7 rfl (lv_at hl 1 rfl) ?_
      refine S_callVv C0 hK h (c_X2_dayOn l z S2 hk9) (cwV 0 hts gX2_daysOn_X2_dayOn rfl rfl rfl (by decide +kernel) ⟨Nat.le_of_ble_eq_true rfl, Nat.le_of_ble_eq_true rfl⟩) (k := 55) (ci := 2) (by omega) (fun ct hA => hA.1) rfl rfl rfl hl.1 (rest := []) rfl (Nat.le_of_ble_eq_true rfl) ⟨Nat.le_of_ble_eq_true rfl, Nat.le_of_ble_eq_true rfl⟩ dX2_daysOn_8 (fun u H locs hp h => ?_)
      obtain ⟨M3, eM3⟩ : ∃ z9, z9 = mday S2 := ⟨_, rfl⟩
      rw [hp, ← eM3] at h
      refine lv_iinc (v := nI (i + 1)) (lv' := [(2, .int (nI (i + 1))), (0, .ref (za z 55)), (1, .int (nI n))]) hx hb dX2_daysOn_11 hl (k := 0) rfl (q_inc i 1) (by decide) rfl (fun ls hl => ?_)
      refine lv_goto (tgt := 2) hx hb dX2_daysOn_14 (by decide) ?_
      exact ihL2 (i + 1) (by omega) _ _ _ (by subst eM3; rw [eS2] at h; exact h) (lv_sub hl [0, 1, 2] rfl)
  refine lv_iconst (v := 0) hx hb dX2_daysOn_0 (by decide) ?_
  refine lv_istore_n (lv' := [(2, .int 0), (0, .ref (za z 55)), (1, .int (nI n))]) hx hb dX2_daysOn_1 rfl hl (by decide) rfl (fun ls hl => ?_)
  exact L2 (n) 0 (by omega) _ _ _ h (lv_sub hl [0, 1, 2] rfl)
