set_option maxHeartbeats 4000000 in
set_option maxRecDepth 100000 in
theorem c_X4_comes {l : Launch} {z : QZ} {ix : Nat → Nat} {t q b n : Nat} {X Y S : QLs} {f : Nat → Nat × (Nat → Int32)} (i : Nat) (hi : i < t) (x y : Int32) : GV l yX4_comes wsX4_comes ({ frames := 0, cells := 0, slots := 0, locals := 0 } : Room) z [.ref (za z (ix (2 + i))), .int x, .int y] 0 0 (UAt z ix t q b n) 0 (b + n) (X, Y, S, f) (fun u => u = (X, Y, sT S i (comesR (qT S i) x y), f)) := by
  intro ct sz hn hq9 hat
  refine q_entry (lo := 0) (cc := cX4_comes) (maxL := 3) (ret := none) (by decide) rfl (Nat.le_of_ble_eq_true rfl) hn hq9 hat ?_
  intro p e s m below meth c ls C0 hK hsz h hl
  subst hsz
  obtain ⟨hx, hb, hr, hml, hown, hts, hlocks⟩ := id C0
  obtain ⟨hix, hqt, hqp, hbn⟩ := gw_ix h
  obtain ⟨⟨h10, h14, h56⟩, -⟩ := id hix
  have hin4 : ∀ w ∈ u_ws RX4 TX4 8, w ∈ wsX4_comes := by decide +kernel
  have hl : lv_has ls 3 [(0, .ref (za z (ix (2 + i)))), (1, .int x), (2, .int y)] := hl
  refine lv_aload_n hx hb dX4_comes_0 rfl (lv_at hl 0 rfl) ?_
  refine lv_dup hx hb dX4_comes_1 rfl ?_
  refine U_gT C0 hK h hin4 hi 3 (by decide) (by decide +kernel) dX4_comes_2 ?_
  refine lv_iload_n hx hb dX4_comes_5 rfl (lv_at hl 1 rfl) ?_
  refine lv_iadd hx hb dX4_comes_6 ?_
  refine U_pT C0 hK h hin4 hi 3 (by decide) (by decide +kernel) dX4_comes_7 (fun H locs S1 eS1 h => ?_)
  refine lv_aload_n hx hb dX4_comes_10 rfl (lv_at hl 0 rfl) ?_
  refine lv_aload_n hx hb dX4_comes_11 rfl (lv_at hl 0 rfl) ?_
  refine U_gT C0 hK h hin4 hi 4 (by decide) (by decide +kernel) dX4_comes_12 ?_
  refine lv_iload_n hx hb dX4_comes_15 rfl (lv_at hl 2 rfl) ?_
  refine lv_iadd hx hb dX4_comes_16 ?_
  refine lv_bipush (v := 99) hx hb dX4_comes_17 (by decide) ?_
  refine lv_icmp_le (tgt := 27) hx hb dX4_comes_19 (by decide) (fun c_19 => ?_) (fun c_19 => ?_)
  · refine lv_aload_n hx hb dX4_comes_27 rfl (lv_at hl 0 rfl) ?_
    refine U_gT C0 hK h hin4 hi 4 (by decide) (by decide +kernel) dX4_comes_28 ?_
    refine lv_iload_n hx hb dX4_comes_31 rfl (lv_at hl 2 rfl) ?_
    refine lv_iadd hx hb dX4_comes_32 ?_
    refine U_pT C0 hK h hin4 hi 4 (by decide) (by decide +kernel) dX4_comes_33 (fun H locs S2 eS2 h => ?_)
    refine lv_aload_n hx hb dX4_comes_36 rfl (lv_at hl 0 rfl) ?_
    refine U_gT C0 hK h hin4 hi 3 (by decide) (by decide +kernel) dX4_comes_37 ?_
    refine lv_sipush (v := 200) hx hb dX4_comes_40 (by decide) ?_
    refine lv_icmp_gt (tgt := 47) hx hb dX4_comes_43 (by decide) (fun c_43 => ?_) (fun c_43 => ?_)
    · refine lv_aload_n hx hb dX4_comes_47 rfl (lv_at hl 0 rfl) ?_
      refine lv_dup hx hb dX4_comes_48 rfl ?_
      refine U_gT C0 hK h hin4 hi 7 (by decide) (by decide +kernel) dX4_comes_49 ?_
      refine lv_aload_n hx hb dX4_comes_52 rfl (lv_at hl 0 rfl) ?_
      refine U_gT C0 hK h hin4 hi 3 (by decide) (by decide +kernel) dX4_comes_53 ?_
      refine lv_sipush (v := 200) hx hb dX4_comes_56 (by decide) ?_
      refine lv_isub hx hb dX4_comes_59 ?_
      refine lv_iadd hx hb dX4_comes_60 ?_
      refine U_pT C0 hK h hin4 hi 7 (by decide) (by decide +kernel) dX4_comes_61 (fun H locs S3 eS3 h => ?_)
      refine lv_aload_n hx hb dX4_comes_64 rfl (lv_at hl 0 rfl) ?_
      refine lv_sipush (v := 200) hx hb dX4_comes_65 (by decide) ?_
      refine U_pT C0 hK h hin4 hi 3 (by decide) (by decide +kernel) dX4_comes_68 (fun H locs S4 eS4 h => ?_)
      exact G_vret C0 hK h (congrArg (fun r => ((X, Y, r, f) : US)) (by subst eS4 eS3 eS2 eS1; simp only [qT_sT, sT_sT] at c_19 c_43 ⊢; refine congrArg (sT S i) ?_; unfold comesR; simp only []; rw [if_pos c_19] at *; rw [if_pos c_43])) (Nat.le_of_ble_eq_true rfl) (Nat.le_of_ble_eq_true rfl) dX4_comes_71
    · exact G_vret C0 hK h (congrArg (fun r => ((X, Y, r, f) : US)) (by subst eS2 eS1; simp only [qT_sT, sT_sT] at c_19 c_43 ⊢; refine congrArg (sT S i) ?_; unfold comesR; simp only []; rw [if_pos c_19] at *; rw [if_neg c_43])) (Nat.le_of_ble_eq_true rfl) (Nat.le_of_ble_eq_true rfl) dX4_comes_46
  · refine lv_bipush (v := 99) hx hb dX4_comes_22 (by decide) ?_
    refine lv_goto (tgt := 33) hx hb dX4_comes_24 (by decide) ?_
    refine U_pT C0 hK h hin4 hi 4 (by decide) (by decide +kernel) dX4_comes_33 (fun H locs S5 eS5 h => ?_)
    refine lv_aload_n hx hb dX4_comes_36 rfl (lv_at hl 0 rfl) ?_
    refine U_gT C0 hK h hin4 hi 3 (by decide) (by decide +kernel) dX4_comes_37 ?_
    refine lv_sipush (v := 200) hx hb dX4_comes_40 (by decide) ?_
    refine lv_icmp_gt (tgt := 47) hx hb dX4_comes_43 (by decide) (fun c_43 => ?_) (fun c_43 => ?_)
    · refine lv_aload_n hx hb dX4_comes_47 rfl (lv_at hl 0 rfl) ?_
      refine lv_dup hx hb dX4_comes_48 rfl ?_
      refine U_gT C0 hK h hin4 hi 7 (by decide) (by decide +kernel) dX4_comes_49 ?_
      refine lv_aload_n hx hb dX4_comes_52 rfl (lv_at hl 0 rfl) ?_
      refine U_gT C0 hK h hin4 hi 3 (by decide) (by decide +kernel) dX4_comes_53 ?_
      refine lv_sipush (v := 200) hx hb dX4_comes_56 (by decide) ?_
      refine lv_isub hx hb dX4_comes_59 ?_
      refine lv_iadd hx hb dX4_comes_60 ?_
      refine U_pT C0 hK h hin4 hi 7 (by decide) (by decide +kernel) dX4_comes_61 (fun H locs S6 eS6 h => ?_)
      refine lv_aload_n hx hb dX4_comes_64 rfl (lv_at hl 0 rfl) ?_
      refine lv_sipush (v := 200) hx hb dX4_comes_65 (by decide) ?_
      refine U_pT C0 hK h hin4 hi 3 (by decide) (by decide +kernel) dX4_comes_68 (fun H locs S7 eS7 h => ?_)
      exact G_vret C0 hK h (congrArg (fun r => ((X, Y, r, f) : US)) (by subst eS7 eS6 eS5 eS1; simp only [qT_sT, sT_sT] at c_19 c_43 ⊢; refine congrArg (sT S i) ?_; unfold comesR; simp only []; rw [if_neg c_19] at *; rw [if_pos c_43])) (Nat.le_of_ble_eq_true rfl) (Nat.le_of_ble_eq_true rfl) dX4_comes_71
    · exact G_vret C0 hK h (congrArg (fun r => ((X, Y, r, f) : US)) (by subst eS5 eS1; simp only [qT_sT, sT_sT] at c_19 c_43 ⊢; refine congrArg (sT S i) ?_; unfold comesR; simp only []; rw [if_neg c_19] at *; rw [if_neg c_43])) (Nat.le_of_ble_eq_true rfl) (Nat.le_of_ble_eq_true rfl) dX4_comes_46
set_option maxHeartbeats 4000000 in
set_option maxRecDepth 100000 in
theorem c_X3_flows {l : Launch} {z : QZ} {ix : Nat → Nat} {t q b n : Nat} {X Y S : QLs} {f : Nat → Nat × (Nat → Int32)} (hk : LOk S) (k : Nat) (hkq : k < q) : GI l yX3_flows wsX3_flows ({ frames := 0, cells := 0, slots := 0, locals := 0 } : Room) z [.ref (za z 55), .ref (za z (ix (12 + k)))] 0 0 (UAt z ix t q b n) 0 (b + n) (X, Y, S, f) (fun r u => r = simF S k ∧ u = (X, Y, S, f)) := by
  intro ct sz hn hq9 hat
  refine q_entry (lo := 0) (cc := cX3_flows) (maxL := 6) (ret := (some .int)) (by decide) rfl (Nat.le_of_ble_eq_true rfl) hn hq9 hat ?_
  intro p e s m below meth c ls C0 hK hsz h hl
  subst hsz
  obtain ⟨hx, hb, hr, hml, hown, hts, hlocks⟩ := id C0
  obtain ⟨hix, hqt, hqp, hbn⟩ := gw_ix h
  obtain ⟨⟨h10, h14, h56⟩, -⟩ := id hix
  have hin2 : ∀ w ∈ u_ws RX2 TX2 9, w ∈ wsX3_flows := by decide +kernel
  have hin3 : ∀ w ∈ u_ws RX3 TX3 3, w ∈ wsX3_flows := by decide +kernel
  have hin4 : ∀ w ∈ u_ws RX4 TX4 8, w ∈ wsX3_flows := by decide +kernel
  have hl : lv_has ls 6 [(0, .ref (za z 55)), (1, .ref (za z (ix (12 + k))))] := hl
  have hk1 := hk.1
  have hk2 := hk.2.1
  obtain ⟨hk3, hk4, hk5, hF0, hF1⟩ := hk.2.2 k (by omega)
  rw [hqt] at hk3 hk4
  refine lv_aload_n hx hb dX3_flows_0 rfl (lv_at hl 0 rfl) ?_
  refine U_gO C0 hK h hin3 0 (by decide) (by decide +kernel) rfl dX3_flows_1 ?_
  refine lv_aload_n hx hb dX3_flows_4 rfl (lv_at hl 1 rfl) ?_
  refine U_gP C0 hK h hin2 hkq 0 (by decide) (k9 := 0) rfl (by decide +kernel) dX3_flows_5 ?_
  refine U_aT C0 hK h (i := qf S k) hF0 (by omega) dX3_flows_8 ?_
  refine lv_astore_n (lv' := [(2, .ref (za z (ix (2 + (qf S k))))), (0, .ref (za z 55)), (1, .ref (za z (ix (12 + k))))]) hx hb dX3_flows_9 rfl hl (by decide) rfl (fun ls hl => ?_)
  refine lv_aload_n hx hb dX3_flows_10 rfl (lv_at hl 1 rfl) ?_
  refine U_gO C0 hK h hin3 0 (by decide) (by decide +kernel) rfl dX3_flows_11 ?_
  refine lv_aload_n hx hb dX3_flows_14 rfl (lv_at hl 2 rfl) ?_
  refine U_gP C0 hK h hin2 hkq 1 (by decide) (k9 := 1) rfl (by decide +kernel) dX3_flows_15 ?_
  refine U_aT C0 hK h (i := qo S k) hF1 (by omega) dX3_flows_18 ?_
  refine lv_astore_n (lv' := [(3, .ref (za z (ix (2 + (qo S k))))), (2, .ref (za z (ix (2 + (qf S k))))), (0, .ref (za z 55)), (1, .ref (za z (ix (12 + k))))]) hx hb dX3_flows_19 rfl hl (by decide) rfl (fun ls hl => ?_)
  refine lv_bipush (v := 10) hx hb dX3_flows_20 (by decide) ?_
  refine lv_aload_n hx hb dX3_flows_22 rfl (lv_at hl 1 rfl) ?_
  refine U_gT C0 hK h hin4 (by omega) 0 (by decide) (by decide +kernel) dX3_flows_23 ?_
  refine lv_aload_n hx hb dX3_flows_26 rfl (lv_at hl 0 rfl) ?_
  refine U_gT C0 hK h hin4 (by omega) 0 (by decide) (by decide +kernel) dX3_flows_27 ?_
  refine lv_isub hx hb dX3_flows_30 ?_
  refine lv_imul hx hb dX3_flows_31 ?_
  refine lv_aload_n hx hb dX3_flows_32 rfl (lv_at hl 1 rfl) ?_
  refine U_gT C0 hK h hin4 (by omega) 3 (by decide) (by decide +kernel) dX3_flows_33 ?_
  refine lv_iadd hx hb dX3_flows_36 ?_
  refine lv_aload_n hx hb dX3_flows_37 rfl (lv_at hl 0 rfl) ?_
  refine U_gT C0 hK h hin4 (by omega) 3 (by decide) (by decide +kernel) dX3_flows_38 ?_
  refine lv_isub hx hb dX3_flows_41 ?_
  refine lv_istore (lv' := [(4, .int (((10 * ((qT S (qf S k) 0) - (qT S (qo S k) 0))) + (qT S (qf S k) 3)) - (qT S (qo S k) 3))), (3, .ref (za z (ix (2 + (qo S k))))), (2, .ref (za z (ix (2 + (qf S k))))), (0, .ref (za z 55)), (1, .ref (za z (ix (12 + k))))]) hx hb dX3_flows_42 hl (by decide) rfl (fun ls hl => ?_)
  refine lv_iload hx hb dX3_flows_44 (lv_at hl 0 rfl) ?_
  refine lv_iconst (v := 1) hx hb dX3_flows_46 (by decide) ?_
  refine lv_icmp_lt (tgt := 70) hx hb dX3_flows_47 (by decide) (fun c_47 => ?_) (fun c_47 => ?_)
  · refine lv_iconst (v := 0) hx hb dX3_flows_70 (by decide) ?_
    exact G_iret C0 hK h ⟨by unfold simF; have c47 : simBy S k < 1 := c_47; rw [if_pos c47], rfl⟩ (Nat.le_of_ble_eq_true rfl) (Nat.le_of_ble_eq_true rfl) dX3_flows_71
  · refine lv_iload hx hb dX3_flows_50 (lv_at hl 0 rfl) ?_
    refine lv_aload_n hx hb dX3_flows_52 rfl (lv_at hl 4 rfl) ?_
    refine U_gP C0 hK h hin2 hkq 3 (by decide) (k9 := 3) rfl (by decide +kernel) dX3_flows_53 ?_
    refine lv_icmp_lt (tgt := 70) hx hb dX3_flows_56 (by decide) (fun c_56 => ?_) (fun c_56 => ?_)
    · refine lv_iconst (v := 0) hx hb dX3_flows_70 (by decide) ?_
      exact G_iret C0 hK h ⟨by unfold simF; have c47 : ¬ simBy S k < 1 := c_47; have c56 : simBy S k < qP S k 3 := c_56; rw [if_neg c47, if_pos c56], rfl⟩ (Nat.le_of_ble_eq_true rfl) (Nat.le_of_ble_eq_true rfl) dX3_flows_71
    · refine lv_aload_n hx hb dX3_flows_59 rfl (lv_at hl 4 rfl) ?_
      refine U_gP C0 hK h hin2 hkq 2 (by decide) (k9 := 2) rfl (by decide +kernel) dX3_flows_60 ?_
      refine lv_aload_n hx hb dX3_flows_63 rfl (lv_at hl 4 rfl) ?_
      refine U_gP C0 hK h hin2 hkq 4 (by decide) (k9 := 4) rfl (by decide +kernel) dX3_flows_64 ?_
      refine lv_icmp_gt (tgt := 72) hx hb dX3_flows_67 (by decide) (fun c_67 => ?_) (fun c_67 => ?_)
      · refine lv_aload_n hx hb dX3_flows_72 rfl (lv_at hl 4 rfl) ?_
        refine U_gP C0 hK h hin2 hkq 2 (by decide) (k9 := 2) rfl (by decide +kernel) dX3_flows_73 ?_
        refine lv_aload_n hx hb dX3_flows_76 rfl (lv_at hl 4 rfl) ?_
        refine U_gP C0 hK h hin2 hkq 4 (by decide) (k9 := 4) rfl (by decide +kernel) dX3_flows_77 ?_
        refine lv_isub hx hb dX3_flows_80 ?_
        refine lv_istore (lv' := [(5, .int ((qP S k 2) - (qP S k 4))), (4, .int (((10 * ((qT S (qf S k) 0) - (qT S (qo S k) 0))) + (qT S (qf S k) 3)) - (qT S (qo S k) 3))), (3, .ref (za z (ix (2 + (qo S k))))), (2, .ref (za z (ix (2 + (qf S k))))), (0, .ref (za z 55)), (1, .ref (za z (ix (12 + k))))]) hx hb dX3_flows_81 hl (by decide) rfl (fun ls hl => ?_)
        refine lv_iload hx hb dX3_flows_83 (lv_at hl 0 rfl) ?_
        refine lv_iconst (v := 1) hx hb dX3_flows_85 (by decide) ?_
        refine lv_iload hx hb dX3_flows_86 (lv_at hl 1 rfl) ?_
        refine lv_bipush (v := 10) hx hb dX3_flows_88 (by decide) ?_
        refine lv_idiv hx hb dX3_flows_90 (by decide) ?_
        refine lv_iadd hx hb dX3_flows_91 ?_
        refine lv_icmp_le (tgt := 104) hx hb dX3_flows_92 (by decide) (fun c_92 => ?_) (fun c_92 => ?_)
        · refine lv_iload hx hb dX3_flows_104 (lv_at hl 0 rfl) ?_
          refine lv_aload_n hx hb dX3_flows_106 rfl (lv_at hl 3 rfl) ?_
          refine U_gT C0 hK h hin4 (by omega) 3 (by decide) (by decide +kernel) dX3_flows_107 ?_
          refine lv_icmp_le (tgt := 120) hx hb dX3_flows_110 (by decide) (fun c_110 => ?_) (fun c_110 => ?_)
          · refine lv_iload hx hb dX3_flows_120 (lv_at hl 0 rfl) ?_
            exact G_iret C0 hK h ⟨by unfold simF; have c47 : ¬ simBy S k < 1 := c_47; have c56 : ¬ simBy S k < qP S k 3 := c_56; have e9 : simIts S k = qP S k 2 - qP S k 4 := if_pos c_92; rw [if_neg c47, if_neg c56, if_pos c_67, e9]; exact (if_pos c_110).symm, rfl⟩ (Nat.le_of_ble_eq_true rfl) (Nat.le_of_ble_eq_true rfl) dX3_flows_122
          · refine lv_aload_n hx hb dX3_flows_113 rfl (lv_at hl 3 rfl) ?_
            refine U_gT C0 hK h hin4 (by omega) 3 (by decide) (by decide +kernel) dX3_flows_114 ?_
            refine lv_goto (tgt := 122) hx hb dX3_flows_117 (by decide) ?_
            exact G_iret C0 hK h ⟨by unfold simF; have c47 : ¬ simBy S k < 1 := c_47; have c56 : ¬ simBy S k < qP S k 3 := c_56; have e9 : simIts S k = qP S k 2 - qP S k 4 := if_pos c_92; rw [if_neg c47, if_neg c56, if_pos c_67, e9]; exact (if_neg c_110).symm, rfl⟩ (Nat.le_of_ble_eq_true rfl) (Nat.le_of_ble_eq_true rfl) dX3_flows_122
        · refine lv_iconst (v := 1) hx hb dX3_flows_95 (by decide) ?_
          refine lv_iload hx hb dX3_flows_96 (lv_at hl 1 rfl) ?_
          refine lv_bipush (v := 10) hx hb dX3_flows_98 (by decide) ?_
          refine lv_idiv hx hb dX3_flows_100 (by decide) ?_
          refine lv_iadd hx hb dX3_flows_101 ?_
          refine lv_istore (lv' := [(5, .int (1 + ((((10 * ((qT S (qf S k) 0) - (qT S (qo S k) 0))) + (qT S (qf S k) 3)) - (qT S (qo S k) 3)) / 10))), (4, .int (((10 * ((qT S (qf S k) 0) - (qT S (qo S k) 0))) + (qT S (qf S k) 3)) - (qT S (qo S k) 3))), (3, .ref (za z (ix (2 + (qo S k))))), (2, .ref (za z (ix (2 + (qf S k))))), (0, .ref (za z 55)), (1, .ref (za z (ix (12 + k))))]) hx hb dX3_flows_102 hl (by decide) rfl (fun ls hl => ?_)
          refine lv_iload hx hb dX3_flows_104 (lv_at hl 0 rfl) ?_
          refine lv_aload_n hx hb dX3_flows_106 rfl (lv_at hl 3 rfl) ?_
          refine U_gT C0 hK h hin4 (by omega) 3 (by decide) (by decide +kernel) dX3_flows_107 ?_
          refine lv_icmp_le (tgt := 120) hx hb dX3_flows_110 (by decide) (fun c_110 => ?_) (fun c_110 => ?_)
          · refine lv_iload hx hb dX3_flows_120 (lv_at hl 0 rfl) ?_
            exact G_iret C0 hK h ⟨by unfold simF; have c47 : ¬ simBy S k < 1 := c_47; have c56 : ¬ simBy S k < qP S k 3 := c_56; have e9 : simIts S k = 1 + simBy S k / 10 := if_neg c_92; rw [if_neg c47, if_neg c56, if_pos c_67, e9]; exact (if_pos c_110).symm, rfl⟩ (Nat.le_of_ble_eq_true rfl) (Nat.le_of_ble_eq_true rfl) dX3_flows_122
          · refine lv_aload_n hx hb dX3_flows_113 rfl (lv_at hl 3 rfl) ?_
            refine U_gT C0 hK h hin4 (by omega) 3 (by decide) (by decide +kernel) dX3_flows_114 ?_
            refine lv_goto (tgt := 122) hx hb dX3_flows_117 (by decide) ?_
            exact G_iret C0 hK h ⟨by unfold simF; have c47 : ¬ simBy S k < 1 := c_47; have c56 : ¬ simBy S k < qP S k 3 := c_56; have e9 : simIts S k = 1 + simBy S k / 10 := if_neg c_92; rw [if_neg c47, if_neg c56, if_pos c_67, e9]; exact (if_neg c_110).symm, rfl⟩ (Nat.le_of_ble_eq_true rfl) (Nat.le_of_ble_eq_true rfl) dX3_flows_122
      · refine lv_iconst (v := 0) hx hb dX3_flows_70 (by decide) ?_
        exact G_iret C0 hK h ⟨by unfold simF; have c47 : ¬ simBy S k < 1 := c_47; have c56 : ¬ simBy S k < qP S k 3 := c_56; rw [if_neg c47, if_neg c56, if_neg c_67], rfl⟩ (Nat.le_of_ble_eq_true rfl) (Nat.le_of_ble_eq_true rfl) dX3_flows_71
set_option maxHeartbeats 4000000 in
set_option maxRecDepth 100000 in
theorem c_X3_water {l : Launch} {z : QZ} {ix : Nat → Nat} {t q b n : Nat} {X Y S : QLs} {f : Nat → Nat × (Nat → Int32)} : GI l yX3_water wsX3_water ({ frames := 0, cells := 0, slots := 0, locals := 0 } : Room) z [.ref (za z 55)] 0 0 (UAt z ix t q b n) 0 (b + n) (X, Y, S, f) (fun r u => r = sumT S 3 ∧ u = (X, Y, S, f)) := by
  intro ct sz hn hq9 hat
  refine q_entry (lo := 0) (cc := cX3_water) (maxL := 6) (ret := (some .int)) (by decide) rfl (Nat.le_of_ble_eq_true rfl) hn hq9 hat ?_
  intro p e s m below meth c ls C0 hK hsz h hl
  subst hsz
  obtain ⟨hx, hb, hr, hml, hown, hts, hlocks⟩ := id C0
  obtain ⟨hix, hqt, hqp, hbn⟩ := gw_ix h
  obtain ⟨⟨h10, h14, h56⟩, -⟩ := id hix
  have hin3 : ∀ w ∈ u_ws RX3 TX3 3, w ∈ wsX3_water := by decide +kernel
  have hin4 : ∀ w ∈ u_ws RX4 TX4 8, w ∈ wsX3_water := by decide +kernel
  have hl : lv_has ls 6 [(0, .ref (za z 55))] := hl
  have L13 : ∀ (d i : Nat), i + d = t → ∀ (H : Heap) (locs : List Loc) (ls : Array Slot), GW z (UAt z ix t q b n) 0 (b + n) s.heap ct (X, Y, S, f) H locs → lv_has ls 6 [(4, .int (nI i)), (3, .int (nI t)), (2, .ref (za z (ix 0))), (1, .int (qsum (fun j => qT S j 3) i)), (0, .ref (za z 55))] → W p l e ({ frames := 0, cells := 0, slots := 0, locals := 0 } : Room) s m [.ref (za z 55)].toArray below meth c H locs 0 0 (EI z (UAt z ix t q b n) 0 (b + n) ct s below [.ref (za z 55)] 0 0 (fun r u => r = sumT S 3 ∧ u = (X, Y, S, f))) (F0 m 13 ls []) := by
    intro  d
    induction d with
    | zero =>
      intro i hdi H locs ls h hl
      have hEi : i = t := by omega
      refine lv_iload hx hb dX3_water_13 (lv_at hl 0 rfl) ?_
      refine lv_iload_n hx hb dX3_water_15 rfl (lv_at hl 1 rfl) ?_
      refine lv_icmp_ge (tgt := 39) hx hb dX3_water_16 (by decide) (fun _ => ?_) (fun q9 => absurd (nI_le (by omega) (by omega)) q9)
      refine lv_iload_n hx hb dX3_water_39 rfl (lv_at hl 3 rfl) ?_
      exact G_iret C0 hK h ⟨by rw [hEi]; unfold sumT; rw [hqt], rfl⟩ (Nat.le_of_ble_eq_true rfl) (Nat.le_of_ble_eq_true rfl) dX3_water_40
    | succ d ihL13 =>
      intro i hdi H locs ls h hl
      have hEi : i < t := by omega
      refine lv_iload hx hb dX3_water_13 (lv_at hl 0 rfl) ?_
      refine lv_iload_n hx hb dX3_water_15 rfl (lv_at hl 1 rfl) ?_
      refine lv_icmp_ge (tgt := 39) hx hb dX3_water_16 (by decide) (fun q9 => absurd q9 (nI_ge (by omega) (by omega))) (fun _ => ?_)
      refine lv_aload_n hx hb dX3_water_19 rfl (lv_at hl 2 rfl) ?_
      refine lv_iload hx hb dX3_water_20 (lv_at hl 0 rfl) ?_
      refine U_aT C0 hK h (i := i) rfl (by omega) dX3_water_22 ?_
      refine lv_astore (lv' := [(5, .ref (za z (ix (2 + i)))), (4, .int (nI i)), (3, .int (nI t)), (2, .ref (za z (ix 0))), (1, .int (qsum (fun j => qT S j 3) i)), (0, .ref (za z 55))]) hx hb dX3_water_23 hl (by decide) rfl (fun ls hl => ?_)
      refine lv_iload_n hx hb dX3_water_25 rfl (lv_at hl 4 rfl) ?_
      refine lv_aload hx hb dX3_water_26 (lv_at hl 0 rfl) ?_
      refine U_gT C0 hK h hin4 (by omega) 3 (by decide) (by decide +kernel) dX3_water_28 ?_
      refine lv_iadd hx hb dX3_water_31 ?_
      refine lv_istore_n (lv' := [(1, .int ((qsum (fun j => qT S j 3) i) + (qT S i 3))), (5, .ref (za z (ix (2 + i)))), (4, .int (nI i)), (3, .int (nI t)), (2, .ref (za z (ix 0))), (0, .ref (za z 55))]) hx hb dX3_water_32 rfl hl (by decide) rfl (fun ls hl => ?_)
      refine lv_iinc (v := nI (i + 1)) (lv' := [(4, .int (nI (i + 1))), (1, .int ((qsum (fun j => qT S j 3) i) + (qT S i 3))), (5, .ref (za z (ix (2 + i)))), (3, .int (nI t)), (2, .ref (za z (ix 0))), (0, .ref (za z 55))]) hx hb dX3_water_33 hl (k := 2) rfl (q_inc i 1) (by decide) rfl (fun ls hl => ?_)
      refine lv_goto (tgt := 13) hx hb dX3_water_36 (by decide) ?_
      exact ihL13 (i + 1) (by omega) _ _ _ h (lv_sub hl [0, 3, 4, 1, 5] rfl)
  refine lv_iconst (v := 0) hx hb dX3_water_0 (by decide) ?_
  refine lv_istore_n (lv' := [(1, .int 0), (0, .ref (za z 55))]) hx hb dX3_water_1 rfl hl (by decide) rfl (fun ls hl => ?_)
  refine lv_aload_n hx hb dX3_water_2 rfl (lv_at hl 1 rfl) ?_
  refine U_gO C0 hK h hin3 0 (by decide) (by decide +kernel) rfl dX3_water_3 ?_
  refine lv_astore_n (lv' := [(2, .ref (za z (ix 0))), (1, .int 0), (0, .ref (za z 55))]) hx hb dX3_water_6 rfl hl (by decide) rfl (fun ls hl => ?_)
  refine lv_aload_n hx hb dX3_water_7 rfl (lv_at hl 0 rfl) ?_
  refine U_lT C0 hK h dX3_water_8 ?_
  refine lv_istore_n (lv' := [(3, .int (nI t)), (2, .ref (za z (ix 0))), (1, .int 0), (0, .ref (za z 55))]) hx hb dX3_water_9 rfl hl (by decide) rfl (fun ls hl => ?_)
  refine lv_iconst (v := 0) hx hb dX3_water_10 (by decide) ?_
  refine lv_istore (lv' := [(4, .int 0), (3, .int (nI t)), (2, .ref (za z (ix 0))), (1, .int 0), (0, .ref (za z 55))]) hx hb dX3_water_11 hl (by decide) rfl (fun ls hl => ?_)
  exact L13 (t) 0 (by omega) _ _ _ h (lv_sub hl [0, 1, 2, 3, 4] rfl)
set_option maxHeartbeats 4000000 in
set_option maxRecDepth 100000 in
theorem c_X3_lost {l : Launch} {z : QZ} {ix : Nat → Nat} {t q b n : Nat} {X Y S : QLs} {f : Nat → Nat × (Nat → Int32)} : GI l yX3_lost wsX3_lost ({ frames := 0, cells := 0, slots := 0, locals := 0 } : Room) z [.ref (za z 55)] 0 0 (UAt z ix t q b n) 0 (b + n) (X, Y, S, f) (fun r u => r = sumP S 7 ∧ u = (X, Y, S, f)) := by
  intro ct sz hn hq9 hat
  refine q_entry (lo := 0) (cc := cX3_lost) (maxL := 6) (ret := (some .int)) (by decide) rfl (Nat.le_of_ble_eq_true rfl) hn hq9 hat ?_
  intro p e s m below meth c ls C0 hK hsz h hl
  subst hsz
  obtain ⟨hx, hb, hr, hml, hown, hts, hlocks⟩ := id C0
  obtain ⟨hix, hqt, hqp, hbn⟩ := gw_ix h
  obtain ⟨⟨h10, h14, h56⟩, -⟩ := id hix
  have hin2 : ∀ w ∈ u_ws RX2 TX2 9, w ∈ wsX3_lost := by decide +kernel
  have hin3 : ∀ w ∈ u_ws RX3 TX3 3, w ∈ wsX3_lost := by decide +kernel
  have hl : lv_has ls 6 [(0, .ref (za z 55))] := hl
  have L13 : ∀ (d i : Nat), i + d = q → ∀ (H : Heap) (locs : List Loc) (ls : Array Slot), GW z (UAt z ix t q b n) 0 (b + n) s.heap ct (X, Y, S, f) H locs → lv_has ls 6 [(4, .int (nI i)), (3, .int (nI q)), (2, .ref (za z (ix 1))), (1, .int (qsum (fun j => qP S j 7) i)), (0, .ref (za z 55))] → W p l e ({ frames := 0, cells := 0, slots := 0, locals := 0 } : Room) s m [.ref (za z 55)].toArray below meth c H locs 0 0 (EI z (UAt z ix t q b n) 0 (b + n) ct s below [.ref (za z 55)] 0 0 (fun r u => r = sumP S 7 ∧ u = (X, Y, S, f))) (F0 m 13 ls []) := by
    intro  d
    induction d with
    | zero =>
      intro i hdi H locs ls h hl
      have hEi : i = q := by omega
      refine lv_iload hx hb dX3_lost_13 (lv_at hl 0 rfl) ?_
      refine lv_iload_n hx hb dX3_lost_15 rfl (lv_at hl 1 rfl) ?_
      refine lv_icmp_ge (tgt := 39) hx hb dX3_lost_16 (by decide) (fun _ => ?_) (fun q9 => absurd (nI_le (by omega) (by omega)) q9)
      refine lv_iload_n hx hb dX3_lost_39 rfl (lv_at hl 3 rfl) ?_
      exact G_iret C0 hK h ⟨by rw [hEi]; unfold sumP; rw [hqp], rfl⟩ (Nat.le_of_ble_eq_true rfl) (Nat.le_of_ble_eq_true rfl) dX3_lost_40
    | succ d ihL13 =>
      intro i hdi H locs ls h hl
      have hEi : i < q := by omega
      refine lv_iload hx hb dX3_lost_13 (lv_at hl 0 rfl) ?_
      refine lv_iload_n hx hb dX3_lost_15 rfl (lv_at hl 1 rfl) ?_
      refine lv_icmp_ge (tgt := 39) hx hb dX3_lost_16 (by decide) (fun q9 => absurd q9 (nI_ge (by omega) (by omega))) (fun _ => ?_)
      refine lv_aload_n hx hb dX3_lost_19 rfl (lv_at hl 2 rfl) ?_
      refine lv_iload hx hb dX3_lost_20 (lv_at hl 0 rfl) ?_
      refine U_aP C0 hK h (i := i) rfl (by omega) dX3_lost_22 ?_
      refine lv_astore (lv' := [(5, .ref (za z (ix (12 + i)))), (4, .int (nI i)), (3, .int (nI q)), (2, .ref (za z (ix 1))), (1, .int (qsum (fun j => qP S j 7) i)), (0, .ref (za z 55))]) hx hb dX3_lost_23 hl (by decide) rfl (fun ls hl => ?_)
      refine lv_iload_n hx hb dX3_lost_25 rfl (lv_at hl 4 rfl) ?_
      refine lv_aload hx hb dX3_lost_26 (lv_at hl 0 rfl) ?_
      refine U_gP C0 hK h hin2 (by omega) 8 (by decide) (k9 := 7) rfl (by decide +kernel) dX3_lost_28 ?_
      refine lv_iadd hx hb dX3_lost_31 ?_
      refine lv_istore_n (lv' := [(1, .int ((qsum (fun j => qP S j 7) i) + (qP S i 7))), (5, .ref (za z (ix (12 + i)))), (4, .int (nI i)), (3, .int (nI q)), (2, .ref (za z (ix 1))), (0, .ref (za z 55))]) hx hb dX3_lost_32 rfl hl (by decide) rfl (fun ls hl => ?_)
      refine lv_iinc (v := nI (i + 1)) (lv' := [(4, .int (nI (i + 1))), (1, .int ((qsum (fun j => qP S j 7) i) + (qP S i 7))), (5, .ref (za z (ix (12 + i)))), (3, .int (nI q)), (2, .ref (za z (ix 1))), (0, .ref (za z 55))]) hx hb dX3_lost_33 hl (k := 2) rfl (q_inc i 1) (by decide) rfl (fun ls hl => ?_)
      refine lv_goto (tgt := 13) hx hb dX3_lost_36 (by decide) ?_
      exact ihL13 (i + 1) (by omega) _ _ _ h (lv_sub hl [0, 3, 4, 1, 5] rfl)
  refine lv_iconst (v := 0) hx hb dX3_lost_0 (by decide) ?_
  refine lv_istore_n (lv' := [(1, .int 0), (0, .ref (za z 55))]) hx hb dX3_lost_1 rfl hl (by decide) rfl (fun ls hl => ?_)
  refine lv_aload_n hx hb dX3_lost_2 rfl (lv_at hl 1 rfl) ?_
  refine U_gO C0 hK h hin3 1 (by decide) (by decide +kernel) rfl dX3_lost_3 ?_
  refine lv_astore_n (lv' := [(2, .ref (za z (ix 1))), (1, .int 0), (0, .ref (za z 55))]) hx hb dX3_lost_6 rfl hl (by decide) rfl (fun ls hl => ?_)
  refine lv_aload_n hx hb dX3_lost_7 rfl (lv_at hl 0 rfl) ?_
  refine U_lP C0 hK h dX3_lost_8 ?_
  refine lv_istore_n (lv' := [(3, .int (nI q)), (2, .ref (za z (ix 1))), (1, .int 0), (0, .ref (za z 55))]) hx hb dX3_lost_9 rfl hl (by decide) rfl (fun ls hl => ?_)
  refine lv_iconst (v := 0) hx hb dX3_lost_10 (by decide) ?_
  refine lv_istore (lv' := [(4, .int 0), (3, .int (nI q)), (2, .ref (za z (ix 1))), (1, .int 0), (0, .ref (za z 55))]) hx hb dX3_lost_11 hl (by decide) rfl (fun ls hl => ?_)
  exact L13 (q) 0 (by omega) _ _ _ h (lv_sub hl [0, 1, 2, 3, 4] rfl)
