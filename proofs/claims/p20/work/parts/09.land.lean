set_option maxHeartbeats 4000000 in
set_option maxRecDepth 100000 in
theorem c_X0_whatCanFlow (l : Launch) (z : QZ) (σ : Nat → QLs) (b : Nat) (hB : b < 2) (S : QLs) (hk : LOk S) (k : Nat) (hkp : k < qp S) : GI l yX0_whatCanFlow wsX0_whatCanFlow ({ frames := 1, cells := 0, slots := 0, locals := 20 } : Room) z [.ref (za z (1 + 27 * b)), .int (nI k)] 0 0 (XAt z) 0 55 (va_up σ b S) (fun r σ' => r = canF S k ∧ σ' = va_up σ b S) := by
  intro ct sz hn hq hat
  refine q_entry (lo := 0) (cc := cX0_whatCanFlow) (maxL := 7) (ret := (some .int)) (by decide) rfl (Nat.le_of_ble_eq_true rfl) hn hq hat ?_
  intro p e s m below meth c ls C0 hK hsz h hl
  subst hsz
  obtain ⟨hx, hb, hr, hml, hown, hts, hlocks⟩ := id C0
  have hin0 : ∀ w ∈ u_ws RX0 TX0 5, w ∈ wsX0_whatCanFlow := by decide +kernel
  have hl : lv_has ls 7 [(0, .ref (za z (1 + 27 * b))), (1, .int (nI k))] := hl
  have hk1 := hk.1
  have hk2 := hk.2.1
  obtain ⟨hk3, hk4, hk5, hF0, hF1⟩ := hk.2.2 k hkp
  have hk6 : k < 14 := by omega
  have hk7 : qf S k < 10 := by omega
  have hk8 : qo S k < 10 := by omega
  refine lv_aload_n hx hb dX0_whatCanFlow_0 rfl (lv_at hl 0 rfl) ?_
  refine L_gL C0 hK h hB hin0 1 (by decide) (by decide +kernel) rfl dX0_whatCanFlow_1 ?_
  refine lv_iload_n hx hb dX0_whatCanFlow_4 rfl (lv_at hl 1 rfl) ?_
  refine X_aP C0 hK h hB (i := k) rfl (by omega) dX0_whatCanFlow_5 ?_
  refine lv_astore_n (lv' := [(2, .ref (za z (1 + 27 * b + (13 + k)))), (0, .ref (za z (1 + 27 * b))), (1, .int (nI k))]) hx hb dX0_whatCanFlow_6 rfl hl (by decide) rfl (fun ls hl => ?_)
  refine lv_aload_n hx hb dX0_whatCanFlow_7 rfl (lv_at hl 1 rfl) ?_
  refine L_gL C0 hK h hB hin0 0 (by decide) (by decide +kernel) rfl dX0_whatCanFlow_8 ?_
  refine lv_aload_n hx hb dX0_whatCanFlow_11 rfl (lv_at hl 0 rfl) ?_
  refine lv_iconst (v := 0) hx hb dX0_whatCanFlow_12 (by decide) ?_
  refine L_ldP C0 hK h hB (by omega) (k := 0) rfl (by decide) dX0_whatCanFlow_13 ?_
  refine X_aT C0 hK h hB (i := qf S k) hF0 (by omega) dX0_whatCanFlow_14 ?_
  refine lv_astore_n (lv' := [(3, .ref (za z (1 + 27 * b + (3 + (qf S k))))), (2, .ref (za z (1 + 27 * b + (13 + k)))), (0, .ref (za z (1 + 27 * b))), (1, .int (nI k))]) hx hb dX0_whatCanFlow_15 rfl hl (by decide) rfl (fun ls hl => ?_)
  refine lv_aload_n hx hb dX0_whatCanFlow_16 rfl (lv_at hl 0 rfl) ?_
  refine S_callSi C0 hK h (c_X0_head l z σ b hB S (qf S k) (by omega)) (va_cwS 1 hts gX0_whatCanFlow_X0_head rfl rfl rfl (by decide +kernel) ⟨Nat.le_of_ble_eq_true rfl, Nat.le_of_ble_eq_true rfl⟩) rfl hl.1 (rest := []) rfl (Nat.le_of_ble_eq_true rfl) ⟨Nat.le_of_ble_eq_true rfl, Nat.le_of_ble_eq_true rfl⟩ dX0_whatCanFlow_17 (fun r u H locs hp h => ?_)
  obtain ⟨rfl, rfl⟩ := hp
  refine lv_aload_n hx hb dX0_whatCanFlow_20 rfl (lv_at hl 2 rfl) ?_
  refine L_gL C0 hK h hB hin0 0 (by decide) (by decide +kernel) rfl dX0_whatCanFlow_21 ?_
  refine lv_aload_n hx hb dX0_whatCanFlow_24 rfl (lv_at hl 1 rfl) ?_
  refine lv_iconst (v := 1) hx hb dX0_whatCanFlow_25 (by decide) ?_
  refine L_ldP C0 hK h hB (by omega) (k := 1) rfl (by decide) dX0_whatCanFlow_26 ?_
  refine X_aT C0 hK h hB (i := qo S k) hF1 (by omega) dX0_whatCanFlow_27 ?_
  refine S_callSi C0 hK h (c_X0_head l z σ b hB S (qo S k) (by omega)) (va_cwS 1 hts gX0_whatCanFlow_X0_head rfl rfl rfl (by decide +kernel) ⟨Nat.le_of_ble_eq_true rfl, Nat.le_of_ble_eq_true rfl⟩) rfl hl.1 (rest := [.int (headR (qT S (qf S k)))]) rfl (Nat.le_of_ble_eq_true rfl) ⟨Nat.le_of_ble_eq_true rfl, Nat.le_of_ble_eq_true rfl⟩ dX0_whatCanFlow_28 (fun r u H locs hp h => ?_)
  obtain ⟨rfl, rfl⟩ := hp
  refine lv_isub hx hb dX0_whatCanFlow_31 ?_
  refine lv_istore (lv' := [(4, .int ((headR (qT S (qf S k))) - (headR (qT S (qo S k))))), (3, .ref (za z (1 + 27 * b + (3 + (qf S k))))), (2, .ref (za z (1 + 27 * b + (13 + k)))), (0, .ref (za z (1 + 27 * b))), (1, .int (nI k))]) hx hb dX0_whatCanFlow_32 hl (by decide) rfl (fun ls hl => ?_)
  refine lv_iload hx hb dX0_whatCanFlow_34 (lv_at hl 0 rfl) ?_
  refine lv_if_le (tgt := 47) hx hb dX0_whatCanFlow_36 (by decide) (fun c_36 => ?_) (fun c_36 => ?_)
  · refine lv_iconst (v := 0) hx hb dX0_whatCanFlow_47 (by decide) ?_
    exact G_iret C0 hK h ⟨by simp only [canF]; rw [if_pos c_36], rfl⟩ (Nat.le_of_ble_eq_true rfl) (Nat.le_of_ble_eq_true rfl) dX0_whatCanFlow_48
  · refine lv_iload hx hb dX0_whatCanFlow_39 (lv_at hl 0 rfl) ?_
    refine lv_aload_n hx hb dX0_whatCanFlow_41 rfl (lv_at hl 2 rfl) ?_
    refine lv_iconst (v := 3) hx hb dX0_whatCanFlow_42 (by decide) ?_
    refine L_ldP C0 hK h hB (by omega) (k := 3) rfl (by decide) dX0_whatCanFlow_43 ?_
    refine lv_icmp_ge (tgt := 49) hx hb dX0_whatCanFlow_44 (by decide) (fun c_44 => ?_) (fun c_44 => ?_)
    · refine lv_iconst (v := 0) hx hb dX0_whatCanFlow_49 (by decide) ?_
      refine lv_aload_n hx hb dX0_whatCanFlow_50 rfl (lv_at hl 2 rfl) ?_
      refine lv_iconst (v := 2) hx hb dX0_whatCanFlow_51 (by decide) ?_
      refine L_ldP C0 hK h hB (by omega) (k := 2) rfl (by decide) dX0_whatCanFlow_52 ?_
      refine lv_aload_n hx hb dX0_whatCanFlow_53 rfl (lv_at hl 2 rfl) ?_
      refine lv_iconst (v := 4) hx hb dX0_whatCanFlow_54 (by decide) ?_
      refine L_ldP C0 hK h hB (by omega) (k := 4) rfl (by decide) dX0_whatCanFlow_55 ?_
      refine lv_isub hx hb dX0_whatCanFlow_56 ?_
      refine G_mmax C0 hl.1 (by decide +kernel) (by decide +kernel) (by decide +kernel) (by decide +kernel) ⟨Nat.le_of_ble_eq_true rfl, Nat.le_of_ble_eq_true rfl, Nat.le_of_ble_eq_true rfl, Nat.le_of_ble_eq_true rfl⟩ dX0_whatCanFlow_57 ?_
      refine lv_istore (lv' := [(5, .int (qmax 0 ((qP S k 2) - (qP S k 4)))), (4, .int ((headR (qT S (qf S k))) - (headR (qT S (qo S k))))), (3, .ref (za z (1 + 27 * b + (3 + (qf S k))))), (2, .ref (za z (1 + 27 * b + (13 + k)))), (0, .ref (za z (1 + 27 * b))), (1, .int (nI k))]) hx hb dX0_whatCanFlow_60 hl (by decide) rfl (fun ls hl => ?_)
      refine lv_iload hx hb dX0_whatCanFlow_62 (lv_at hl 1 rfl) ?_
      refine lv_bipush (v := 10) hx hb dX0_whatCanFlow_64 (by decide) ?_
      refine lv_idiv hx hb dX0_whatCanFlow_66 (by decide) ?_
      refine lv_iconst (v := 1) hx hb dX0_whatCanFlow_67 (by decide) ?_
      refine lv_iadd hx hb dX0_whatCanFlow_68 ?_
      refine lv_istore (lv' := [(6, .int ((((headR (qT S (qf S k))) - (headR (qT S (qo S k)))) / 10) + 1)), (5, .int (qmax 0 ((qP S k 2) - (qP S k 4)))), (4, .int ((headR (qT S (qf S k))) - (headR (qT S (qo S k))))), (3, .ref (za z (1 + 27 * b + (3 + (qf S k))))), (2, .ref (za z (1 + 27 * b + (13 + k)))), (0, .ref (za z (1 + 27 * b))), (1, .int (nI k))]) hx hb dX0_whatCanFlow_69 hl (by decide) rfl (fun ls hl => ?_)
      refine lv_iload hx hb dX0_whatCanFlow_71 (lv_at hl 1 rfl) ?_
      refine lv_iload hx hb dX0_whatCanFlow_73 (lv_at hl 0 rfl) ?_
      refine G_mmin C0 hl.1 (by decide +kernel) (by decide +kernel) (by decide +kernel) (by decide +kernel) ⟨Nat.le_of_ble_eq_true rfl, Nat.le_of_ble_eq_true rfl, Nat.le_of_ble_eq_true rfl, Nat.le_of_ble_eq_true rfl⟩ dX0_whatCanFlow_75 ?_
      refine lv_aload_n hx hb dX0_whatCanFlow_78 rfl (lv_at hl 3 rfl) ?_
      refine lv_iconst (v := 3) hx hb dX0_whatCanFlow_79 (by decide) ?_
      refine L_ldT C0 hK h hB (by omega) (k := 3) rfl (by decide) dX0_whatCanFlow_80 ?_
      refine G_mmin C0 hl.1 (by decide +kernel) (by decide +kernel) (by decide +kernel) (by decide +kernel) ⟨Nat.le_of_ble_eq_true rfl, Nat.le_of_ble_eq_true rfl, Nat.le_of_ble_eq_true rfl, Nat.le_of_ble_eq_true rfl⟩ dX0_whatCanFlow_81 ?_
      exact G_iret C0 hK h ⟨by simp only [canF]; rw [if_neg c_36, if_pos c_44], rfl⟩ (Nat.le_of_ble_eq_true rfl) (Nat.le_of_ble_eq_true rfl) dX0_whatCanFlow_84
    · refine lv_iconst (v := 0) hx hb dX0_whatCanFlow_47 (by decide) ?_
      exact G_iret C0 hK h ⟨by simp only [canF]; rw [if_neg c_36, if_neg c_44], rfl⟩ (Nat.le_of_ble_eq_true rfl) (Nat.le_of_ble_eq_true rfl) dX0_whatCanFlow_48
set_option maxHeartbeats 4000000 in
set_option maxRecDepth 100000 in
theorem c_X0_ofPipe (l : Launch) (z : QZ) (σ : Nat → QLs) (b : Nat) (hB : b < 2) (S : QLs) (hk : LOk S) (k : Nat) (hkp : k < qp S) (n : Nat) (hn9 : n < 10) : GI l yX0_ofPipe wsX0_ofPipe ({ frames := 2, cells := 0, slots := 0, locals := 46 } : Room) z [.ref (za z (1 + 27 * b)), .int (nI k), .int (nI n)] 0 0 (XAt z) 0 55 (va_up σ b S) (fun r σ' => r = ofPipeL S k n ∧ σ' = va_up σ b S) := by
  intro ct sz hn hq hat
  refine q_entry (lo := 0) (cc := cX0_ofPipe) (maxL := 3) (ret := (some .int)) (by decide) rfl (Nat.le_of_ble_eq_true rfl) hn hq hat ?_
  intro p e s m below meth c ls C0 hK hsz h hl
  subst hsz
  obtain ⟨hx, hb, hr, hml, hown, hts, hlocks⟩ := id C0
  have hin0 : ∀ w ∈ u_ws RX0 TX0 5, w ∈ wsX0_ofPipe := by decide +kernel
  have hl : lv_has ls 3 [(0, .ref (za z (1 + 27 * b))), (1, .int (nI k)), (2, .int (nI n))] := hl
  have hk2 := hk.2.1
  have hk6 : k < 14 := by omega
  refine lv_iload_n hx hb dX0_ofPipe_0 rfl (lv_at hl 2 rfl) ?_
  refine lv_bipush (v := 8) hx hb dX0_ofPipe_1 (by decide) ?_
  refine lv_icmp_ne (tgt := 14) hx hb dX0_ofPipe_3 (by decide) (fun c_3 => ?_) (fun c_3 => ?_)
  · refine lv_aload_n hx hb dX0_ofPipe_14 rfl (lv_at hl 0 rfl) ?_
    refine L_gL C0 hK h hB hin0 1 (by decide) (by decide +kernel) rfl dX0_ofPipe_15 ?_
    refine lv_iload_n hx hb dX0_ofPipe_18 rfl (lv_at hl 1 rfl) ?_
    refine X_aP C0 hK h hB (i := k) rfl (by omega) dX0_ofPipe_19 ?_
    refine lv_iload_n hx hb dX0_ofPipe_20 rfl (lv_at hl 2 rfl) ?_
    refine L_ldP C0 hK h hB (by omega) (k := n) rfl (by omega) dX0_ofPipe_21 ?_
    exact G_iret C0 hK h ⟨by unfold ofPipeL; rw [if_neg (fun q => c_3 (by rw [q]; rfl))], rfl⟩ (Nat.le_of_ble_eq_true rfl) (Nat.le_of_ble_eq_true rfl) dX0_ofPipe_22
  · refine lv_aload_n hx hb dX0_ofPipe_6 rfl (lv_at hl 0 rfl) ?_
    refine lv_iload_n hx hb dX0_ofPipe_7 rfl (lv_at hl 1 rfl) ?_
    refine S_callVi C0 hK h (c_X0_whatCanFlow l z σ b hB S hk k hkp) (cwV 1 hts gX0_ofPipe_X0_whatCanFlow rfl rfl rfl (by decide +kernel) ⟨Nat.le_of_ble_eq_true rfl, Nat.le_of_ble_eq_true rfl⟩) (k := 1 + 27 * b) (ci := 0) (by omega) (fun ct hA => (hA.2 b hB).1) rfl rfl rfl hl.1 (rest := []) rfl (Nat.le_of_ble_eq_true rfl) ⟨Nat.le_of_ble_eq_true rfl, Nat.le_of_ble_eq_true rfl⟩ dX0_ofPipe_8 (fun r u H locs hp h => ?_)
    obtain ⟨rfl, rfl⟩ := hp
    refine lv_goto (tgt := 22) hx hb dX0_ofPipe_11 (by decide) ?_
    exact G_iret C0 hK h ⟨by unfold ofPipeL; rw [if_pos ((nI_eq (a := n) (b := 8) (by omega) (by decide)).mp c_3)], rfl⟩ (Nat.le_of_ble_eq_true rfl) (Nat.le_of_ble_eq_true rfl) dX0_ofPipe_22
set_option maxHeartbeats 4000000 in
set_option maxRecDepth 100000 in
theorem c_X0_sumOfTanks (l : Launch) (z : QZ) (σ : Nat → QLs) (b : Nat) (hB : b < 2) (S : QLs) (hk : LOk S) (k : Nat) (hk9 : k < 8) : GI l yX0_sumOfTanks wsX0_sumOfTanks ({ frames := 0, cells := 0, slots := 0, locals := 0 } : Room) z [.ref (za z (1 + 27 * b)), .int (nI k)] 0 0 (XAt z) 0 55 (va_up σ b S) (fun r σ' => r = sumT S k ∧ σ' = va_up σ b S) := by
  intro ct sz hn hq hat
  refine q_entry (lo := 0) (cc := cX0_sumOfTanks) (maxL := 4) (ret := (some .int)) (by decide) rfl (Nat.le_of_ble_eq_true rfl) hn hq hat ?_
  intro p e s m below meth c ls C0 hK hsz h hl
  subst hsz
  obtain ⟨hx, hb, hr, hml, hown, hts, hlocks⟩ := id C0
  have hin0 : ∀ w ∈ u_ws RX0 TX0 5, w ∈ wsX0_sumOfTanks := by decide +kernel
  have hl : lv_has ls 4 [(0, .ref (za z (1 + 27 * b))), (1, .int (nI k))] := hl
  have hk1 := hk.1
  have hk2 := hk.2.1
  have L4 : ∀ (d i : Nat), i + d = qt S → ∀ (H : Heap) (locs : List Loc) (ls : Array Slot), GW z (XAt z) 0 55 s.heap ct (va_up σ b S) H locs → lv_has ls 4 [(3, .int (nI i)), (2, .int (qsum (fun j => qT S j k) i)), (0, .ref (za z (1 + 27 * b))), (1, .int (nI k))] → W p l e ({ frames := 0, cells := 0, slots := 0, locals := 0 } : Room) s m [.ref (za z (1 + 27 * b)), .int (nI k)].toArray below meth c H locs 0 0 (EI z (XAt z) 0 55 ct s below [.ref (za z (1 + 27 * b)), .int (nI k)] 0 0 (fun r σ' => r = sumT S k ∧ σ' = va_up σ b S)) (F0 m 4 ls []) := by
    intro  d
    induction d with
    | zero =>
      intro i hdi H locs ls h hl
      have hEi : i = qt S := by omega
      refine lv_iload_n hx hb dX0_sumOfTanks_4 rfl (lv_at hl 0 rfl) ?_
      refine lv_aload_n hx hb dX0_sumOfTanks_5 rfl (lv_at hl 2 rfl) ?_
      refine L_gL C0 hK h hB hin0 2 (by decide) (by decide +kernel) rfl dX0_sumOfTanks_6 ?_
      refine lv_icmp_ge (tgt := 29) hx hb dX0_sumOfTanks_9 (by decide) (fun _ => ?_) (fun q9 => absurd (nI_le (by omega) (by omega)) q9)
      refine lv_iload_n hx hb dX0_sumOfTanks_29 rfl (lv_at hl 1 rfl) ?_
      exact G_iret C0 hK h ⟨by rw [hEi]; rfl, rfl⟩ (Nat.le_of_ble_eq_true rfl) (Nat.le_of_ble_eq_true rfl) dX0_sumOfTanks_30
    | succ d ihL4 =>
      intro i hdi H locs ls h hl
      have hEi : i < qt S := by omega
      refine lv_iload_n hx hb dX0_sumOfTanks_4 rfl (lv_at hl 0 rfl) ?_
      refine lv_aload_n hx hb dX0_sumOfTanks_5 rfl (lv_at hl 2 rfl) ?_
      refine L_gL C0 hK h hB hin0 2 (by decide) (by decide +kernel) rfl dX0_sumOfTanks_6 ?_
      refine lv_icmp_ge (tgt := 29) hx hb dX0_sumOfTanks_9 (by decide) (fun q9 => absurd q9 (nI_ge (by omega) (by omega))) (fun _ => ?_)
      refine lv_iload_n hx hb dX0_sumOfTanks_12 rfl (lv_at hl 1 rfl) ?_
      refine lv_aload_n hx hb dX0_sumOfTanks_13 rfl (lv_at hl 2 rfl) ?_
      refine L_gL C0 hK h hB hin0 0 (by decide) (by decide +kernel) rfl dX0_sumOfTanks_14 ?_
      refine lv_iload_n hx hb dX0_sumOfTanks_17 rfl (lv_at hl 0 rfl) ?_
      refine X_aT C0 hK h hB (i := i) rfl (by omega) dX0_sumOfTanks_18 ?_
      refine lv_iload_n hx hb dX0_sumOfTanks_19 rfl (lv_at hl 3 rfl) ?_
      refine L_ldT C0 hK h hB (by omega) (k := k) rfl (by omega) dX0_sumOfTanks_20 ?_
      refine lv_iadd hx hb dX0_sumOfTanks_21 ?_
      refine lv_istore_n (lv' := [(2, .int ((qsum (fun j => qT S j k) i) + (qT S i k))), (3, .int (nI i)), (0, .ref (za z (1 + 27 * b))), (1, .int (nI k))]) hx hb dX0_sumOfTanks_22 rfl hl (by decide) rfl (fun ls hl => ?_)
      refine lv_iinc (v := nI (i + 1)) (lv' := [(3, .int (nI (i + 1))), (2, .int ((qsum (fun j => qT S j k) i) + (qT S i k))), (0, .ref (za z (1 + 27 * b))), (1, .int (nI k))]) hx hb dX0_sumOfTanks_23 hl (k := 1) rfl (q_inc i 1) (by decide) rfl (fun ls hl => ?_)
      refine lv_goto (tgt := 4) hx hb dX0_sumOfTanks_26 (by decide) ?_
      exact ihL4 (i + 1) (by omega) _ _ _ h (lv_sub hl [0, 1, 2, 3] rfl)
  refine lv_iconst (v := 0) hx hb dX0_sumOfTanks_0 (by decide) ?_
  refine lv_istore_n (lv' := [(2, .int 0), (0, .ref (za z (1 + 27 * b))), (1, .int (nI k))]) hx hb dX0_sumOfTanks_1 rfl hl (by decide) rfl (fun ls hl => ?_)
  refine lv_iconst (v := 0) hx hb dX0_sumOfTanks_2 (by decide) ?_
  refine lv_istore_n (lv' := [(3, .int 0), (2, .int 0), (0, .ref (za z (1 + 27 * b))), (1, .int (nI k))]) hx hb dX0_sumOfTanks_3 rfl hl (by decide) rfl (fun ls hl => ?_)
  exact L4 (qt S) 0 (by omega) _ _ _ h (lv_sub hl [0, 1, 2, 3] rfl)
set_option maxHeartbeats 4000000 in
set_option maxRecDepth 100000 in
theorem c_X0_sumOfPipes (l : Launch) (z : QZ) (σ : Nat → QLs) (b : Nat) (hB : b < 2) (S : QLs) (hk : LOk S) (k : Nat) (hk9 : k < 10) : GI l yX0_sumOfPipes wsX0_sumOfPipes ({ frames := 0, cells := 0, slots := 0, locals := 0 } : Room) z [.ref (za z (1 + 27 * b)), .int (nI k)] 0 0 (XAt z) 0 55 (va_up σ b S) (fun r σ' => r = sumP S k ∧ σ' = va_up σ b S) := by
  intro ct sz hn hq hat
  refine q_entry (lo := 0) (cc := cX0_sumOfPipes) (maxL := 4) (ret := (some .int)) (by decide) rfl (Nat.le_of_ble_eq_true rfl) hn hq hat ?_
  intro p e s m below meth c ls C0 hK hsz h hl
  subst hsz
  obtain ⟨hx, hb, hr, hml, hown, hts, hlocks⟩ := id C0
  have hin0 : ∀ w ∈ u_ws RX0 TX0 5, w ∈ wsX0_sumOfPipes := by decide +kernel
  have hl : lv_has ls 4 [(0, .ref (za z (1 + 27 * b))), (1, .int (nI k))] := hl
  have hk1 := hk.1
  have hk2 := hk.2.1
  have L4 : ∀ (d i : Nat), i + d = qp S → ∀ (H : Heap) (locs : List Loc) (ls : Array Slot), GW z (XAt z) 0 55 s.heap ct (va_up σ b S) H locs → lv_has ls 4 [(3, .int (nI i)), (2, .int (qsum (fun j => qP S j k) i)), (0, .ref (za z (1 + 27 * b))), (1, .int (nI k))] → W p l e ({ frames := 0, cells := 0, slots := 0, locals := 0 } : Room) s m [.ref (za z (1 + 27 * b)), .int (nI k)].toArray below meth c H locs 0 0 (EI z (XAt z) 0 55 ct s below [.ref (za z (1 + 27 * b)), .int (nI k)] 0 0 (fun r σ' => r = sumP S k ∧ σ' = va_up σ b S)) (F0 m 4 ls []) := by
    intro  d
    induction d with
    | zero =>
      intro i hdi H locs ls h hl
      have hEi : i = qp S := by omega
      refine lv_iload_n hx hb dX0_sumOfPipes_4 rfl (lv_at hl 0 rfl) ?_
      refine lv_aload_n hx hb dX0_sumOfPipes_5 rfl (lv_at hl 2 rfl) ?_
      refine L_gL C0 hK h hB hin0 3 (by decide) (by decide +kernel) rfl dX0_sumOfPipes_6 ?_
      refine lv_icmp_ge (tgt := 29) hx hb dX0_sumOfPipes_9 (by decide) (fun _ => ?_) (fun q9 => absurd (nI_le (by omega) (by omega)) q9)
      refine lv_iload_n hx hb dX0_sumOfPipes_29 rfl (lv_at hl 1 rfl) ?_
      exact G_iret C0 hK h ⟨by rw [hEi]; rfl, rfl⟩ (Nat.le_of_ble_eq_true rfl) (Nat.le_of_ble_eq_true rfl) dX0_sumOfPipes_30
    | succ d ihL4 =>
      intro i hdi H locs ls h hl
      have hEi : i < qp S := by omega
      refine lv_iload_n hx hb dX0_sumOfPipes_4 rfl (lv_at hl 0 rfl) ?_
      refine lv_aload_n hx hb dX0_sumOfPipes_5 rfl (lv_at hl 2 rfl) ?_
      refine L_gL C0 hK h hB hin0 3 (by decide) (by decide +kernel) rfl dX0_sumOfPipes_6 ?_
      refine lv_icmp_ge (tgt := 29) hx hb dX0_sumOfPipes_9 (by decide) (fun q9 => absurd q9 (nI_ge (by omega) (by omega))) (fun _ => ?_)
      refine lv_iload_n hx hb dX0_sumOfPipes_12 rfl (lv_at hl 1 rfl) ?_
      refine lv_aload_n hx hb dX0_sumOfPipes_13 rfl (lv_at hl 2 rfl) ?_
      refine L_gL C0 hK h hB hin0 1 (by decide) (by decide +kernel) rfl dX0_sumOfPipes_14 ?_
      refine lv_iload_n hx hb dX0_sumOfPipes_17 rfl (lv_at hl 0 rfl) ?_
      refine X_aP C0 hK h hB (i := i) rfl (by omega) dX0_sumOfPipes_18 ?_
      refine lv_iload_n hx hb dX0_sumOfPipes_19 rfl (lv_at hl 3 rfl) ?_
      refine L_ldP C0 hK h hB (by omega) (k := k) rfl (by omega) dX0_sumOfPipes_20 ?_
      refine lv_iadd hx hb dX0_sumOfPipes_21 ?_
      refine lv_istore_n (lv' := [(2, .int ((qsum (fun j => qP S j k) i) + (qP S i k))), (3, .int (nI i)), (0, .ref (za z (1 + 27 * b))), (1, .int (nI k))]) hx hb dX0_sumOfPipes_22 rfl hl (by decide) rfl (fun ls hl => ?_)
      refine lv_iinc (v := nI (i + 1)) (lv' := [(3, .int (nI (i + 1))), (2, .int ((qsum (fun j => qP S j k) i) + (qP S i k))), (0, .ref (za z (1 + 27 * b))), (1, .int (nI k))]) hx hb dX0_sumOfPipes_23 hl (k := 1) rfl (q_inc i 1) (by decide) rfl (fun ls hl => ?_)
      refine lv_goto (tgt := 4) hx hb dX0_sumOfPipes_26 (by decide) ?_
      exact ihL4 (i + 1) (by omega) _ _ _ h (lv_sub hl [0, 1, 2, 3] rfl)
  refine lv_iconst (v := 0) hx hb dX0_sumOfPipes_0 (by decide) ?_
  refine lv_istore_n (lv' := [(2, .int 0), (0, .ref (za z (1 + 27 * b))), (1, .int (nI k))]) hx hb dX0_sumOfPipes_1 rfl hl (by decide) rfl (fun ls hl => ?_)
  refine lv_iconst (v := 0) hx hb dX0_sumOfPipes_2 (by decide) ?_
  refine lv_istore_n (lv' := [(3, .int 0), (2, .int 0), (0, .ref (za z (1 + 27 * b))), (1, .int (nI k))]) hx hb dX0_sumOfPipes_3 rfl hl (by decide) rfl (fun ls hl => ?_)
  exact L4 (qp S) 0 (by omega) _ _ _ h (lv_sub hl [0, 1, 2, 3] rfl)
set_option maxHeartbeats 4000000 in
set_option maxRecDepth 100000 in
theorem c_X0_isThirsty (l : Launch) (z : QZ) (σ : Nat → QLs) (b : Nat) (hB : b < 2) (S : QLs) (i : Nat) (hi : i < 10) : GI l yX0_isThirsty wsX0_isThirsty ({ frames := 0, cells := 0, slots := 0, locals := 0 } : Room) z [.ref (za z (1 + 27 * b)), .int (nI i)] 0 0 (XAt z) 0 55 (va_up σ b S) (fun r σ' => r = (if qT S i 5 < qT S i 2 then 1 else 0) ∧ σ' = va_up σ b S) := by
  intro ct sz hn hq hat
  refine q_entry (lo := 0) (cc := cX0_isThirsty) (maxL := 2) (ret := (some .boolean)) (by decide) rfl (Nat.le_of_ble_eq_true rfl) hn hq hat ?_
  intro p e s m below meth c ls C0 hK hsz h hl
  subst hsz
  obtain ⟨hx, hb, hr, hml, hown, hts, hlocks⟩ := id C0
  have hin0 : ∀ w ∈ u_ws RX0 TX0 5, w ∈ wsX0_isThirsty := by decide +kernel
  have hl : lv_has ls 2 [(0, .ref (za z (1 + 27 * b))), (1, .int (nI i))] := hl
  refine lv_aload_n hx hb dX0_isThirsty_0 rfl (lv_at hl 0 rfl) ?_
  refine L_gL C0 hK h hB hin0 0 (by decide) (by decide +kernel) rfl dX0_isThirsty_1 ?_
  refine lv_iload_n hx hb dX0_isThirsty_4 rfl (lv_at hl 1 rfl) ?_
  refine X_aT C0 hK h hB (i := i) rfl (by omega) dX0_isThirsty_5 ?_
  refine lv_iconst (v := 5) hx hb dX0_isThirsty_6 (by decide) ?_
  refine L_ldT C0 hK h hB (by omega) (k := 5) rfl (by decide) dX0_isThirsty_7 ?_
  refine lv_aload_n hx hb dX0_isThirsty_8 rfl (lv_at hl 0 rfl) ?_
  refine L_gL C0 hK h hB hin0 0 (by decide) (by decide +kernel) rfl dX0_isThirsty_9 ?_
  refine lv_iload_n hx hb dX0_isThirsty_12 rfl (lv_at hl 1 rfl) ?_
  refine X_aT C0 hK h hB (i := i) rfl (by omega) dX0_isThirsty_13 ?_
  refine lv_iconst (v := 2) hx hb dX0_isThirsty_14 (by decide) ?_
  refine L_ldT C0 hK h hB (by omega) (k := 2) rfl (by decide) dX0_isThirsty_15 ?_
  refine lv_icmp_ge (tgt := 23) hx hb dX0_isThirsty_16 (by decide) (fun c_16 => ?_) (fun c_16 => ?_)
  · refine lv_iconst (v := 0) hx hb dX0_isThirsty_23 (by decide) ?_
    exact G_zret C0 hK h ⟨by rw [if_neg (fun q => Int32.not_lt.mpr c_16 q)], rfl⟩ (by decide) (Nat.le_of_ble_eq_true rfl) (Nat.le_of_ble_eq_true rfl) dX0_isThirsty_24
  · refine lv_iconst (v := 1) hx hb dX0_isThirsty_19 (by decide) ?_
    refine lv_goto (tgt := 24) hx hb dX0_isThirsty_20 (by decide) ?_
    exact G_zret C0 hK h ⟨by rw [if_pos (Int32.not_le.mp c_16)], rfl⟩ (by decide) (Nat.le_of_ble_eq_true rfl) (Nat.le_of_ble_eq_true rfl) dX0_isThirsty_24
set_option maxHeartbeats 4000000 in
set_option maxRecDepth 100000 in
theorem c_X0_thirstyTanks (l : Launch) (z : QZ) (σ : Nat → QLs) (b : Nat) (hB : b < 2) (S : QLs) (hk : LOk S) : GI l yX0_thirstyTanks wsX0_thirstyTanks ({ frames := 1, cells := 0, slots := 0, locals := 21 } : Room) z [.ref (za z (1 + 27 * b))] 0 0 (XAt z) 0 55 (va_up σ b S) (fun r σ' => r = qthc S (qt S) ∧ σ' = va_up σ b S) := by
  intro ct sz hn hq hat
  refine q_entry (lo := 0) (cc := cX0_thirstyTanks) (maxL := 3) (ret := (some .int)) (by decide) rfl (Nat.le_of_ble_eq_true rfl) hn hq hat ?_
  intro p e s m below meth c ls C0 hK hsz h hl
  subst hsz
  obtain ⟨hx, hb, hr, hml, hown, hts, hlocks⟩ := id C0
  have hin0 : ∀ w ∈ u_ws RX0 TX0 5, w ∈ wsX0_thirstyTanks := by decide +kernel
  have hl : lv_has ls 3 [(0, .ref (za z (1 + 27 * b)))] := hl
  have hk1 := hk.1
  have L4 : ∀ (d i : Nat), i + d = qt S → ∀ (H : Heap) (locs : List Loc) (ls : Array Slot), GW z (XAt z) 0 55 s.heap ct (va_up σ b S) H locs → lv_has ls 3 [(2, .int (nI i)), (1, .int (qthc S i)), (0, .ref (za z (1 + 27 * b)))] → W p l e ({ frames := 1, cells := 0, slots := 0, locals := 21 } : Room) s m [.ref (za z (1 + 27 * b))].toArray below meth c H locs 0 0 (EI z (XAt z) 0 55 ct s below [.ref (za z (1 + 27 * b))] 0 0 (fun r σ' => r = qthc S (qt S) ∧ σ' = va_up σ b S)) (F0 m 4 ls []) := by
    intro  d
    induction d with
    | zero =>
      intro i hdi H locs ls h hl
      have hEi : i = qt S := by omega
      refine lv_iload_n hx hb dX0_thirstyTanks_4 rfl (lv_at hl 0 rfl) ?_
      refine lv_aload_n hx hb dX0_thirstyTanks_5 rfl (lv_at hl 2 rfl) ?_
      refine L_gL C0 hK h hB hin0 2 (by decide) (by decide +kernel) rfl dX0_thirstyTanks_6 ?_
      refine lv_icmp_ge (tgt := 29) hx hb dX0_thirstyTanks_9 (by decide) (fun _ => ?_) (fun q9 => absurd (nI_le (by omega) (by omega)) q9)
      refine lv_iload_n hx hb dX0_thirstyTanks_29 rfl (lv_at hl 1 rfl) ?_
      exact G_iret C0 hK h ⟨by rw [hEi], rfl⟩ (Nat.le_of_ble_eq_true rfl) (Nat.le_of_ble_eq_true rfl) dX0_thirstyTanks_30
    | succ d ihL4 =>
      intro i hdi H locs ls h hl
      have hEi : i < qt S := by omega
      refine lv_iload_n hx hb dX0_thirstyTanks_4 rfl (lv_at hl 0 rfl) ?_
      refine lv_aload_n hx hb dX0_thirstyTanks_5 rfl (lv_at hl 2 rfl) ?_
      refine L_gL C0 hK h hB hin0 2 (by decide) (by decide +kernel) rfl dX0_thirstyTanks_6 ?_
      refine lv_icmp_ge (tgt := 29) hx hb dX0_thirstyTanks_9 (by decide) (fun q9 => absurd q9 (nI_ge (by omega) (by omega))) (fun _ => ?_)
      refine lv_aload_n hx hb dX0_thirstyTanks_12 rfl (lv_at hl 2 rfl) ?_
      refine lv_iload_n hx hb dX0_thirstyTanks_13 rfl (lv_at hl 0 rfl) ?_
      refine S_callVi C0 hK h (c_X0_isThirsty l z σ b hB S i (by omega)) (cwV 1 hts gX0_thirstyTanks_X0_isThirsty rfl rfl rfl (by decide +kernel) ⟨Nat.le_of_ble_eq_true rfl, Nat.le_of_ble_eq_true rfl⟩) (k := 1 + 27 * b) (ci := 0) (by omega) (fun ct hA => (hA.2 b hB).1) rfl rfl rfl hl.1 (rest := []) rfl (Nat.le_of_ble_eq_true rfl) ⟨Nat.le_of_ble_eq_true rfl, Nat.le_of_ble_eq_true rfl⟩ dX0_thirstyTanks_14 (fun r u H locs hp h => ?_)
      rcases q_bool _ hp with ⟨hc1, rfl, rfl⟩ | ⟨hc1, rfl, rfl⟩
      · refine lv_if_eq (tgt := 23) hx hb dX0_thirstyTanks_17 (by decide) (fun q9 => absurd q9 (by decide)) (fun _ => ?_)
        refine lv_iinc (v := (qthc S i) + 1) (lv' := [(1, .int ((qthc S i) + 1)), (2, .int (nI i)), (0, .ref (za z (1 + 27 * b)))]) hx hb dX0_thirstyTanks_20 hl (k := 1) rfl rfl (by decide) rfl (fun ls hl => ?_)
        refine lv_iinc (v := nI (i + 1)) (lv' := [(2, .int (nI (i + 1))), (1, .int ((qthc S i) + 1)), (0, .ref (za z (1 + 27 * b)))]) hx hb dX0_thirstyTanks_23 hl (k := 1) rfl (q_inc i 1) (by decide) rfl (fun ls hl => ?_)
        refine lv_goto (tgt := 4) hx hb dX0_thirstyTanks_26 (by decide) ?_
        have e9 : qthc S (i + 1) = qthc S i + 1 := by simp only [qthc, if_pos hc1]
        rw [← e9] at hl
        exact ihL4 (i + 1) (by omega) _ _ _ h (lv_sub hl [0, 1, 2] rfl)
      · refine lv_if_eq (tgt := 23) hx hb dX0_thirstyTanks_17 (by decide) (fun _ => ?_) (fun q9 => absurd (by decide) q9)
        refine lv_iinc (v := nI (i + 1)) (lv' := [(2, .int (nI (i + 1))), (1, .int (qthc S i)), (0, .ref (za z (1 + 27 * b)))]) hx hb dX0_thirstyTanks_23 hl (k := 0) rfl (q_inc i 1) (by decide) rfl (fun ls hl => ?_)
        refine lv_goto (tgt := 4) hx hb dX0_thirstyTanks_26 (by decide) ?_
        have e9 : qthc S (i + 1) = qthc S i := by simp only [qthc, if_neg hc1]
        rw [← e9] at hl
        exact ihL4 (i + 1) (by omega) _ _ _ h (lv_sub hl [0, 1, 2] rfl)
  refine lv_iconst (v := 0) hx hb dX0_thirstyTanks_0 (by decide) ?_
  refine lv_istore_n (lv' := [(1, .int 0), (0, .ref (za z (1 + 27 * b)))]) hx hb dX0_thirstyTanks_1 rfl hl (by decide) rfl (fun ls hl => ?_)
  refine lv_iconst (v := 0) hx hb dX0_thirstyTanks_2 (by decide) ?_
  refine lv_istore_n (lv' := [(2, .int 0), (1, .int 0), (0, .ref (za z (1 + 27 * b)))]) hx hb dX0_thirstyTanks_3 rfl hl (by decide) rfl (fun ls hl => ?_)
  exact L4 (qt S) 0 (by omega) _ _ _ h (lv_sub hl [0, 1, 2] rfl)
set_option maxHeartbeats 4000000 in
set_option maxRecDepth 100000 in
theorem c_X0_growCrusts (l : Launch) (z : QZ) (σ : Nat → QLs) (b : Nat) (hB : b < 2) (S : QLs) (hk : LOk S) : GV l yX0_growCrusts wsX0_growCrusts ({ frames := 1, cells := 0, slots := 0, locals := 15 } : Room) z [.ref (za z (1 + 27 * b))] 0 0 (XAt z) 0 55 (va_up σ b S) (fun σ' => σ' = va_up σ b (crustAll S)) := by
  intro ct sz hn hq hat
  refine q_entry (lo := 0) (cc := cX0_growCrusts) (maxL := 3) (ret := none) (by decide) rfl (Nat.le_of_ble_eq_true rfl) hn hq hat ?_
  intro p e s m below meth c ls C0 hK hsz h hl
  subst hsz
  obtain ⟨hx, hb, hr, hml, hown, hts, hlocks⟩ := id C0
  have hin0 : ∀ w ∈ u_ws RX0 TX0 5, w ∈ wsX0_growCrusts := by decide +kernel
  have hl : lv_has ls 3 [(0, .ref (za z (1 + 27 * b)))] := hl
  have hk2 := hk.2.1
  have L2 : ∀ (d i : Nat), i + d = qp S → ∀ (H : Heap) (locs : List Loc) (ls : Array Slot), GW z (XAt z) 0 55 s.heap ct (va_up σ b (itN crustF i S)) H locs → lv_has ls 3 [(1, .int (nI i)), (0, .ref (za z (1 + 27 * b)))] → W p l e ({ frames := 1, cells := 0, slots := 0, locals := 15 } : Room) s m [.ref (za z (1 + 27 * b))].toArray below meth c H locs 0 0 (EV z (XAt z) 0 55 ct s below [.ref (za z (1 + 27 * b))] 0 0 (fun σ' => σ' = va_up σ b (crustAll S))) (F0 m 2 ls []) := by
    intro  d
    induction d with
    | zero =>
      intro i hdi H locs ls h hl
      have hEi : i = qp S := by omega
      obtain ⟨S1, eS1⟩ : ∃ z9, z9 = itN crustF i S := ⟨_, rfl⟩
      rw [← eS1] at h
      have hs9 : Shp S S1 := by rw [eS1]; exact shp_it (fun _ _ => shp_crust) S i
      have hs1 := hs9.2.1
      refine lv_iload_n hx hb dX0_growCrusts_2 rfl (lv_at hl 0 rfl) ?_
      refine lv_aload_n hx hb dX0_growCrusts_3 rfl (lv_at hl 1 rfl) ?_
      refine L_gL C0 hK h hB hin0 3 (by decide) (by decide +kernel) rfl dX0_growCrusts_4 ?_
      refine lv_icmp_ge (tgt := 42) hx hb dX0_growCrusts_7 (by decide) (fun _ => ?_) (fun q9 => absurd (nI_le (by omega) (by omega)) q9)
      exact G_vret C0 hK h (congrArg (va_up σ b) (by rw [eS1, hEi]; rfl)) (Nat.le_of_ble_eq_true rfl) (Nat.le_of_ble_eq_true rfl) dX0_growCrusts_42
    | succ d ihL2 =>
      intro i hdi H locs ls h hl
      have hEi : i < qp S := by omega
      obtain ⟨S2, eS2⟩ : ∃ z9, z9 = itN crustF i S := ⟨_, rfl⟩
      rw [← eS2] at h
      have hs9 : Shp S S2 := by rw [eS2]; exact shp_it (fun _ _ => shp_crust) S i
      have hs1 := hs9.2.1
      refine lv_iload_n hx hb dX0_growCrusts_2 rfl (lv_at hl 0 rfl) ?_
      refine lv_aload_n hx hb dX0_growCrusts_3 rfl (lv_at hl 1 rfl) ?_
      refine L_gL C0 hK h hB hin0 3 (by decide) (by decide +kernel) rfl dX0_growCrusts_4 ?_
      refine lv_icmp_ge (tgt := 42) hx hb dX0_growCrusts_7 (by decide) (fun q9 => absurd q9 (nI_ge (by omega) (by omega))) (fun _ => ?_)
      refine lv_aload_n hx hb dX0_growCrusts_10 rfl (lv_at hl 1 rfl) ?_
      refine L_gL C0 hK h hB hin0 1 (by decide) (by decide +kernel) rfl dX0_growCrusts_11 ?_
      refine lv_iload_n hx hb dX0_growCrusts_14 rfl (lv_at hl 0 rfl) ?_
      refine X_aP C0 hK h hB (i := i) rfl (by omega) dX0_growCrusts_15 ?_
      refine lv_astore_n (lv' := [(2, .ref (za z (1 + 27 * b + (13 + i)))), (1, .int (nI i)), (0, .ref (za z (1 + 27 * b)))]) hx hb dX0_growCrusts_16 rfl hl (by decide) rfl (fun ls hl => ?_)
      refine lv_aload_n hx hb dX0_growCrusts_17 rfl (lv_at hl 0 rfl) ?_
      refine lv_iconst (v := 5) hx hb dX0_growCrusts_18 (by decide) ?_
      refine L_ldP C0 hK h hB (by omega) (k := 5) rfl (by decide) dX0_growCrusts_19 ?_
      refine lv_if_le (tgt := 36) hx hb dX0_growCrusts_20 (by decide) (fun c_20 => ?_) (fun c_20 => ?_)
      · refine lv_iinc (v := nI (i + 1)) (lv' := [(1, .int (nI (i + 1))), (2, .ref (za z (1 + 27 * b + (13 + i)))), (0, .ref (za z (1 + 27 * b)))]) hx hb dX0_growCrusts_36 hl (k := 1) rfl (q_inc i 1) (by decide) rfl (fun ls hl => ?_)
        refine lv_goto (tgt := 2) hx hb dX0_growCrusts_39 (by decide) ?_
        exact ihL2 (i + 1) (by omega) _ _ _ (by subst eS2; have e9 : itN crustF (i + 1) S = crustL (itN crustF i S) i := rfl; rw [e9]; unfold crustL; rw [if_pos c_20]; exact h) (lv_sub hl [0, 2] rfl)
      · refine lv_aload_n hx hb dX0_growCrusts_23 rfl (lv_at hl 0 rfl) ?_
        refine lv_iconst (v := 4) hx hb dX0_growCrusts_24 (by decide) ?_
        refine lv_bipush (v := 20) hx hb dX0_growCrusts_25 (by decide) ?_
        refine lv_aload_n hx hb dX0_growCrusts_27 rfl (lv_at hl 0 rfl) ?_
        refine lv_iconst (v := 4) hx hb dX0_growCrusts_28 (by decide) ?_
        refine L_ldP C0 hK h hB (by omega) (k := 4) rfl (by decide) dX0_growCrusts_29 ?_
        refine lv_iconst (v := 1) hx hb dX0_growCrusts_30 (by decide) ?_
        refine lv_iadd hx hb dX0_growCrusts_31 ?_
        refine G_mmin C0 hl.1 (by decide +kernel) (by decide +kernel) (by decide +kernel) (by decide +kernel) ⟨Nat.le_of_ble_eq_true rfl, Nat.le_of_ble_eq_true rfl, Nat.le_of_ble_eq_true rfl, Nat.le_of_ble_eq_true rfl⟩ dX0_growCrusts_32 ?_
        refine L_stP C0 hK h hB (by omega) (k := 4) rfl (by decide) dX0_growCrusts_35 (fun H locs S3 eS3 h => ?_)
        refine lv_iinc (v := nI (i + 1)) (lv' := [(1, .int (nI (i + 1))), (2, .ref (za z (1 + 27 * b + (13 + i)))), (0, .ref (za z (1 + 27 * b)))]) hx hb dX0_growCrusts_36 hl (k := 1) rfl (q_inc i 1) (by decide) rfl (fun ls hl => ?_)
        refine lv_goto (tgt := 2) hx hb dX0_growCrusts_39 (by decide) ?_
        exact ihL2 (i + 1) (by omega) _ _ _ (by subst eS3; subst eS2; have e9 : itN crustF (i + 1) S = crustL (itN crustF i S) i := rfl; rw [e9]; unfold crustL; rw [if_neg c_20]; exact h) (lv_sub hl [0, 2] rfl)
  refine lv_iconst (v := 0) hx hb dX0_growCrusts_0 (by decide) ?_
  refine lv_istore_n (lv' := [(1, .int 0), (0, .ref (za z (1 + 27 * b)))]) hx hb dX0_growCrusts_1 rfl hl (by decide) rfl (fun ls hl => ?_)
  exact L2 (qp S) 0 (by omega) _ _ _ h (lv_sub hl [0, 1] rfl)
