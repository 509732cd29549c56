/-! PART 36: suspect, mean, digest -/
def qsus (S : QLs) : Nat → Int32 × Int32
  | 0 => (-1, 0)
  | n + 1 => if qP S n 6 ≤ (qsus S n).2 then qsus S n else (nI n, qP S n 6)
def qmean (S : QLs) : UInt64 := if qD S = 0 then FP.dconst0 else FP.ddiv (FP.i2d (sumT S 6)) (FP.i2d (qD S))
set_option maxHeartbeats 4000000 in
set_option maxRecDepth 100000 in
theorem c_X1_suspect (l : Launch) (z : QZ) (σ : Nat → QLs) (S : QLs) (hk : LOk S) : GI l yX1_suspect wsX1_suspect ({ frames := 0, cells := 0, slots := 0, locals := 0 } : Room) z [.ref (za z 0)] 0 0 (XAt z) 0 55 (va_up σ 0 S) (fun r σ' => r = (qsus S (qp S)).1 ∧ σ' = va_up σ 0 S) := by
  intro ct sz hn hq hat
  refine q_entry (lo := 0) (cc := cX1_suspect) (maxL := 5) (ret := (some .int)) (by decide) rfl (Nat.le_of_ble_eq_true rfl) hn hq hat ?_
  intro p e s m below meth c ls C0 hK hsz h hl
  subst hsz
  obtain ⟨hx, hb, hr, hml, hown, hts, hlocks⟩ := id C0
  have hB : 0 < 2 := by decide
  have hin0 : ∀ w ∈ u_ws RX0 TX0 5, w ∈ wsX1_suspect := by decide +kernel
  have hin1 : ∀ w ∈ u_ws RX1 TX1 2, w ∈ wsX1_suspect := by decide +kernel
  have hl : lv_has ls 5 [(0, .ref (za z 0))] := hl
  have hk1 := hk.1
  have hk2 := hk.2.1
  have L6 : ∀ (d i : Nat), i + d = qp S → ∀ (H : Heap) (locs : List Loc) (ls : Array Slot), GW z (XAt z) 0 55 s.heap ct (va_up σ 0 S) H locs → lv_has ls 5 [(3, .int (nI i)), (1, .int ((qsus S i).1)), (2, .int ((qsus S i).2)), (0, .ref (za z 0))] → W p l e ({ frames := 0, cells := 0, slots := 0, locals := 0 } : Room) s m [.ref (za z 0)].toArray below meth c H locs 0 0 (EI z (XAt z) 0 55 ct s below [.ref (za z 0)] 0 0 (fun r σ' => r = (qsus S (qp S)).1 ∧ σ' = va_up σ 0 S)) (F0 m 6 ls []) := by
    intro  d
    induction d with
    | zero =>
      intro i hdi H locs ls h hl
      have hEi : i = qp S := by omega
      refine lv_iload_n hx hb dX1_suspect_6 rfl (lv_at hl 0 rfl) ?_
      refine lv_aload_n hx hb dX1_suspect_7 rfl (lv_at hl 3 rfl) ?_
      refine X_gO C0 hK h hin1 0 (by decide) (by decide +kernel) dX1_suspect_8 ?_
      refine L_gL C0 hK h hB hin0 3 (by decide) (by decide +kernel) rfl dX1_suspect_11 ?_
      refine lv_icmp_ge (tgt := 48) hx hb dX1_suspect_14 (by decide) (fun _ => ?_) (fun q9 => absurd (nI_le (a := qp S) (by omega) (by omega)) q9)
      refine lv_iload_n hx hb dX1_suspect_48 rfl (lv_at hl 1 rfl) ?_
      exact G_iret C0 hK h ⟨by rw [hEi], rfl⟩ (Nat.le_of_ble_eq_true rfl) (Nat.le_of_ble_eq_true rfl) dX1_suspect_49
    | succ d ihL6 =>
      intro i hdi H locs ls h hl
      have hEi : i < qp S := by omega
      refine lv_iload_n hx hb dX1_suspect_6 rfl (lv_at hl 0 rfl) ?_
      refine lv_aload_n hx hb dX1_suspect_7 rfl (lv_at hl 3 rfl) ?_
      refine X_gO C0 hK h hin1 0 (by decide) (by decide +kernel) dX1_suspect_8 ?_
      refine L_gL C0 hK h hB hin0 3 (by decide) (by decide +kernel) rfl dX1_suspect_11 ?_
      refine lv_icmp_ge (tgt := 48) hx hb dX1_suspect_14 (by decide) (fun q9 => absurd q9 (nI_ge (b := qp S) (by omega) (by omega))) (fun _ => ?_)
      refine lv_aload_n hx hb dX1_suspect_17 rfl (lv_at hl 3 rfl) ?_
      refine X_gO C0 hK h hin1 0 (by decide) (by decide +kernel) dX1_suspect_18 ?_
      refine L_gL C0 hK h hB hin0 1 (by decide) (by decide +kernel) rfl dX1_suspect_21 ?_
      refine lv_iload_n hx hb dX1_suspect_24 rfl (lv_at hl 0 rfl) ?_
      refine X_aP C0 hK h hB (i := i) rfl (by omega) dX1_suspect_25 ?_
      refine lv_bipush (v := 6) hx hb dX1_suspect_26 (by decide) ?_
      refine L_ldP C0 hK h hB (by omega) (k := 6) rfl (by decide) dX1_suspect_28 ?_
      refine lv_istore (lv' := [(4, .int (qP S i 6)), (3, .int (nI i)), (1, .int ((qsus S i).1)), (2, .int ((qsus S i).2)), (0, .ref (za z 0))]) hx hb dX1_suspect_29 hl (by decide) rfl (fun ls hl => ?_)
      refine lv_iload hx hb dX1_suspect_31 (lv_at hl 0 rfl) ?_
      refine lv_iload_n hx hb dX1_suspect_33 rfl (lv_at hl 3 rfl) ?_
      refine lv_icmp_le (tgt := 42) hx hb dX1_suspect_34 (by decide) (fun c_34 => ?_) (fun c_34 => ?_)
      · refine lv_iinc (v := nI (i + 1)) (lv' := [(3, .int (nI (i + 1))), (4, .int (qP S i 6)), (1, .int ((qsus S i).1)), (2, .int ((qsus S i).2)), (0, .ref (za z 0))]) hx hb dX1_suspect_42 hl (k := 1) rfl (q_inc i 1) (by decide) rfl (fun ls hl => ?_)
        refine lv_goto (tgt := 6) hx hb dX1_suspect_45 (by decide) ?_
        have e9 : qsus S (i + 1) = qsus S i := (show (if qP S i 6 ≤ (qsus S i).2 then qsus S i else (nI i, qP S i 6)) = _ from if_pos c_34)
        have hl : lv_has ls 5 [(3, .int (nI (i + 1))), (4, .int (qP S i 6)), (1, .int ((qsus S (i + 1)).1)), (2, .int ((qsus S (i + 1)).2)), (0, .ref (za z 0))] := by rw [e9]; exact hl
        exact ihL6 (i + 1) (by omega) _ _ _ h (lv_sub hl [0, 2, 3, 4] rfl)
      · refine lv_iload hx hb dX1_suspect_37 (lv_at hl 0 rfl) ?_
        refine lv_istore_n (lv' := [(2, .int (qP S i 6)), (4, .int (qP S i 6)), (3, .int (nI i)), (1, .int ((qsus S i).1)), (0, .ref (za z 0))]) hx hb dX1_suspect_39 rfl hl (by decide) rfl (fun ls hl => ?_)
        refine lv_iload_n hx hb dX1_suspect_40 rfl (lv_at hl 2 rfl) ?_
        refine lv_istore_n (lv' := [(1, .int (nI i)), (2, .int (qP S i 6)), (4, .int (qP S i 6)), (3, .int (nI i)), (0, .ref (za z 0))]) hx hb dX1_suspect_41 rfl hl (by decide) rfl (fun ls hl => ?_)
        refine lv_iinc (v := nI (i + 1)) (lv' := [(3, .int (nI (i + 1))), (1, .int (nI i)), (2, .int (qP S i 6)), (4, .int (qP S i 6)), (0, .ref (za z 0))]) hx hb dX1_suspect_42 hl (k := 3) rfl (q_inc i 1) (by decide) rfl (fun ls hl => ?_)
        refine lv_goto (tgt := 6) hx hb dX1_suspect_45 (by decide) ?_
        have e9 : qsus S (i + 1) = (nI i, qP S i 6) := (show (if qP S i 6 ≤ (qsus S i).2 then qsus S i else (nI i, qP S i 6)) = _ from if_neg c_34)
        have hl : lv_has ls 5 [(3, .int (nI (i + 1))), (1, .int ((qsus S (i + 1)).1)), (2, .int ((qsus S (i + 1)).2)), (4, .int (qP S i 6)), (0, .ref (za z 0))] := by rw [e9]; exact hl
        exact ihL6 (i + 1) (by omega) _ _ _ h (lv_sub hl [0, 1, 2, 4] rfl)
  refine lv_iconst (v := (-1)) hx hb dX1_suspect_0 (by decide) ?_
  refine lv_istore_n (lv' := [(1, .int ((-1))), (0, .ref (za z 0))]) hx hb dX1_suspect_1 rfl hl (by decide) rfl (fun ls hl => ?_)
  refine lv_iconst (v := 0) hx hb dX1_suspect_2 (by decide) ?_
  refine lv_istore_n (lv' := [(2, .int 0), (1, .int ((-1))), (0, .ref (za z 0))]) hx hb dX1_suspect_3 rfl hl (by decide) rfl (fun ls hl => ?_)
  refine lv_iconst (v := 0) hx hb dX1_suspect_4 (by decide) ?_
  refine lv_istore_n (lv' := [(3, .int 0), (2, .int 0), (1, .int ((-1))), (0, .ref (za z 0))]) hx hb dX1_suspect_5 rfl hl (by decide) rfl (fun ls hl => ?_)
  exact L6 (qp S) 0 (by omega) _ _ _ h (lv_sub hl [0, 2, 1, 3] rfl)
set_option maxHeartbeats 4000000 in
set_option maxRecDepth 100000 in
theorem c_X1_mean (l : Launch) (z : QZ) (σ : Nat → QLs) (S : QLs) (hk : LOk S) : GD l yX1_mean wsX1_mean ({ frames := 1, cells := 0, slots := 0, locals := 23 } : Room) z [.ref (za z 0)] 0 0 (XAt z) 0 55 (va_up σ 0 S) (fun r σ' => r = qmean S ∧ σ' = va_up σ 0 S) := by
  intro ct sz hn hq hat
  refine q_entry (lo := 0) (cc := cX1_mean) (maxL := 1) (ret := (some .double)) (by decide) rfl (Nat.le_of_ble_eq_true rfl) hn hq hat ?_
  intro p e s m below meth c ls C0 hK hsz h hl
  subst hsz
  obtain ⟨hx, hb, hr, hml, hown, hts, hlocks⟩ := id C0
  have hB : 0 < 2 := by decide
  have hin0 : ∀ w ∈ u_ws RX0 TX0 5, w ∈ wsX1_mean := by decide +kernel
  have hin1 : ∀ w ∈ u_ws RX1 TX1 2, w ∈ wsX1_mean := by decide +kernel
  have hl : lv_has ls 1 [(0, .ref (za z 0))] := hl
  have hk1 := hk.1
  have hk2 := hk.2.1
  refine lv_aload_n hx hb dX1_mean_0 rfl (lv_at hl 0 rfl) ?_
  refine X_gO C0 hK h hin1 0 (by decide) (by decide +kernel) dX1_mean_1 ?_
  refine L_gL C0 hK h hB hin0 4 (by decide) (by decide +kernel) rfl dX1_mean_4 ?_
  refine lv_if_ne (tgt := 12) hx hb dX1_mean_7 (by decide) (fun c_7 => ?_) (fun c_7 => ?_)
  · refine lv_aload_n hx hb dX1_mean_12 rfl (lv_at hl 0 rfl) ?_
    refine X_gO C0 hK h hin1 0 (by decide) (by decide +kernel) dX1_mean_13 ?_
    refine lv_bipush (v := 6) hx hb dX1_mean_16 (by decide) ?_
    refine S_callVi C0 hK h (c_X0_sumOfTanks l z σ 0 hB S hk 6 (by decide)) (cwV 1 hts gX1_mean_X0_sumOfTanks rfl rfl rfl (by decide +kernel) ⟨Nat.le_of_ble_eq_true rfl, Nat.le_of_ble_eq_true rfl⟩) (k := 1 + 27 * 0) (ci := 0) (by omega) (fun ct hA => (hA.2 0 (by decide)).1) rfl rfl rfl hl.1 (rest := []) rfl (Nat.le_of_ble_eq_true rfl) ⟨Nat.le_of_ble_eq_true rfl, Nat.le_of_ble_eq_true rfl⟩ dX1_mean_18 (fun r u H locs hp h => ?_)
    obtain ⟨rfl, hu9⟩ := hp
    rw [hu9] at h
    refine lv_i2d hx hb dX1_mean_21 ?_
    refine lv_aload_n hx hb dX1_mean_22 rfl (lv_at hl 0 rfl) ?_
    refine X_gO C0 hK h hin1 0 (by decide) (by decide +kernel) dX1_mean_23 ?_
    refine L_gL C0 hK h hB hin0 4 (by decide) (by decide +kernel) rfl dX1_mean_26 ?_
    refine lv_i2d hx hb dX1_mean_29 ?_
    refine lv_ddiv hx hb dX1_mean_30 (q_ddiv c_7) ?_
    exact G_dret C0 hK h ⟨by unfold qmean; rw [if_neg c_7], rfl⟩ (Nat.le_of_ble_eq_true rfl) (Nat.le_of_ble_eq_true rfl) dX1_mean_31
  · refine lv_dconst0 hx hb dX1_mean_10 ?_
    exact G_dret C0 hK h ⟨by unfold qmean; rw [if_pos c_7], rfl⟩ (Nat.le_of_ble_eq_true rfl) (Nat.le_of_ble_eq_true rfl) dX1_mean_11
