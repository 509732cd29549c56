/-! PART 36: suspect, mean, digest -/
def qsus (S : QLs) : Nat → Int32 × Int32
  | 0 => (-1, 0)
  | n + 1 => if qP S n 6 ≤ (qsus S n).2 then qsus S n else (nI n, qP S n 6)
def qmean (S : QLs) : UInt64 := if qD S = 0 then FP.dconst0 else FP.ddiv (FP.i2d (sumT S 6)) (FP.i2d (qD S))
def qdigT (S : QLs) : Nat → Int64 → Int64
  | 0, d => d
  | n + 1, d => qlong (fun w => qT S n w) 8 (qdigT S n d)
def qdigP (S : QLs) : Nat → Int64 → Int64
  | 0, d => d
  | n + 1, d => qlong (fun w => ofPipeL S n w) 10 (qdigP S n d)
set_option maxHeartbeats 4000000 in
set_option maxRecDepth 100000 in
theorem c_X1_suspect (l : Launch) (z : QZ) (σ : Nat → QLs) (S : QLs) (hk : LOk S) : GI l yX1_suspect wsX1_suspect ({ frames := 0, cells := 0, slots := 0, locals := 0 } : Room) z [.ref (za z 0)] 0 0 (XAt z) 0 55 (va_up σ 0 S) (fun r σ' => r = (qsus S (qp S)).1 ∧ σ' = va_up σ 0 S) := by
  intro ct sz hn hq hat
  refine q_entry (lo := 0) (cc := cX1_suspect) (maxL := 5) (ret := (some .int)) (by decide) rfl (Nat.le_of_ble_eq_true rfl) hn hq hat ?_
  intro p e s m below meth c ls C0 hK hsz h hl
  subst hsz
  obtain ⟨hx, hb, hr, hml, hown, hts, hlocks⟩ := id C0
  have hB : 0 < 2 := by decide
  have hin0 : ∀ w ∈ u_ws RX0 TX0 5, w ∈ wsX1_suspect := by decide +kernel
  have hin1 : ∀ w ∈ u_ws RX1 TX1 2, w ∈ wsX1_suspect := by decide +kernel
  have hl : lv_has ls 5 [(0, .ref (za z 0))] := hl
  have hk1 := hk.1
  have hk2 := hk.2.1
  have L6 : ∀ (d i : Nat), i + d = qp S → ∀ (H : Heap) (locs : List Loc) (ls : Array Slot), GW z (XAt z) 0 55 s.heap ct (va_up σ 0 S) H locs → lv_has ls 5 [(3, .int (nI i)), (1, .int ((qsus S i).1)), (2, .int ((qsus S i).2)), (0, .ref (za z 0))] → W p l e ({ frames := 0, cells := 0, slots := 0, locals := 0 } : Room) s m [.ref (za z 0)].toArray below meth c H locs 0 0 (EI z (XAt z) 0 55 ct s below [.ref (za z 0)] 0 0 (fun r σ' => r = (qsus S (qp S)).1 ∧ σ' = va_up σ 0 S)) (F0 m 6 ls []) := by
    intro  d
    induction d with
    | zero =>
      intro i hdi H locs ls h hl
      have hEi : i = qp S := by omega
      refine lv_iload_n hx hb dX1_suspect_6 rfl (lv_at hl 0 rfl) ?_
      refine lv_aload_n hx hb dX1_suspect_7 rfl (lv_at hl 3 rfl) ?_
      refine X_gO C0 hK h hin1 0 (by decide) (by decide +kernel) dX1_suspect_8 ?_
      refine L_gL C0 hK h hB hin0 3 (by decide) (by decide +kernel) rfl dX1_suspect_11 ?_
      refine lv_icmp_ge (tgt := 48) hx hb dX1_suspect_14 (by decide) (fun _ => ?_) (fun q9 => absurd (nI_le (a := qp S) (by omega) (by omega)) q9)
      refine lv_iload_n hx hb dX1_suspect_48 rfl (lv_at hl 1 rfl) ?_
      exact G_iret C0 hK h ⟨by rw [hEi], rfl⟩ (Nat.le_of_ble_eq_true rfl) (Nat.le_of_ble_eq_true rfl) dX1_suspect_49
    | succ d ihL6 =>
      intro i hdi H locs ls h hl
      have hEi : i < qp S := by omega
      refine lv_iload_n hx hb dX1_suspect_6 rfl (lv_at hl 0 rfl) ?_
      refine lv_aload_n hx hb dX1_suspect_7 rfl (lv_at hl 3 rfl) ?_
      refine X_gO C0 hK h hin1 0 (by decide) (by decide +kernel) dX1_suspect_8 ?_
      refine L_gL C0 hK h hB hin0 3 (by decide) (by decide +kernel) rfl dX1_suspect_11 ?_
      refine lv_icmp_ge (tgt := 48) hx hb dX1_suspect_14 (by decide) (fun q9 => absurd q9 (nI_ge (b := qp S) (by omega) (by omega))) (fun _ => ?_)
      refine lv_aload_n hx hb dX1_suspect_17 rfl (lv_at hl 3 rfl) ?_
      refine X_gO C0 hK h hin1 0 (by decide) (by decide +kernel) dX1_suspect_18 ?_
      refine L_gL C0 hK h hB hin0 1 (by decide) (by decide +kernel) rfl dX1_suspect_21 ?_
      refine lv_iload_n hx hb dX1_suspect_24 rfl (lv_at hl 0 rfl) ?_
      refine X_aP C0 hK h hB (i := i) rfl (by omega) dX1_suspect_25 ?_
      refine lv_bipush (v := 6) hx hb dX1_suspect_26 (by decide) ?_
      refine L_ldP C0 hK h hB (by omega) (k := 6) rfl (by decide) dX1_suspect_28 ?_
      refine lv_istore (lv' := [(4, .int (qP S i 6)), (3, .int (nI i)), (1, .int ((qsus S i).1)), (2, .int ((qsus S i).2)), (0, .ref (za z 0))]) hx hb dX1_suspect_29 hl (by decide) rfl (fun ls hl => ?_)
      refine lv_iload hx hb dX1_suspect_31 (lv_at hl 0 rfl) ?_
      refine lv_iload_n hx hb dX1_suspect_33 rfl (lv_at hl 3 rfl) ?_
      refine lv_icmp_le (tgt := 42) hx hb dX1_suspect_34 (by decide) (fun c_34 => ?_) (fun c_34 => ?_)
      · refine lv_iinc (v := nI (i + 1)) (lv' := [(3, .int (nI (i + 1))), (4, .int (qP S i 6)), (1, .int ((qsus S i).1)), (2, .int ((qsus S i).2)), (0, .ref (za z 0))]) hx hb dX1_suspect_42 hl (k := 1) rfl (q_inc i 1) (by decide) rfl (fun ls hl => ?_)
        refine lv_goto (tgt := 6) hx hb dX1_suspect_45 (by decide) ?_
        have e9 : qsus S (i + 1) = qsus S i := (show (if qP S i 6 ≤ (qsus S i).2 then qsus S i else (nI i, qP S i 6)) = _ from if_pos c_34)
        have hl : lv_has ls 5 [(3, .int (nI (i + 1))), (4, .int (qP S i 6)), (1, .int ((qsus S (i + 1)).1)), (2, .int ((qsus S (i + 1)).2)), (0, .ref (za z 0))] := by rw [e9]; exact hl
        exact ihL6 (i + 1) (by omega) _ _ _ h (lv_sub hl [0, 2, 3, 4] rfl)
      · refine lv_iload hx hb dX1_suspect_37 (lv_at hl 0 rfl) ?_
        refine lv_istore_n (lv' := [(2, .int (qP S i 6)), (4, .int (qP S i 6)), (3, .int (nI i)), (1, .int ((qsus S i).1)), (0, .ref (za z 0))]) hx hb dX1_suspect_39 rfl hl (by decide) rfl (fun ls hl => ?_)
        refine lv_iload_n hx hb dX1_suspect_40 rfl (lv_at hl 2 rfl) ?_
        refine lv_istore_n (lv' := [(1, .int (nI i)), (2, .int (qP S i 6)), (4, .int (qP S i 6)), (3, .int (nI i)), (0, .ref (za z 0))]) hx hb dX1_suspect_41 rfl hl (by decide) rfl (fun ls hl => ?_)
        refine lv_iinc (v := nI (i + 1)) (lv' := [(3, .int (nI (i + 1))), (1, .int (nI i)), (2, .int (qP S i 6)), (4, .int (qP S i 6)), (0, .ref (za z 0))]) hx hb dX1_suspect_42 hl (k := 3) rfl (q_inc i 1) (by decide) rfl (fun ls hl => ?_)
        refine lv_goto (tgt := 6) hx hb dX1_suspect_45 (by decide) ?_
        have e9 : qsus S (i + 1) = (nI i, qP S i 6) := (show (if qP S i 6 ≤ (qsus S i).2 then qsus S i else (nI i, qP S i 6)) = _ from if_neg c_34)
        have hl : lv_has ls 5 [(3, .int (nI (i + 1))), (1, .int ((qsus S (i + 1)).1)), (2, .int ((qsus S (i + 1)).2)), (4, .int (qP S i 6)), (0, .ref (za z 0))] := by rw [e9]; exact hl
        exact ihL6 (i + 1) (by omega) _ _ _ h (lv_sub hl [0, 1, 2, 4] rfl)
  refine lv_iconst (v := (-1)) hx hb dX1_suspect_0 (by decide) ?_
  refine lv_istore_n (lv' := [(1, .int ((-1))), (0, .ref (za z 0))]) hx hb dX1_suspect_1 rfl hl (by decide) rfl (fun ls hl => ?_)
  refine lv_iconst (v := 0) hx hb dX1_suspect_2 (by decide) ?_
  refine lv_istore_n (lv' := [(2, .int 0), (1, .int ((-1))), (0, .ref (za z 0))]) hx hb dX1_suspect_3 rfl hl (by decide) rfl (fun ls hl => ?_)
  refine lv_iconst (v := 0) hx hb dX1_suspect_4 (by decide) ?_
  refine lv_istore_n (lv' := [(3, .int 0), (2, .int 0), (1, .int ((-1))), (0, .ref (za z 0))]) hx hb dX1_suspect_5 rfl hl (by decide) rfl (fun ls hl => ?_)
  exact L6 (qp S) 0 (by omega) _ _ _ h (lv_sub hl [0, 2, 1, 3] rfl)
set_option maxHeartbeats 4000000 in
set_option maxRecDepth 100000 in
theorem c_X1_mean (l : Launch) (z : QZ) (σ : Nat → QLs) (S : QLs) (hk : LOk S) : GD l yX1_mean wsX1_mean ({ frames := 1, cells := 0, slots := 0, locals := 23 } : Room) z [.ref (za z 0)] 0 0 (XAt z) 0 55 (va_up σ 0 S) (fun r σ' => r = qmean S ∧ σ' = va_up σ 0 S) := by
  intro ct sz hn hq hat
  refine q_entry (lo := 0) (cc := cX1_mean) (maxL := 1) (ret := (some .double)) (by decide) rfl (Nat.le_of_ble_eq_true rfl) hn hq hat ?_
  intro p e s m below meth c ls C0 hK hsz h hl
  subst hsz
  obtain ⟨hx, hb, hr, hml, hown, hts, hlocks⟩ := id C0
  have hB : 0 < 2 := by decide
  have hin0 : ∀ w ∈ u_ws RX0 TX0 5, w ∈ wsX1_mean := by decide +kernel
  have hin1 : ∀ w ∈ u_ws RX1 TX1 2, w ∈ wsX1_mean := by decide +kernel
  have hl : lv_has ls 1 [(0, .ref (za z 0))] := hl
  have hk1 := hk.1
  have hk2 := hk.2.1
  refine lv_aload_n hx hb dX1_mean_0 rfl (lv_at hl 0 rfl) ?_
  refine X_gO C0 hK h hin1 0 (by decide) (by decide +kernel) dX1_mean_1 ?_
  refine L_gL C0 hK h hB hin0 4 (by decide) (by decide +kernel) rfl dX1_mean_4 ?_
  refine lv_if_ne (tgt := 12) hx hb dX1_mean_7 (by decide) (fun c_7 => ?_) (fun c_7 => ?_)
  · refine lv_aload_n hx hb dX1_mean_12 rfl (lv_at hl 0 rfl) ?_
    refine X_gO C0 hK h hin1 0 (by decide) (by decide +kernel) dX1_mean_13 ?_
    refine lv_bipush (v := 6) hx hb dX1_mean_16 (by decide) ?_
    refine S_callVi C0 hK h (c_X0_sumOfTanks l z σ 0 hB S hk 6 (by decide)) (cwV 1 hts gX1_mean_X0_sumOfTanks rfl rfl rfl (by decide +kernel) ⟨Nat.le_of_ble_eq_true rfl, Nat.le_of_ble_eq_true rfl⟩) (k := 1 + 27 * 0) (ci := 0) (by omega) (fun ct hA => (hA.2 0 (by decide)).1) rfl rfl rfl hl.1 (rest := []) rfl (Nat.le_of_ble_eq_true rfl) ⟨Nat.le_of_ble_eq_true rfl, Nat.le_of_ble_eq_true rfl⟩ dX1_mean_18 (fun r u H locs hp h => ?_)
    obtain ⟨rfl, hu9⟩ := hp
    rw [hu9] at h
    refine lv_i2d hx hb dX1_mean_21 ?_
    refine lv_aload_n hx hb dX1_mean_22 rfl (lv_at hl 0 rfl) ?_
    refine X_gO C0 hK h hin1 0 (by decide) (by decide +kernel) dX1_mean_23 ?_
    refine L_gL C0 hK h hB hin0 4 (by decide) (by decide +kernel) rfl dX1_mean_26 ?_
    refine lv_i2d hx hb dX1_mean_29 ?_
    refine lv_ddiv hx hb dX1_mean_30 (q_ddiv c_7) ?_
    exact G_dret C0 hK h ⟨by unfold qmean; rw [if_neg c_7], rfl⟩ (Nat.le_of_ble_eq_true rfl) (Nat.le_of_ble_eq_true rfl) dX1_mean_31
  · refine lv_dconst0 hx hb dX1_mean_10 ?_
    exact G_dret C0 hK h ⟨by unfold qmean; rw [if_pos c_7], rfl⟩ (Nat.le_of_ble_eq_true rfl) (Nat.le_of_ble_eq_true rfl) dX1_mean_11
set_option maxHeartbeats 4000000 in
set_option maxRecDepth 100000 in
theorem c_X1_digest (l : Launch) (z : QZ) (σ : Nat → QLs) (S : QLs) (hk : LOk S) : GL l yX1_digest wsX1_digest ({ frames := 3, cells := 0, slots := 0, locals := 68 } : Room) z [.ref (za z 0)] 0 0 (XAt z) 0 55 (va_up σ 0 S) (fun r σ' => r = qdigP S (qp S) (qdigT S (qt S) (qlong (ofAllL S) 9 1031)) ∧ σ' = va_up σ 0 S) := by
  intro ct sz hn hq hat
  refine q_entry (lo := 0) (cc := cX1_digest) (maxL := 5) (ret := (some .long)) (by decide) rfl (Nat.le_of_ble_eq_true rfl) hn hq hat ?_
  intro p e s m below meth c ls C0 hK hsz h hl
  subst hsz
  obtain ⟨hx, hb, hr, hml, hown, hts, hlocks⟩ := id C0
  have hB : 0 < 2 := by decide
  have hin0 : ∀ w ∈ u_ws RX0 TX0 5, w ∈ wsX1_digest := by decide +kernel
  have hin1 : ∀ w ∈ u_ws RX1 TX1 2, w ∈ wsX1_digest := by decide +kernel
  have hl : lv_has ls 5 [(0, .ref (za z 0))] := hl
  have hk1 := hk.1
  have hk2 := hk.2.1
  have L91 : ∀ (d i : Nat), i + d = qp S → ∀ (H : Heap) (locs : List Loc) (ls : Array Slot), GW z (XAt z) 0 55 s.heap ct (va_up σ 0 S) H locs → lv_has ls 5 [(3, .int (nI i)), (1, .long (qdigP S i (qdigT S (qt S) (qlong (ofAllL S) 9 1031)))), (0, .ref (za z 0))] → W p l e ({ frames := 3, cells := 0, slots := 0, locals := 68 } : Room) s m [.ref (za z 0)].toArray below meth c H locs 0 0 (EL z (XAt z) 0 55 ct s below [.ref (za z 0)] 0 0 (fun r σ' => r = qdigP S (qp S) (qdigT S (qt S) (qlong (ofAllL S) 9 1031)) ∧ σ' = va_up σ 0 S)) (F0 m 91 ls []) := by
    intro  d
    induction d with
    | zero =>
      intro i hdi H locs ls h hl
      have hEi : i = qp S := by omega
      refine lv_iload_n hx hb dX1_digest_91 rfl (lv_at hl 0 rfl) ?_
      refine lv_aload_n hx hb dX1_digest_92 rfl (lv_at hl 2 rfl) ?_
      refine X_gO C0 hK h hin1 0 (by decide) (by decide +kernel) dX1_digest_93 ?_
      refine L_gL C0 hK h hB hin0 3 (by decide) (by decide +kernel) rfl dX1_digest_96 ?_
      refine lv_icmp_ge (tgt := 142) hx hb dX1_digest_99 (by decide) (fun _ => ?_) (fun q9 => absurd (nI_le (a := qp S) (by omega) (by omega)) q9)
      refine lv_lload_n hx hb dX1_digest_142 rfl (lv_at hl 1 rfl) ?_
      exact G_lret C0 hK h ⟨by rw [hEi], rfl⟩ (Nat.le_of_ble_eq_true rfl) (Nat.le_of_ble_eq_true rfl) dX1_digest_143
    | succ d ihL91 =>
      intro i hdi H locs ls h hl
      have hEi : i < qp S := by omega
      have L105 : ∀ (g j : Nat), j + g = 10 → ∀ (H : Heap) (locs : List Loc) (ls : Array Slot), GW z (XAt z) 0 55 s.heap ct (va_up σ 0 S) H locs → lv_has ls 5 [(4, .int (nI j)), (3, .int (nI i)), (1, .long (qlong (fun w => ofPipeL S i w) j (qdigP S i (qdigT S (qt S) (qlong (ofAllL S) 9 1031))))), (0, .ref (za z 0))] → W p l e ({ frames := 3, cells := 0, slots := 0, locals := 68 } : Room) s m [.ref (za z 0)].toArray below meth c H locs 0 0 (EL z (XAt z) 0 55 ct s below [.ref (za z 0)] 0 0 (fun r σ' => r = qdigP S (qp S) (qdigT S (qt S) (qlong (ofAllL S) 9 1031)) ∧ σ' = va_up σ 0 S)) (F0 m 105 ls []) := by
        intro  g
        induction g with
        | zero =>
          intro j hdj H locs ls h hl
          have hEj : j = 10 := by omega
          refine lv_iload hx hb dX1_digest_105 (lv_at hl 0 rfl) ?_
          refine lv_bipush (v := 9) hx hb dX1_digest_107 (by decide) ?_
          refine lv_icmp_gt (tgt := 136) hx hb dX1_digest_109 (by decide) (fun _ => ?_) (fun q9 => absurd (show nI 9 < nI j from nI_lt (by omega) (by omega)) q9)
          refine lv_iinc (v := nI (i + 1)) (lv' := [(3, .int (nI (i + 1))), (4, .int (nI j)), (1, .long (qlong (fun w => ofPipeL S i w) j (qdigP S i (qdigT S (qt S) (qlong (ofAllL S) 9 1031))))), (0, .ref (za z 0))]) hx hb dX1_digest_136 hl (k := 1) rfl (q_inc i 1) (by decide) rfl (fun ls hl => ?_)
          refine lv_goto (tgt := 91) hx hb dX1_digest_139 (by decide) ?_
          have hl : lv_has ls 5 [(3, .int (nI (i + 1))), (4, .int (nI j)), (1, .long (qdigP S (i + 1) (qdigT S (qt S) (qlong (ofAllL S) 9 1031)))), (0, .ref (za z 0))] := by subst hEj; exact hl
          exact ihL91 (i + 1) (by omega) _ _ _ h (lv_sub hl [0, 2, 3] rfl)
        | succ g ihL105 =>
          intro j hdj H locs ls h hl
          have hEj : j < 10 := by omega
          refine lv_iload hx hb dX1_digest_105 (lv_at hl 0 rfl) ?_
          refine lv_bipush (v := 9) hx hb dX1_digest_107 (by decide) ?_
          refine lv_icmp_gt (tgt := 136) hx hb dX1_digest_109 (by decide) (fun q9 => absurd q9 (show ¬ nI 9 < nI j from nI_nlt (by omega) (by omega))) (fun _ => ?_)
          refine lv_lload_n hx hb dX1_digest_112 rfl (lv_at hl 2 rfl) ?_
          refine lv_ldc2 hx hb hown (hts (.constantLong RX1 105 (31)) (by decide +kernel)) dX1_digest_113 ?_
          refine lv_lmul hx hb dX1_digest_116 ?_
          refine lv_aload_n hx hb dX1_digest_117 rfl (lv_at hl 3 rfl) ?_
          refine X_gO C0 hK h hin1 0 (by decide) (by decide +kernel) dX1_digest_118 ?_
          refine lv_iload_n hx hb dX1_digest_121 rfl (lv_at hl 1 rfl) ?_
          refine lv_iload hx hb dX1_digest_122 (lv_at hl 0 rfl) ?_
          refine S_callVi C0 hK h (c_X0_ofPipe l z σ 0 hB S hk i hEi j (by omega)) (cwV 2 hts gX1_digest_X0_ofPipe rfl rfl rfl (by decide +kernel) ⟨Nat.le_of_ble_eq_true rfl, Nat.le_of_ble_eq_true rfl⟩) (k := 1 + 27 * 0) (ci := 0) (by omega) (fun ct hA => (hA.2 0 (by decide)).1) rfl rfl rfl hl.1 (rest := [.long ((qlong (fun w => ofPipeL S i w) j (qdigP S i (qdigT S (qt S) (qlong (ofAllL S) 9 1031)))) * 31)]) rfl (Nat.le_of_ble_eq_true rfl) ⟨Nat.le_of_ble_eq_true rfl, Nat.le_of_ble_eq_true rfl⟩ dX1_digest_124 (fun r u H locs hp h => ?_)
          obtain ⟨rfl, hu9⟩ := hp
          rw [hu9] at h
          refine lv_i2l hx hb dX1_digest_127 rfl ?_
          refine lv_ladd hx hb dX1_digest_128 ?_
          refine lv_lstore_n (lv' := [(1, .long (((qlong (fun w => ofPipeL S i w) j (qdigP S i (qdigT S (qt S) (qlong (ofAllL S) 9 1031)))) * 31) + ((ofPipeL S i j).toInt64))), (4, .int (nI j)), (3, .int (nI i)), (0, .ref (za z 0))]) hx hb dX1_digest_129 rfl hl (by decide) rfl (fun ls hl => ?_)
          refine lv_iinc (v := nI (j + 1)) (lv' := [(4, .int (nI (j + 1))), (1, .long (((qlong (fun w => ofPipeL S i w) j (qdigP S i (qdigT S (qt S) (qlong (ofAllL S) 9 1031)))) * 31) + ((ofPipeL S i j).toInt64))), (3, .int (nI i)), (0, .ref (za z 0))]) hx hb dX1_digest_130 hl (k := 1) rfl (q_inc j 1) (by decide) rfl (fun ls hl => ?_)
          refine lv_goto (tgt := 105) hx hb dX1_digest_133 (by decide) ?_
          have hl : lv_has ls 5 [(4, .int (nI (j + 1))), (1, .long (qlong (fun w => ofPipeL S i w) (j + 1) (qdigP S i (qdigT S (qt S) (qlong (ofAllL S) 9 1031))))), (3, .int (nI i)), (0, .ref (za z 0))] := hl
          exact ihL105 (j + 1) (by omega) _ _ _ h (lv_sub hl [0, 2, 1, 3] rfl)
      refine lv_iload_n hx hb dX1_digest_91 rfl (lv_at hl 0 rfl) ?_
      refine lv_aload_n hx hb dX1_digest_92 rfl (lv_at hl 2 rfl) ?_
      refine X_gO C0 hK h hin1 0 (by decide) (by decide +kernel) dX1_digest_93 ?_
      refine L_gL C0 hK h hB hin0 3 (by decide) (by decide +kernel) rfl dX1_digest_96 ?_
      refine lv_icmp_ge (tgt := 142) hx hb dX1_digest_99 (by decide) (fun q9 => absurd q9 (nI_ge (b := qp S) (by omega) (by omega))) (fun _ => ?_)
      refine lv_iconst (v := 0) hx hb dX1_digest_102 (by decide) ?_
      refine lv_istore (lv' := [(4, .int 0), (3, .int (nI i)), (1, .long (qdigP S i (qdigT S (qt S) (qlong (ofAllL S) 9 1031)))), (0, .ref (za z 0))]) hx hb dX1_digest_103 hl (by decide) rfl (fun ls hl => ?_)
      exact L105 (10) 0 (by omega) _ _ _ h (lv_sub hl [0, 1, 2, 3] rfl)
  have L36 : ∀ (d i : Nat), i + d = qt S → ∀ (H : Heap) (locs : List Loc) (ls : Array Slot), GW z (XAt z) 0 55 s.heap ct (va_up σ 0 S) H locs → lv_has ls 5 [(3, .int (nI i)), (1, .long (qdigT S i (qlong (ofAllL S) 9 1031))), (0, .ref (za z 0))] → W p l e ({ frames := 3, cells := 0, slots := 0, locals := 68 } : Room) s m [.ref (za z 0)].toArray below meth c H locs 0 0 (EL z (XAt z) 0 55 ct s below [.ref (za z 0)] 0 0 (fun r σ' => r = qdigP S (qp S) (qdigT S (qt S) (qlong (ofAllL S) 9 1031)) ∧ σ' = va_up σ 0 S)) (F0 m 36 ls []) := by
    intro  d
    induction d with
    | zero =>
      intro i hdi H locs ls h hl
      have hEi : i = qt S := by omega
      refine lv_iload_n hx hb dX1_digest_36 rfl (lv_at hl 0 rfl) ?_
      refine lv_aload_n hx hb dX1_digest_37 rfl (lv_at hl 2 rfl) ?_
      refine X_gO C0 hK h hin1 0 (by decide) (by decide +kernel) dX1_digest_38 ?_
      refine L_gL C0 hK h hB hin0 2 (by decide) (by decide +kernel) rfl dX1_digest_41 ?_
      refine lv_icmp_ge (tgt := 89) hx hb dX1_digest_44 (by decide) (fun _ => ?_) (fun q9 => absurd (nI_le (a := qt S) (by omega) (by omega)) q9)
      refine lv_iconst (v := 0) hx hb dX1_digest_89 (by decide) ?_
      refine lv_istore_n (lv' := [(3, .int 0), (1, .long (qdigT S i (qlong (ofAllL S) 9 1031))), (0, .ref (za z 0))]) hx hb dX1_digest_90 rfl hl (by decide) rfl (fun ls hl => ?_)
      have hl : lv_has ls 5 [(3, .int 0), (1, .long (qdigT S (qt S) (qlong (ofAllL S) 9 1031))), (0, .ref (za z 0))] := by subst hEi; exact hl
      exact L91 (qp S) 0 (by omega) _ _ _ h (lv_sub hl [0, 1, 2] rfl)
    | succ d ihL36 =>
      intro i hdi H locs ls h hl
      have hEi : i < qt S := by omega
      have L50 : ∀ (g j : Nat), j + g = 8 → ∀ (H : Heap) (locs : List Loc) (ls : Array Slot), GW z (XAt z) 0 55 s.heap ct (va_up σ 0 S) H locs → lv_has ls 5 [(4, .int (nI j)), (3, .int (nI i)), (1, .long (qlong (fun w => qT S i w) j (qdigT S i (qlong (ofAllL S) 9 1031)))), (0, .ref (za z 0))] → W p l e ({ frames := 3, cells := 0, slots := 0, locals := 68 } : Room) s m [.ref (za z 0)].toArray below meth c H locs 0 0 (EL z (XAt z) 0 55 ct s below [.ref (za z 0)] 0 0 (fun r σ' => r = qdigP S (qp S) (qdigT S (qt S) (qlong (ofAllL S) 9 1031)) ∧ σ' = va_up σ 0 S)) (F0 m 50 ls []) := by
        intro  g
        induction g with
        | zero =>
          intro j hdj H locs ls h hl
          have hEj : j = 8 := by omega
          refine lv_iload hx hb dX1_digest_50 (lv_at hl 0 rfl) ?_
          refine lv_bipush (v := 7) hx hb dX1_digest_52 (by decide) ?_
          refine lv_icmp_gt (tgt := 83) hx hb dX1_digest_54 (by decide) (fun _ => ?_) (fun q9 => absurd (show nI 7 < nI j from nI_lt (by omega) (by omega)) q9)
          refine lv_iinc (v := nI (i + 1)) (lv' := [(3, .int (nI (i + 1))), (4, .int (nI j)), (1, .long (qlong (fun w => qT S i w) j (qdigT S i (qlong (ofAllL S) 9 1031)))), (0, .ref (za z 0))]) hx hb dX1_digest_83 hl (k := 1) rfl (q_inc i 1) (by decide) rfl (fun ls hl => ?_)
          refine lv_goto (tgt := 36) hx hb dX1_digest_86 (by decide) ?_
          have hl : lv_has ls 5 [(3, .int (nI (i + 1))), (4, .int (nI j)), (1, .long (qdigT S (i + 1) (qlong (ofAllL S) 9 1031))), (0, .ref (za z 0))] := by subst hEj; exact hl
          exact ihL36 (i + 1) (by omega) _ _ _ h (lv_sub hl [0, 2, 3] rfl)
        | succ g ihL50 =>
          intro j hdj H locs ls h hl
          have hEj : j < 8 := by omega
          refine lv_iload hx hb dX1_digest_50 (lv_at hl 0 rfl) ?_
          refine lv_bipush (v := 7) hx hb dX1_digest_52 (by decide) ?_
          refine lv_icmp_gt (tgt := 83) hx hb dX1_digest_54 (by decide) (fun q9 => absurd q9 (show ¬ nI 7 < nI j from nI_nlt (by omega) (by omega))) (fun _ => ?_)
          refine lv_lload_n hx hb dX1_digest_57 rfl (lv_at hl 2 rfl) ?_
          refine lv_ldc2 hx hb hown (hts (.constantLong RX1 105 (31)) (by decide +kernel)) dX1_digest_58 ?_
          refine lv_lmul hx hb dX1_digest_61 ?_
          refine lv_aload_n hx hb dX1_digest_62 rfl (lv_at hl 3 rfl) ?_
          refine X_gO C0 hK h hin1 0 (by decide) (by decide +kernel) dX1_digest_63 ?_
          refine L_gL C0 hK h hB hin0 0 (by decide) (by decide +kernel) rfl dX1_digest_66 ?_
          refine lv_iload_n hx hb dX1_digest_69 rfl (lv_at hl 1 rfl) ?_
          refine X_aT C0 hK h hB (i := i) rfl (by omega) dX1_digest_70 ?_
          refine lv_iload hx hb dX1_digest_71 (lv_at hl 0 rfl) ?_
          refine L_ldT C0 hK h hB (by omega) (k := j) rfl (by omega) dX1_digest_73 ?_
          refine lv_i2l hx hb dX1_digest_74 rfl ?_
          refine lv_ladd hx hb dX1_digest_75 ?_
          refine lv_lstore_n (lv' := [(1, .long (((qlong (fun w => qT S i w) j (qdigT S i (qlong (ofAllL S) 9 1031))) * 31) + ((qT S i j).toInt64))), (4, .int (nI j)), (3, .int (nI i)), (0, .ref (za z 0))]) hx hb dX1_digest_76 rfl hl (by decide) rfl (fun ls hl => ?_)
          refine lv_iinc (v := nI (j + 1)) (lv' := [(4, .int (nI (j + 1))), (1, .long (((qlong (fun w => qT S i w) j (qdigT S i (qlong (ofAllL S) 9 1031))) * 31) + ((qT S i j).toInt64))), (3, .int (nI i)), (0, .ref (za z 0))]) hx hb dX1_digest_77 hl (k := 1) rfl (q_inc j 1) (by decide) rfl (fun ls hl => ?_)
          refine lv_goto (tgt := 50) hx hb dX1_digest_80 (by decide) ?_
          have hl : lv_has ls 5 [(4, .int (nI (j + 1))), (1, .long (qlong (fun w => qT S i w) (j + 1) (qdigT S i (qlong (ofAllL S) 9 1031)))), (3, .int (nI i)), (0, .ref (za z 0))] := hl
          exact ihL50 (j + 1) (by omega) _ _ _ h (lv_sub hl [0, 2, 1, 3] rfl)
      refine lv_iload_n hx hb dX1_digest_36 rfl (lv_at hl 0 rfl) ?_
      refine lv_aload_n hx hb dX1_digest_37 rfl (lv_at hl 2 rfl) ?_
      refine X_gO C0 hK h hin1 0 (by decide) (by decide +kernel) dX1_digest_38 ?_
      refine L_gL C0 hK h hB hin0 2 (by decide) (by decide +kernel) rfl dX1_digest_41 ?_
      refine lv_icmp_ge (tgt := 89) hx hb dX1_digest_44 (by decide) (fun q9 => absurd q9 (nI_ge (b := qt S) (by omega) (by omega))) (fun _ => ?_)
      refine lv_iconst (v := 0) hx hb dX1_digest_47 (by decide) ?_
      refine lv_istore (lv' := [(4, .int 0), (3, .int (nI i)), (1, .long (qdigT S i (qlong (ofAllL S) 9 1031))), (0, .ref (za z 0))]) hx hb dX1_digest_48 hl (by decide) rfl (fun ls hl => ?_)
      exact L50 (8) 0 (by omega) _ _ _ h (lv_sub hl [0, 1, 2, 3] rfl)
  have L6 : ∀ (d i : Nat), i + d = 9 → ∀ (H : Heap) (locs : List Loc) (ls : Array Slot), GW z (XAt z) 0 55 s.heap ct (va_up σ 0 S) H locs → lv_has ls 5 [(3, .int (nI i)), (1, .long (qlong (ofAllL S) i 1031)), (0, .ref (za z 0))] → W p l e ({ frames := 3, cells := 0, slots := 0, locals := 68 } : Room) s m [.ref (za z 0)].toArray below meth c H locs 0 0 (EL z (XAt z) 0 55 ct s below [.ref (za z 0)] 0 0 (fun r σ' => r = qdigP S (qp S) (qdigT S (qt S) (qlong (ofAllL S) 9 1031)) ∧ σ' = va_up σ 0 S)) (F0 m 6 ls []) := by
    intro  d
    induction d with
    | zero =>
      intro i hdi H locs ls h hl
      have hEi : i = 9 := by omega
      refine lv_iload_n hx hb dX1_digest_6 rfl (lv_at hl 0 rfl) ?_
      refine lv_bipush (v := 8) hx hb dX1_digest_7 (by decide) ?_
      refine lv_icmp_gt (tgt := 34) hx hb dX1_digest_9 (by decide) (fun _ => ?_) (fun q9 => absurd (show nI 8 < nI i from nI_lt (by omega) (by omega)) q9)
      refine lv_iconst (v := 0) hx hb dX1_digest_34 (by decide) ?_
      refine lv_istore_n (lv' := [(3, .int 0), (1, .long (qlong (ofAllL S) i 1031)), (0, .ref (za z 0))]) hx hb dX1_digest_35 rfl hl (by decide) rfl (fun ls hl => ?_)
      have hl : lv_has ls 5 [(3, .int 0), (1, .long (qlong (ofAllL S) 9 1031)), (0, .ref (za z 0))] := by subst hEi; exact hl
      exact L36 (qt S) 0 (by omega) _ _ _ h (lv_sub hl [0, 1, 2] rfl)
    | succ d ihL6 =>
      intro i hdi H locs ls h hl
      have hEi : i < 9 := by omega
      refine lv_iload_n hx hb dX1_digest_6 rfl (lv_at hl 0 rfl) ?_
      refine lv_bipush (v := 8) hx hb dX1_digest_7 (by decide) ?_
      refine lv_icmp_gt (tgt := 34) hx hb dX1_digest_9 (by decide) (fun q9 => absurd q9 (show ¬ nI 8 < nI i from nI_nlt (by omega) (by omega))) (fun _ => ?_)
      refine lv_lload_n hx hb dX1_digest_12 rfl (lv_at hl 1 rfl) ?_
      refine lv_ldc2 hx hb hown (hts (.constantLong RX1 105 (31)) (by decide +kernel)) dX1_digest_13 ?_
      refine lv_lmul hx hb dX1_digest_16 ?_
      refine lv_aload_n hx hb dX1_digest_17 rfl (lv_at hl 2 rfl) ?_
      refine X_gO C0 hK h hin1 0 (by decide) (by decide +kernel) dX1_digest_18 ?_
      refine lv_iload_n hx hb dX1_digest_21 rfl (lv_at hl 0 rfl) ?_
      refine S_callVi C0 hK h (c_X0_ofAll l z σ 0 hB S hk i (by omega)) (cwV 1 hts gX1_digest_X0_ofAll rfl rfl rfl (by decide +kernel) ⟨Nat.le_of_ble_eq_true rfl, Nat.le_of_ble_eq_true rfl⟩) (k := 1 + 27 * 0) (ci := 0) (by omega) (fun ct hA => (hA.2 0 (by decide)).1) rfl rfl rfl hl.1 (rest := [.long ((qlong (ofAllL S) i 1031) * 31)]) rfl (Nat.le_of_ble_eq_true rfl) ⟨Nat.le_of_ble_eq_true rfl, Nat.le_of_ble_eq_true rfl⟩ dX1_digest_22 (fun r u H locs hp h => ?_)
      obtain ⟨rfl, hu9⟩ := hp
      rw [hu9] at h
      refine lv_i2l hx hb dX1_digest_25 rfl ?_
      refine lv_ladd hx hb dX1_digest_26 ?_
      refine lv_lstore_n (lv' := [(1, .long (((qlong (ofAllL S) i 1031) * 31) + ((ofAllL S i).toInt64))), (3, .int (nI i)), (0, .ref (za z 0))]) hx hb dX1_digest_27 rfl hl (by decide) rfl (fun ls hl => ?_)
      refine lv_iinc (v := nI (i + 1)) (lv' := [(3, .int (nI (i + 1))), (1, .long (((qlong (ofAllL S) i 1031) * 31) + ((ofAllL S i).toInt64))), (0, .ref (za z 0))]) hx hb dX1_digest_28 hl (k := 1) rfl (q_inc i 1) (by decide) rfl (fun ls hl => ?_)
      refine lv_goto (tgt := 6) hx hb dX1_digest_31 (by decide) ?_
      have hl : lv_has ls 5 [(3, .int (nI (i + 1))), (1, .long (qlong (ofAllL S) (i + 1) 1031)), (0, .ref (za z 0))] := hl
      exact ihL6 (i + 1) (by omega) _ _ _ h (lv_sub hl [0, 1, 2] rfl)
  refine lv_ldc2 hx hb hown (hts (.constantLong RX1 103 (1031)) (by decide +kernel)) dX1_digest_0 ?_
  refine lv_lstore_n (lv' := [(1, .long 1031), (0, .ref (za z 0))]) hx hb dX1_digest_3 rfl hl (by decide) rfl (fun ls hl => ?_)
  refine lv_iconst (v := 0) hx hb dX1_digest_4 (by decide) ?_
  refine lv_istore_n (lv' := [(3, .int 0), (1, .long 1031), (0, .ref (za z 0))]) hx hb dX1_digest_5 rfl hl (by decide) rfl (fun ls hl => ?_)
  exact L6 (9) 0 (by omega) _ _ _ h (lv_sub hl [0, 1, 2] rfl)
