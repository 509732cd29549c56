set_option maxHeartbeats 4000000 in
set_option maxRecDepth 100000 in
theorem c_X0_copyFrom (l : Launch) (z : QZ) (σ : Nat → QLs) (S : QLs) (hc1 : qt (σ 0) ≤ 10) (hc2 : qp (σ 0) ≤ 14) : GV l yX0_copyFrom wsX0_copyFrom ({ frames := 1, cells := 0, slots := 0, locals := 60 } : Room) z [.ref (za z (1 + 27 * 1)), .ref (za z (1 + 27 * 0))] 0 0 (XAt z) 0 55 (va_up σ 1 S) (fun σ' => σ' = va_up σ 1 (copyL (σ 0) S)) := by
  intro ct sz hn hq hat
  refine q_entry (lo := 0) (cc := cX0_copyFrom) (maxL := 3) (ret := none) (by decide) rfl (Nat.le_of_ble_eq_true rfl) hn hq hat ?_
  intro p e s m below meth c ls C0 hK hsz h hl
  subst hsz
  obtain ⟨hx, hb, hr, hml, hown, hts, hlocks⟩ := id C0
  have hB : 1 < 2 := by decide
  have hin0 : ∀ w ∈ u_ws RX0 TX0 5, w ∈ wsX0_copyFrom := by decide +kernel
  have hl : lv_has ls 3 [(0, .ref (za z (1 + 27 * 1))), (1, .ref (za z (1 + 27 * 0)))] := hl
  have L61 : ∀ (Sb : QLs) (hb2 : qp Sb = qp (σ 0)) (hq9 : itN (cpPF (σ 0)) (qp (σ 0)) Sb = copyL (σ 0) S) (d i : Nat), i + d = qp (σ 0) → ∀ (H : Heap) (locs : List Loc) (ls : Array Slot), GW z (XAt z) 0 55 s.heap ct (va_up σ 1 (itN (cpPF (σ 0)) i Sb)) H locs → lv_has ls 3 [(2, .int (nI i)), (0, .ref (za z (1 + 27 * 1))), (1, .ref (za z (1 + 27 * 0)))] → W p l e ({ frames := 1, cells := 0, slots := 0, locals := 60 } : Room) s m [.ref (za z (1 + 27 * 1)), .ref (za z (1 + 27 * 0))].toArray below meth c H locs 0 0 (EV z (XAt z) 0 55 ct s below [.ref (za z (1 + 27 * 1)), .ref (za z (1 + 27 * 0))] 0 0 (fun σ' => σ' = va_up σ 1 (copyL (σ 0) S))) (F0 m 61 ls []) := by
    intro Sb hb2 hq9 d
    induction d with
    | zero =>
      intro i hdi H locs ls h hl
      have hEi : i = qp (σ 0) := by omega
      obtain ⟨S1, eS1⟩ : ∃ z9, z9 = itN (cpPF (σ 0)) i Sb := ⟨_, rfl⟩
      rw [← eS1] at h
      have hs9 := cpP_t (σ 0) Sb i
      rw [← eS1] at hs9
      have hs1 := hs9.1
      have hs2 := hs9.2
      refine lv_iload_n hx hb dX0_copyFrom_61 rfl (lv_at hl 0 rfl) ?_
      refine lv_aload_n hx hb dX0_copyFrom_62 rfl (lv_at hl 1 rfl) ?_
      refine L_gL C0 hK h hB hin0 3 (by decide) (by decide +kernel) rfl dX0_copyFrom_63 ?_
      refine lv_icmp_ge (tgt := 94) hx hb dX0_copyFrom_66 (by decide) (fun _ => ?_) (fun q9 => absurd (nI_le (by omega) (by omega)) q9)
      exact G_vret C0 hK h (congrArg (va_up σ 1) (by rw [← hq9, eS1, hEi])) (Nat.le_of_ble_eq_true rfl) (Nat.le_of_ble_eq_true rfl) dX0_copyFrom_94
    | succ d ihL61 =>
      intro i hdi H locs ls h hl
      have hEi : i < qp (σ 0) := by omega
      obtain ⟨S2, eS2⟩ : ∃ z9, z9 = itN (cpPF (σ 0)) i Sb := ⟨_, rfl⟩
      rw [← eS2] at h
      have hs9 := cpP_t (σ 0) Sb i
      rw [← eS2] at hs9
      have hs1 := hs9.1
      have hs2 := hs9.2
      refine lv_iload_n hx hb dX0_copyFrom_61 rfl (lv_at hl 0 rfl) ?_
      refine lv_aload_n hx hb dX0_copyFrom_62 rfl (lv_at hl 1 rfl) ?_
      refine L_gL C0 hK h hB hin0 3 (by decide) (by decide +kernel) rfl dX0_copyFrom_63 ?_
      refine lv_icmp_ge (tgt := 94) hx hb dX0_copyFrom_66 (by decide) (fun q9 => absurd q9 (nI_ge (by omega) (by omega))) (fun _ => ?_)
      refine lv_aload_n hx hb dX0_copyFrom_69 rfl (lv_at hl 2 rfl) ?_
      refine K_gO C0 hK h hin0 1 (by decide) (by decide +kernel) rfl dX0_copyFrom_70 ?_
      refine lv_iload_n hx hb dX0_copyFrom_73 rfl (lv_at hl 0 rfl) ?_
      refine X_aP C0 hK h (b := 0) (by omega) (i := i) rfl (by omega) dX0_copyFrom_74 ?_
      refine lv_iconst (v := 0) hx hb dX0_copyFrom_75 (by decide) ?_
      refine lv_aload_n hx hb dX0_copyFrom_76 rfl (lv_at hl 1 rfl) ?_
      refine L_gL C0 hK h hB hin0 1 (by decide) (by decide +kernel) rfl dX0_copyFrom_77 ?_
      refine lv_iload_n hx hb dX0_copyFrom_80 rfl (lv_at hl 0 rfl) ?_
      refine X_aP C0 hK h (b := 1) (by omega) (i := i) rfl (by omega) dX0_copyFrom_81 ?_
      refine lv_iconst (v := 0) hx hb dX0_copyFrom_82 (by decide) ?_
      refine lv_bipush (v := 10) hx hb dX0_copyFrom_83 (by decide) ?_
      refine K_cpP C0 hK hl.1 h (by omega) (by decide +kernel) (by decide +kernel) (by decide +kernel) (by decide +kernel) (by decide) dX0_copyFrom_85 (fun H locs S3 eS3 h => ?_)
      refine lv_iinc (v := nI (i + 1)) (lv' := [(2, .int (nI (i + 1))), (0, .ref (za z (1 + 27 * 1))), (1, .ref (za z (1 + 27 * 0)))]) hx hb dX0_copyFrom_88 hl (k := 0) rfl (q_inc i 1) (by decide) rfl (fun ls hl => ?_)
      refine lv_goto (tgt := 61) hx hb dX0_copyFrom_91 (by decide) ?_
      exact ihL61 (i + 1) (by omega) _ _ _ (by subst eS3; rw [eS2] at h; exact h) (lv_sub hl [0, 1, 2] rfl)
  have L26 : ∀ (Sb : QLs) (hb1 : qt Sb = qt (σ 0)) (hb2 : qp Sb = qp (σ 0)) (hq9 : itN (cpPF (σ 0)) (qp (σ 0)) (itN (cpTF (σ 0)) (qt (σ 0)) Sb) = copyL (σ 0) S) (d i : Nat), i + d = qt (σ 0) → ∀ (H : Heap) (locs : List Loc) (ls : Array Slot), GW z (XAt z) 0 55 s.heap ct (va_up σ 1 (itN (cpTF (σ 0)) i Sb)) H locs → lv_has ls 3 [(2, .int (nI i)), (0, .ref (za z (1 + 27 * 1))), (1, .ref (za z (1 + 27 * 0)))] → W p l e ({ frames := 1, cells := 0, slots := 0, locals := 60 } : Room) s m [.ref (za z (1 + 27 * 1)), .ref (za z (1 + 27 * 0))].toArray below meth c H locs 0 0 (EV z (XAt z) 0 55 ct s below [.ref (za z (1 + 27 * 1)), .ref (za z (1 + 27 * 0))] 0 0 (fun σ' => σ' = va_up σ 1 (copyL (σ 0) S))) (F0 m 26 ls []) := by
    intro Sb hb1 hb2 hq9 d
    induction d with
    | zero =>
      intro i hdi H locs ls h hl
      have hEi : i = qt (σ 0) := by omega
      obtain ⟨S4, eS4⟩ : ∃ z9, z9 = itN (cpTF (σ 0)) i Sb := ⟨_, rfl⟩
      rw [← eS4] at h
      have hs9 := cpT_t (σ 0) Sb i
      rw [← eS4] at hs9
      have hs1 := hs9.1
      have hs2 := hs9.2
      refine lv_iload_n hx hb dX0_copyFrom_26 rfl (lv_at hl 0 rfl) ?_
      refine lv_aload_n hx hb dX0_copyFrom_27 rfl (lv_at hl 1 rfl) ?_
      refine L_gL C0 hK h hB hin0 2 (by decide) (by decide +kernel) rfl dX0_copyFrom_28 ?_
      refine lv_icmp_ge (tgt := 59) hx hb dX0_copyFrom_31 (by decide) (fun _ => ?_) (fun q9 => absurd (nI_le (by omega) (by omega)) q9)
      refine lv_iconst (v := 0) hx hb dX0_copyFrom_59 (by decide) ?_
      refine lv_istore_n (lv' := [(2, .int 0), (0, .ref (za z (1 + 27 * 1))), (1, .ref (za z (1 + 27 * 0)))]) hx hb dX0_copyFrom_60 rfl hl (by decide) rfl (fun ls hl => ?_)
      exact L61 S4 (by omega) (by rw [eS4, hEi]; exact hq9) (qp (σ 0)) 0 (by omega) _ _ _ h (lv_sub hl [0, 1, 2] rfl)
    | succ d ihL26 =>
      intro i hdi H locs ls h hl
      have hEi : i < qt (σ 0) := by omega
      obtain ⟨S5, eS5⟩ : ∃ z9, z9 = itN (cpTF (σ 0)) i Sb := ⟨_, rfl⟩
      rw [← eS5] at h
      have hs9 := cpT_t (σ 0) Sb i
      rw [← eS5] at hs9
      have hs1 := hs9.1
      have hs2 := hs9.2
      refine lv_iload_n hx hb dX0_copyFrom_26 rfl (lv_at hl 0 rfl) ?_
      refine lv_aload_n hx hb dX0_copyFrom_27 rfl (lv_at hl 1 rfl) ?_
      refine L_gL C0 hK h hB hin0 2 (by decide) (by decide +kernel) rfl dX0_copyFrom_28 ?_
      refine lv_icmp_ge (tgt := 59) hx hb dX0_copyFrom_31 (by decide) (fun q9 => absurd q9 (nI_ge (by omega) (by omega))) (fun _ => ?_)
      refine lv_aload_n hx hb dX0_copyFrom_34 rfl (lv_at hl 2 rfl) ?_
      refine K_gO C0 hK h hin0 0 (by decide) (by decide +kernel) rfl dX0_copyFrom_35 ?_
      refine lv_iload_n hx hb dX0_copyFrom_38 rfl (lv_at hl 0 rfl) ?_
      refine X_aT C0 hK h (b := 0) (by omega) (i := i) rfl (by omega) dX0_copyFrom_39 ?_
      refine lv_iconst (v := 0) hx hb dX0_copyFrom_40 (by decide) ?_
      refine lv_aload_n hx hb dX0_copyFrom_41 rfl (lv_at hl 1 rfl) ?_
      refine L_gL C0 hK h hB hin0 0 (by decide) (by decide +kernel) rfl dX0_copyFrom_42 ?_
      refine lv_iload_n hx hb dX0_copyFrom_45 rfl (lv_at hl 0 rfl) ?_
      refine X_aT C0 hK h (b := 1) (by omega) (i := i) rfl (by omega) dX0_copyFrom_46 ?_
      refine lv_iconst (v := 0) hx hb dX0_copyFrom_47 (by decide) ?_
      refine lv_bipush (v := 8) hx hb dX0_copyFrom_48 (by decide) ?_
      refine K_cpT C0 hK hl.1 h (by omega) (by decide +kernel) (by decide +kernel) (by decide +kernel) (by decide +kernel) (by decide) dX0_copyFrom_50 (fun H locs S6 eS6 h => ?_)
      refine lv_iinc (v := nI (i + 1)) (lv' := [(2, .int (nI (i + 1))), (0, .ref (za z (1 + 27 * 1))), (1, .ref (za z (1 + 27 * 0)))]) hx hb dX0_copyFrom_53 hl (k := 0) rfl (q_inc i 1) (by decide) rfl (fun ls hl => ?_)
      refine lv_goto (tgt := 26) hx hb dX0_copyFrom_56 (by decide) ?_
      exact ihL26 (i + 1) (by omega) _ _ _ (by subst eS6; rw [eS5] at h; exact h) (lv_sub hl [0, 1, 2] rfl)
  refine lv_aload_n hx hb dX0_copyFrom_0 rfl (lv_at hl 0 rfl) ?_
  refine lv_aload_n hx hb dX0_copyFrom_1 rfl (lv_at hl 1 rfl) ?_
  refine K_gO C0 hK h hin0 4 (by decide) (by decide +kernel) rfl dX0_copyFrom_2 ?_
  refine L_pd C0 hK h hB hin0 (by decide +kernel) dX0_copyFrom_5 (fun H locs S7 eS7 h => ?_)
  refine lv_aload_n hx hb dX0_copyFrom_8 rfl (lv_at hl 0 rfl) ?_
  refine lv_aload_n hx hb dX0_copyFrom_9 rfl (lv_at hl 1 rfl) ?_
  refine K_gO C0 hK h hin0 2 (by decide) (by decide +kernel) rfl dX0_copyFrom_10 ?_
  refine L_pt C0 hK h hB hin0 (by decide +kernel) (n := qt (σ 0)) rfl dX0_copyFrom_13 (fun H locs S8 eS8 h => ?_)
  refine lv_aload_n hx hb dX0_copyFrom_16 rfl (lv_at hl 0 rfl) ?_
  refine lv_aload_n hx hb dX0_copyFrom_17 rfl (lv_at hl 1 rfl) ?_
  refine K_gO C0 hK h hin0 3 (by decide) (by decide +kernel) rfl dX0_copyFrom_18 ?_
  refine L_pp C0 hK h hB hin0 (by decide +kernel) (n := qp (σ 0)) rfl dX0_copyFrom_21 (fun H locs S9 eS9 h => ?_)
  refine lv_iconst (v := 0) hx hb dX0_copyFrom_24 (by decide) ?_
  refine lv_istore_n (lv' := [(2, .int 0), (0, .ref (za z (1 + 27 * 1))), (1, .ref (za z (1 + 27 * 0)))]) hx hb dX0_copyFrom_25 rfl hl (by decide) rfl (fun ls hl => ?_)
  exact L26 S9 (by subst eS9 eS8 eS7; rfl) (by subst eS9 eS8 eS7; rfl) (by subst eS9 eS8 eS7; rfl) (qt (σ 0)) 0 (by omega) _ _ _ h (lv_sub hl [0, 1, 2] rfl)
