set_option maxHeartbeats 4000000 in
set_option maxRecDepth 100000 in
theorem c_X2_suspect (l : Launch) (z : QZ) (M : QMs) (hk : MOk M) : GI l yX2_suspect wsX2_suspect ({ frames := 1, cells := 0, slots := 0, locals := 22 } : Room) z [.ref (za z 55)] 0 0 (MAt z) 55 59 M (fun r M' => r = msus (uh M 0) (mp_ M) ∧ M' = uh M 0) := by
  intro ct sz hn hq hat
  refine q_entry (lo := 55) (cc := cX2_suspect) (maxL := 3) (ret := (some .int)) (by decide) rfl (Nat.le_of_ble_eq_true rfl) hn hq hat ?_
  intro p e s m below meth c ls C0 hK hsz h hl
  subst hsz
  obtain ⟨hx, hb, hr, hml, hown, hts, hlocks⟩ := id C0
  have hin2 : ∀ w ∈ u_ws RX2 TX2 6, w ∈ wsX2_suspect := by decide +kernel
  have hl : lv_has ls 3 [(0, .ref (za z 55))] := hl
  have hk1 := hk.1
  have hk2 := hk.2.1
  have L9 : ∀ (d i : Nat), i + d = mp_ M → ∀ (H : Heap) (locs : List Loc) (ls : Array Slot), GW z (MAt z) 55 59 s.heap ct (uh M 0) H locs → lv_has ls 3 [(2, .int (nI i)), (1, .int (msus (uh M 0) i)), (0, .ref (za z 55))] → W p l e ({ frames := 1, cells := 0, slots := 0, locals := 22 } : Room) s m [.ref (za z 55)].toArray below meth c H locs 0 0 (EI z (MAt z) 55 59 ct s below [.ref (za z 55)] 0 0 (fun r M' => r = msus (uh M 0) (mp_ M) ∧ M' = uh M 0)) (F0 m 9 ls []) := by
    intro  d
    induction d with
    | zero =>
      intro i hdi H locs ls h hl
      have hEi : i = mp_ M := by omega
      refine lv_iload_n hx hb dX2_suspect_9 rfl (lv_at hl 0 rfl) ?_
      refine lv_aload_n hx hb dX2_suspect_10 rfl (lv_at hl 2 rfl) ?_
      refine M_g C0 hK h hin2 2 (by decide) (by decide +kernel) rfl dX2_suspect_11 ?_
      refine lv_icmp_ge (tgt := 51) hx hb dX2_suspect_14 (by decide) (fun _ => ?_) (fun q9 => absurd (nI_le (a := mp_ M) (by omega) (by omega)) q9)
      refine lv_iload_n hx hb dX2_suspect_51 rfl (lv_at hl 1 rfl) ?_
      exact G_iret C0 hK h ⟨by rw [hEi], rfl⟩ (Nat.le_of_ble_eq_true rfl) (Nat.le_of_ble_eq_true rfl) dX2_suspect_52
    | succ d ihL9 =>
      intro i hdi H locs ls h hl
      have hEi : i < mp_ M := by omega
      refine lv_iload_n hx hb dX2_suspect_9 rfl (lv_at hl 0 rfl) ?_
      refine lv_aload_n hx hb dX2_suspect_10 rfl (lv_at hl 2 rfl) ?_
      refine M_g C0 hK h hin2 2 (by decide) (by decide +kernel) rfl dX2_suspect_11 ?_
      refine lv_icmp_ge (tgt := 51) hx hb dX2_suspect_14 (by decide) (fun q9 => absurd q9 (nI_ge (b := mp_ M) (by omega) (by omega))) (fun _ => ?_)
      refine lv_aload_n hx hb dX2_suspect_17 rfl (lv_at hl 2 rfl) ?_
      refine lv_iload_n hx hb dX2_suspect_18 rfl (lv_at hl 0 rfl) ?_
      refine lv_bipush (v := 6) hx hb dX2_suspect_19 (by decide) ?_
      refine S_callVi C0 hK h (c_X2_li l z (uh M 0) i (by omega) 6 (by omega)) (cwV 2 hts gX2_suspect_X2_li rfl rfl rfl (by decide +kernel) ⟨Nat.le_of_ble_eq_true rfl, Nat.le_of_ble_eq_true rfl⟩) (k := 55) (ci := 2) (by omega) (fun ct hA => hA.1) rfl rfl rfl hl.1 (rest := []) rfl (Nat.le_of_ble_eq_true rfl) ⟨Nat.le_of_ble_eq_true rfl, Nat.le_of_ble_eq_true rfl⟩ dX2_suspect_21 (fun r u H locs hp h => ?_)
      obtain ⟨rfl, hu9⟩ := hp
      rw [hu9] at h
      refine lv_iload_n hx hb dX2_suspect_24 rfl (lv_at hl 1 rfl) ?_
      refine lv_iconst (v := (-1)) hx hb dX2_suspect_25 (by decide) ?_
      refine lv_icmp_ne (tgt := 33) hx hb dX2_suspect_26 (by decide) (fun c_26 => ?_) (fun c_26 => ?_)
      · obtain ⟨j, hj, ej⟩ := (msus_c (uh M 0) i).resolve_left c_26
        refine lv_aload_n hx hb dX2_suspect_33 rfl (lv_at hl 2 rfl) ?_
        refine lv_iload_n hx hb dX2_suspect_34 rfl (lv_at hl 1 rfl) ?_
        refine lv_bipush (v := 6) hx hb dX2_suspect_35 (by decide) ?_
        refine S_callVi C0 hK h (c_X2_li l z (uh M 0) j (by omega) 6 (by omega)) (cwV 2 hts gX2_suspect_X2_li rfl rfl rfl (by decide +kernel) ⟨Nat.le_of_ble_eq_true rfl, Nat.le_of_ble_eq_true rfl⟩) (k := 55) (ci := 2) (by omega) (fun ct hA => hA.1) rfl rfl rfl hl.1 (rest := [.int (mB (uh M 0) (9 * i + 6))]) (by rw [ej]; rfl) (Nat.le_of_ble_eq_true rfl) ⟨Nat.le_of_ble_eq_true rfl, Nat.le_of_ble_eq_true rfl⟩ dX2_suspect_37 (fun r u H locs hp h => ?_)
        obtain ⟨rfl, hu9⟩ := hp
        rw [hu9] at h
        refine lv_icmp_le (tgt := 45) hx hb dX2_suspect_40 (by decide) (fun c_40 => ?_) (fun c_40 => ?_)
        · refine lv_iinc (v := nI (i + 1)) (lv' := [(2, .int (nI (i + 1))), (1, .int (msus (uh M 0) i)), (0, .ref (za z 55))]) hx hb dX2_suspect_45 hl (k := 0) rfl (q_inc i 1) (by decide) rfl (fun ls hl => ?_)
          refine lv_goto (tgt := 9) hx hb dX2_suspect_48 (by decide) ?_
          have e9 : msus (uh M 0) (i + 1) = msus (uh M 0) i := msus_a c_26 ej c_40
          have hl : lv_has ls 3 [(2, .int (nI (i + 1))), (1, .int (msus (uh M 0) (i + 1))), (0, .ref (za z 55))] := by rw [e9]; exact hl
          exact ihL9 (i + 1) (by omega) _ _ _ h (lv_sub hl [0, 1, 2] rfl)
        · refine lv_iload_n hx hb dX2_suspect_43 rfl (lv_at hl 0 rfl) ?_
          refine lv_istore_n (lv' := [(1, .int (nI i)), (2, .int (nI i)), (0, .ref (za z 55))]) hx hb dX2_suspect_44 rfl hl (by decide) rfl (fun ls hl => ?_)
          refine lv_iinc (v := nI (i + 1)) (lv' := [(2, .int (nI (i + 1))), (1, .int (nI i)), (0, .ref (za z 55))]) hx hb dX2_suspect_45 hl (k := 1) rfl (q_inc i 1) (by decide) rfl (fun ls hl => ?_)
          refine lv_goto (tgt := 9) hx hb dX2_suspect_48 (by decide) ?_
          have e9 : msus (uh M 0) (i + 1) = nI i := msus_b c_26 ej c_40
          have hl : lv_has ls 3 [(2, .int (nI (i + 1))), (1, .int (msus (uh M 0) (i + 1))), (0, .ref (za z 55))] := by rw [e9]; exact hl
          exact ihL9 (i + 1) (by omega) _ _ _ h (lv_sub hl [0, 1, 2] rfl)
      · refine lv_iconst (v := 0) hx hb dX2_suspect_29 (by decide) ?_
        refine lv_goto (tgt := 40) hx hb dX2_suspect_30 (by decide) ?_
        refine lv_icmp_le (tgt := 45) hx hb dX2_suspect_40 (by decide) (fun c_40 => ?_) (fun c_40 => ?_)
        · refine lv_iinc (v := nI (i + 1)) (lv' := [(2, .int (nI (i + 1))), (1, .int (msus (uh M 0) i)), (0, .ref (za z 55))]) hx hb dX2_suspect_45 hl (k := 0) rfl (q_inc i 1) (by decide) rfl (fun ls hl => ?_)
          refine lv_goto (tgt := 9) hx hb dX2_suspect_48 (by decide) ?_
          have e9 : msus (uh M 0) (i + 1) = msus (uh M 0) i := msus_e c_26 c_40
          have hl : lv_has ls 3 [(2, .int (nI (i + 1))), (1, .int (msus (uh M 0) (i + 1))), (0, .ref (za z 55))] := by rw [e9]; exact hl
          exact ihL9 (i + 1) (by omega) _ _ _ h (lv_sub hl [0, 1, 2] rfl)
        · refine lv_iload_n hx hb dX2_suspect_43 rfl (lv_at hl 0 rfl) ?_
          refine lv_istore_n (lv' := [(1, .int (nI i)), (2, .int (nI i)), (0, .ref (za z 55))]) hx hb dX2_suspect_44 rfl hl (by decide) rfl (fun ls hl => ?_)
          refine lv_iinc (v := nI (i + 1)) (lv' := [(2, .int (nI (i + 1))), (1, .int (nI i)), (0, .ref (za z 55))]) hx hb dX2_suspect_45 hl (k := 1) rfl (q_inc i 1) (by decide) rfl (fun ls hl => ?_)
          refine lv_goto (tgt := 9) hx hb dX2_suspect_48 (by decide) ?_
          have e9 : msus (uh M 0) (i + 1) = nI i := msus_d c_26 c_40
          have hl : lv_has ls 3 [(2, .int (nI (i + 1))), (1, .int (msus (uh M 0) (i + 1))), (0, .ref (za z 55))] := by rw [e9]; exact hl
          exact ihL9 (i + 1) (by omega) _ _ _ h (lv_sub hl [0, 1, 2] rfl)
  refine lv_aload_n hx hb dX2_suspect_0 rfl (lv_at hl 0 rfl) ?_
  refine lv_iconst (v := 0) hx hb dX2_suspect_1 (by decide) ?_
  refine N_ph C0 hK h hin2 (by decide +kernel) dX2_suspect_2 (fun H locs M1 eM1 h => ?_)
  subst eM1
  refine lv_iconst (v := (-1)) hx hb dX2_suspect_5 (by decide) ?_
  refine lv_istore_n (lv' := [(1, .int ((-1))), (0, .ref (za z 55))]) hx hb dX2_suspect_6 rfl hl (by decide) rfl (fun ls hl => ?_)
  refine lv_iconst (v := 0) hx hb dX2_suspect_7 (by decide) ?_
  refine lv_istore_n (lv' := [(2, .int 0), (1, .int ((-1))), (0, .ref (za z 55))]) hx hb dX2_suspect_8 rfl hl (by decide) rfl (fun ls hl => ?_)
  exact L9 (mp_ M) 0 (by omega) _ _ _ h (lv_sub hl [0, 1, 2] rfl)
set_option maxHeartbeats 4000000 in
set_option maxRecDepth 100000 in
theorem c_X2_digest (l : Launch) (z : QZ) (M : QMs) (hk : MOk M) : GL l yX2_digest wsX2_digest ({ frames := 4, cells := 0, slots := 0, locals := 87 } : Room) z [.ref (za z 55)] 0 0 (MAt z) 55 59 M (fun r M' => r = mdigP (uh M 0) (mp_ M) (mdigT (uh M 0) (mt_ M) (qlong (mcount (uh M 0)) 9 1031)) ∧ M' = uh M 0) := by
  intro ct sz hn hq hat
  refine q_entry (lo := 55) (cc := cX2_digest) (maxL := 5) (ret := (some .long)) (by decide) rfl (Nat.le_of_ble_eq_true rfl) hn hq hat ?_
  intro p e s m below meth c ls C0 hK hsz h hl
  subst hsz
  obtain ⟨hx, hb, hr, hml, hown, hts, hlocks⟩ := id C0
  have hin2 : ∀ w ∈ u_ws RX2 TX2 6, w ∈ wsX2_digest := by decide +kernel
  have hl : lv_has ls 5 [(0, .ref (za z 55))] := hl
  have hk1 := hk.1
  have hk2 := hk.2.1
  have L85 : ∀ (d i : Nat), i + d = mp_ M → ∀ (H : Heap) (locs : List Loc) (ls : Array Slot), GW z (MAt z) 55 59 s.heap ct (uh M 0) H locs → lv_has ls 5 [(3, .int (nI i)), (1, .long (mdigP (uh M 0) i (mdigT (uh M 0) (mt_ M) (qlong (mcount (uh M 0)) 9 1031)))), (0, .ref (za z 55))] → W p l e ({ frames := 4, cells := 0, slots := 0, locals := 87 } : Room) s m [.ref (za z 55)].toArray below meth c H locs 0 0 (EL z (MAt z) 55 59 ct s below [.ref (za z 55)] 0 0 (fun r M' => r = mdigP (uh M 0) (mp_ M) (mdigT (uh M 0) (mt_ M) (qlong (mcount (uh M 0)) 9 1031)) ∧ M' = uh M 0)) (F0 m 85 ls []) := by
    intro  d
    induction d with
    | zero =>
      intro i hdi H locs ls h hl
      have hEi : i = mp_ M := by omega
      refine lv_iload_n hx hb dX2_digest_85 rfl (lv_at hl 0 rfl) ?_
      refine lv_aload_n hx hb dX2_digest_86 rfl (lv_at hl 2 rfl) ?_
      refine M_g C0 hK h hin2 2 (by decide) (by decide +kernel) rfl dX2_digest_87 ?_
      refine lv_icmp_ge (tgt := 145) hx hb dX2_digest_90 (by decide) (fun _ => ?_) (fun q9 => absurd (nI_le (a := mp_ M) (by omega) (by omega)) q9)
      refine lv_lload_n hx hb dX2_digest_145 rfl (lv_at hl 1 rfl) ?_
      exact G_lret C0 hK h ⟨by rw [hEi], rfl⟩ (Nat.le_of_ble_eq_true rfl) (Nat.le_of_ble_eq_true rfl) dX2_digest_146
    | succ d ihL85 =>
      intro i hdi H locs ls h hl
      have hEi : i < mp_ M := by omega
      have L96 : ∀ (g j : Nat), j + g = 9 → ∀ (H : Heap) (locs : List Loc) (ls : Array Slot), GW z (MAt z) 55 59 s.heap ct (uh M 0) H locs → lv_has ls 5 [(4, .int (nI j)), (3, .int (nI i)), (1, .long (qlong (fun w => mtold (uh M 0) i w) j (mdigP (uh M 0) i (mdigT (uh M 0) (mt_ M) (qlong (mcount (uh M 0)) 9 1031))))), (0, .ref (za z 55))] → W p l e ({ frames := 4, cells := 0, slots := 0, locals := 87 } : Room) s m [.ref (za z 55)].toArray below meth c H locs 0 0 (EL z (MAt z) 55 59 ct s below [.ref (za z 55)] 0 0 (fun r M' => r = mdigP (uh M 0) (mp_ M) (mdigT (uh M 0) (mt_ M) (qlong (mcount (uh M 0)) 9 1031)) ∧ M' = uh M 0)) (F0 m 96 ls []) := by
        intro  g
        induction g with
        | zero =>
          intro j hdj H locs ls h hl
          have hEj : j = 9 := by omega
          refine lv_iload hx hb dX2_digest_96 (lv_at hl 0 rfl) ?_
          refine lv_bipush (v := 9) hx hb dX2_digest_98 (by decide) ?_
          refine lv_icmp_ge (tgt := 124) hx hb dX2_digest_100 (by decide) (fun _ => ?_) (fun q9 => absurd (nI_le (a := 9) (by omega) (by omega)) q9)
          refine lv_lload_n hx hb dX2_digest_124 rfl (lv_at hl 2 rfl) ?_
          refine lv_ldc2 hx hb hown (hts (.constantLong RX2 118 (31)) (by decide +kernel)) dX2_digest_125 ?_
          refine lv_lmul hx hb dX2_digest_128 ?_
          refine lv_aload_n hx hb dX2_digest_129 rfl (lv_at hl 3 rfl) ?_
          refine lv_iload_n hx hb dX2_digest_130 rfl (lv_at hl 1 rfl) ?_
          refine lv_bipush (v := 8) hx hb dX2_digest_131 (by decide) ?_
          refine S_callVi C0 hK h (c_X2_li l z (uh M 0) i (by omega) 8 (by omega)) (cwV 2 hts gX2_digest_X2_li rfl rfl rfl (by decide +kernel) ⟨Nat.le_of_ble_eq_true rfl, Nat.le_of_ble_eq_true rfl⟩) (k := 55) (ci := 2) (by omega) (fun ct hA => hA.1) rfl rfl rfl hl.1 (rest := [.long ((qlong (fun w => mtold (uh M 0) i w) j (mdigP (uh M 0) i (mdigT (uh M 0) (mt_ M) (qlong (mcount (uh M 0)) 9 1031)))) * 31)]) rfl (Nat.le_of_ble_eq_true rfl) ⟨Nat.le_of_ble_eq_true rfl, Nat.le_of_ble_eq_true rfl⟩ dX2_digest_133 (fun r u H locs hp h => ?_)
          obtain ⟨rfl, hu9⟩ := hp
          rw [hu9] at h
          refine lv_i2l hx hb dX2_digest_136 rfl ?_
          refine lv_ladd hx hb dX2_digest_137 ?_
          refine lv_lstore_n (lv' := [(1, .long (((qlong (fun w => mtold (uh M 0) i w) j (mdigP (uh M 0) i (mdigT (uh M 0) (mt_ M) (qlong (mcount (uh M 0)) 9 1031)))) * 31) + ((mB (uh M 0) (9 * i + 8)).toInt64))), (4, .int (nI j)), (3, .int (nI i)), (0, .ref (za z 55))]) hx hb dX2_digest_138 rfl hl (by decide) rfl (fun ls hl => ?_)
          refine lv_iinc (v := nI (i + 1)) (lv' := [(3, .int (nI (i + 1))), (1, .long (((qlong (fun w => mtold (uh M 0) i w) j (mdigP (uh M 0) i (mdigT (uh M 0) (mt_ M) (qlong (mcount (uh M 0)) 9 1031)))) * 31) + ((mB (uh M 0) (9 * i + 8)).toInt64))), (4, .int (nI j)), (0, .ref (za z 55))]) hx hb dX2_digest_139 hl (k := 2) rfl (q_inc i 1) (by decide) rfl (fun ls hl => ?_)
          refine lv_goto (tgt := 85) hx hb dX2_digest_142 (by decide) ?_
          have hl : lv_has ls 5 [(3, .int (nI (i + 1))), (1, .long (mdigP (uh M 0) (i + 1) (mdigT (uh M 0) (mt_ M) (qlong (mcount (uh M 0)) 9 1031)))), (4, .int (nI j)), (0, .ref (za z 55))] := by subst hEj; exact hl
          exact ihL85 (i + 1) (by omega) _ _ _ h (lv_sub hl [0, 1, 3] rfl)
        | succ g ihL96 =>
          intro j hdj H locs ls h hl
          have hEj : j < 9 := by omega
          refine lv_iload hx hb dX2_digest_96 (lv_at hl 0 rfl) ?_
          refine lv_bipush (v := 9) hx hb dX2_digest_98 (by decide) ?_
          refine lv_icmp_ge (tgt := 124) hx hb dX2_digest_100 (by decide) (fun q9 => absurd q9 (nI_ge (b := 9) (by omega) (by omega))) (fun _ => ?_)
          refine lv_lload_n hx hb dX2_digest_103 rfl (lv_at hl 2 rfl) ?_
          refine lv_ldc2 hx hb hown (hts (.constantLong RX2 118 (31)) (by decide +kernel)) dX2_digest_104 ?_
          refine lv_lmul hx hb dX2_digest_107 ?_
          refine lv_aload_n hx hb dX2_digest_108 rfl (lv_at hl 3 rfl) ?_
          refine lv_iload_n hx hb dX2_digest_109 rfl (lv_at hl 1 rfl) ?_
          refine lv_iload hx hb dX2_digest_110 (lv_at hl 0 rfl) ?_
          refine S_callVi C0 hK h (c_X2_pipeTold l z (uh M 0) hk i hEi j (by omega)) (cwV 2 hts gX2_digest_X2_pipeTold rfl rfl rfl (by decide +kernel) ⟨Nat.le_of_ble_eq_true rfl, Nat.le_of_ble_eq_true rfl⟩) (k := 55) (ci := 2) (by omega) (fun ct hA => hA.1) rfl rfl rfl hl.1 (rest := [.long ((qlong (fun w => mtold (uh M 0) i w) j (mdigP (uh M 0) i (mdigT (uh M 0) (mt_ M) (qlong (mcount (uh M 0)) 9 1031)))) * 31)]) rfl (Nat.le_of_ble_eq_true rfl) ⟨Nat.le_of_ble_eq_true rfl, Nat.le_of_ble_eq_true rfl⟩ dX2_digest_112 (fun r u H locs hp h => ?_)
          obtain ⟨rfl, hu9⟩ := hp
          rw [hu9] at h
          refine lv_i2l hx hb dX2_digest_115 rfl ?_
          refine lv_ladd hx hb dX2_digest_116 ?_
          refine lv_lstore_n (lv' := [(1, .long (((qlong (fun w => mtold (uh M 0) i w) j (mdigP (uh M 0) i (mdigT (uh M 0) (mt_ M) (qlong (mcount (uh M 0)) 9 1031)))) * 31) + ((mtold (uh M 0) i j).toInt64))), (4, .int (nI j)), (3, .int (nI i)), (0, .ref (za z 55))]) hx hb dX2_digest_117 rfl hl (by decide) rfl (fun ls hl => ?_)
          refine lv_iinc (v := nI (j + 1)) (lv' := [(4, .int (nI (j + 1))), (1, .long (((qlong (fun w => mtold (uh M 0) i w) j (mdigP (uh M 0) i (mdigT (uh M 0) (mt_ M) (qlong (mcount (uh M 0)) 9 1031)))) * 31) + ((mtold (uh M 0) i j).toInt64))), (3, .int (nI i)), (0, .ref (za z 55))]) hx hb dX2_digest_118 hl (k := 1) rfl (q_inc j 1) (by decide) rfl (fun ls hl => ?_)
          refine lv_goto (tgt := 96) hx hb dX2_digest_121 (by decide) ?_
          have hl : lv_has ls 5 [(4, .int (nI (j + 1))), (1, .long (qlong (fun w => mtold (uh M 0) i w) (j + 1) (mdigP (uh M 0) i (mdigT (uh M 0) (mt_ M) (qlong (mcount (uh M 0)) 9 1031))))), (3, .int (nI i)), (0, .ref (za z 55))] := hl
          exact ihL96 (j + 1) (by omega) _ _ _ h (lv_sub hl [0, 2, 1, 3] rfl)
      refine lv_iload_n hx hb dX2_digest_85 rfl (lv_at hl 0 rfl) ?_
      refine lv_aload_n hx hb dX2_digest_86 rfl (lv_at hl 2 rfl) ?_
      refine M_g C0 hK h hin2 2 (by decide) (by decide +kernel) rfl dX2_digest_87 ?_
      refine lv_icmp_ge (tgt := 145) hx hb dX2_digest_90 (by decide) (fun q9 => absurd q9 (nI_ge (b := mp_ M) (by omega) (by omega))) (fun _ => ?_)
      refine lv_iconst (v := 0) hx hb dX2_digest_93 (by decide) ?_
      refine lv_istore (lv' := [(4, .int 0), (3, .int (nI i)), (1, .long (mdigP (uh M 0) i (mdigT (uh M 0) (mt_ M) (qlong (mcount (uh M 0)) 9 1031)))), (0, .ref (za z 55))]) hx hb dX2_digest_94 hl (by decide) rfl (fun ls hl => ?_)
      exact L96 (9) 0 (by omega) _ _ _ h (lv_sub hl [0, 1, 2, 3] rfl)
  have L38 : ∀ (d i : Nat), i + d = mt_ M → ∀ (H : Heap) (locs : List Loc) (ls : Array Slot), GW z (MAt z) 55 59 s.heap ct (uh M 0) H locs → lv_has ls 5 [(3, .int (nI i)), (1, .long (mdigT (uh M 0) i (qlong (mcount (uh M 0)) 9 1031))), (0, .ref (za z 55))] → W p l e ({ frames := 4, cells := 0, slots := 0, locals := 87 } : Room) s m [.ref (za z 55)].toArray below meth c H locs 0 0 (EL z (MAt z) 55 59 ct s below [.ref (za z 55)] 0 0 (fun r M' => r = mdigP (uh M 0) (mp_ M) (mdigT (uh M 0) (mt_ M) (qlong (mcount (uh M 0)) 9 1031)) ∧ M' = uh M 0)) (F0 m 38 ls []) := by
    intro  d
    induction d with
    | zero =>
      intro i hdi H locs ls h hl
      have hEi : i = mt_ M := by omega
      refine lv_iload_n hx hb dX2_digest_38 rfl (lv_at hl 0 rfl) ?_
      refine lv_aload_n hx hb dX2_digest_39 rfl (lv_at hl 2 rfl) ?_
      refine M_g C0 hK h hin2 1 (by decide) (by decide +kernel) rfl dX2_digest_40 ?_
      refine lv_icmp_ge (tgt := 83) hx hb dX2_digest_43 (by decide) (fun _ => ?_) (fun q9 => absurd (nI_le (a := mt_ M) (by omega) (by omega)) q9)
      refine lv_iconst (v := 0) hx hb dX2_digest_83 (by decide) ?_
      refine lv_istore_n (lv' := [(3, .int 0), (1, .long (mdigT (uh M 0) i (qlong (mcount (uh M 0)) 9 1031))), (0, .ref (za z 55))]) hx hb dX2_digest_84 rfl hl (by decide) rfl (fun ls hl => ?_)
      have hl : lv_has ls 5 [(3, .int 0), (1, .long (mdigT (uh M 0) (mt_ M) (qlong (mcount (uh M 0)) 9 1031))), (0, .ref (za z 55))] := by subst hEi; exact hl
      exact L85 (mp_ M) 0 (by omega) _ _ _ h (lv_sub hl [0, 1, 2] rfl)
    | succ d ihL38 =>
      intro i hdi H locs ls h hl
      have hEi : i < mt_ M := by omega
      have L49 : ∀ (g j : Nat), j + g = 8 → ∀ (H : Heap) (locs : List Loc) (ls : Array Slot), GW z (MAt z) 55 59 s.heap ct (uh M 0) H locs → lv_has ls 5 [(4, .int (nI j)), (3, .int (nI i)), (1, .long (qlong (fun w => mA (uh M 0) (8 * i + w)) j (mdigT (uh M 0) i (qlong (mcount (uh M 0)) 9 1031)))), (0, .ref (za z 55))] → W p l e ({ frames := 4, cells := 0, slots := 0, locals := 87 } : Room) s m [.ref (za z 55)].toArray below meth c H locs 0 0 (EL z (MAt z) 55 59 ct s below [.ref (za z 55)] 0 0 (fun r M' => r = mdigP (uh M 0) (mp_ M) (mdigT (uh M 0) (mt_ M) (qlong (mcount (uh M 0)) 9 1031)) ∧ M' = uh M 0)) (F0 m 49 ls []) := by
        intro  g
        induction g with
        | zero =>
          intro j hdj H locs ls h hl
          have hEj : j = 8 := by omega
          refine lv_iload hx hb dX2_digest_49 (lv_at hl 0 rfl) ?_
          refine lv_bipush (v := 8) hx hb dX2_digest_51 (by decide) ?_
          refine lv_icmp_ge (tgt := 77) hx hb dX2_digest_53 (by decide) (fun _ => ?_) (fun q9 => absurd (nI_le (a := 8) (by omega) (by omega)) q9)
          refine lv_iinc (v := nI (i + 1)) (lv' := [(3, .int (nI (i + 1))), (4, .int (nI j)), (1, .long (qlong (fun w => mA (uh M 0) (8 * i + w)) j (mdigT (uh M 0) i (qlong (mcount (uh M 0)) 9 1031)))), (0, .ref (za z 55))]) hx hb dX2_digest_77 hl (k := 1) rfl (q_inc i 1) (by decide) rfl (fun ls hl => ?_)
          refine lv_goto (tgt := 38) hx hb dX2_digest_80 (by decide) ?_
          have hl : lv_has ls 5 [(3, .int (nI (i + 1))), (4, .int (nI j)), (1, .long (mdigT (uh M 0) (i + 1) (qlong (mcount (uh M 0)) 9 1031))), (0, .ref (za z 55))] := by subst hEj; exact hl
          exact ihL38 (i + 1) (by omega) _ _ _ h (lv_sub hl [0, 2, 3] rfl)
        | succ g ihL49 =>
          intro j hdj H locs ls h hl
          have hEj : j < 8 := by omega
          refine lv_iload hx hb dX2_digest_49 (lv_at hl 0 rfl) ?_
          refine lv_bipush (v := 8) hx hb dX2_digest_51 (by decide) ?_
          refine lv_icmp_ge (tgt := 77) hx hb dX2_digest_53 (by decide) (fun q9 => absurd q9 (nI_ge (b := 8) (by omega) (by omega))) (fun _ => ?_)
          refine lv_lload_n hx hb dX2_digest_56 rfl (lv_at hl 2 rfl) ?_
          refine lv_ldc2 hx hb hown (hts (.constantLong RX2 118 (31)) (by decide +kernel)) dX2_digest_57 ?_
          refine lv_lmul hx hb dX2_digest_60 ?_
          refine lv_aload_n hx hb dX2_digest_61 rfl (lv_at hl 3 rfl) ?_
          refine lv_iload_n hx hb dX2_digest_62 rfl (lv_at hl 1 rfl) ?_
          refine lv_iload hx hb dX2_digest_63 (lv_at hl 0 rfl) ?_
          refine S_callVi C0 hK h (c_X2_la l z (uh M 0) i (by omega) j (by omega)) (cwV 2 hts gX2_digest_X2_la rfl rfl rfl (by decide +kernel) ⟨Nat.le_of_ble_eq_true rfl, Nat.le_of_ble_eq_true rfl⟩) (k := 55) (ci := 2) (by omega) (fun ct hA => hA.1) rfl rfl rfl hl.1 (rest := [.long ((qlong (fun w => mA (uh M 0) (8 * i + w)) j (mdigT (uh M 0) i (qlong (mcount (uh M 0)) 9 1031))) * 31)]) rfl (Nat.le_of_ble_eq_true rfl) ⟨Nat.le_of_ble_eq_true rfl, Nat.le_of_ble_eq_true rfl⟩ dX2_digest_65 (fun r u H locs hp h => ?_)
          obtain ⟨rfl, hu9⟩ := hp
          rw [hu9] at h
          refine lv_i2l hx hb dX2_digest_68 rfl ?_
          refine lv_ladd hx hb dX2_digest_69 ?_
          refine lv_lstore_n (lv' := [(1, .long (((qlong (fun w => mA (uh M 0) (8 * i + w)) j (mdigT (uh M 0) i (qlong (mcount (uh M 0)) 9 1031))) * 31) + ((mA (uh M 0) (8 * i + j)).toInt64))), (4, .int (nI j)), (3, .int (nI i)), (0, .ref (za z 55))]) hx hb dX2_digest_70 rfl hl (by decide) rfl (fun ls hl => ?_)
          refine lv_iinc (v := nI (j + 1)) (lv' := [(4, .int (nI (j + 1))), (1, .long (((qlong (fun w => mA (uh M 0) (8 * i + w)) j (mdigT (uh M 0) i (qlong (mcount (uh M 0)) 9 1031))) * 31) + ((mA (uh M 0) (8 * i + j)).toInt64))), (3, .int (nI i)), (0, .ref (za z 55))]) hx hb dX2_digest_71 hl (k := 1) rfl (q_inc j 1) (by decide) rfl (fun ls hl => ?_)
          refine lv_goto (tgt := 49) hx hb dX2_digest_74 (by decide) ?_
          have hl : lv_has ls 5 [(4, .int (nI (j + 1))), (1, .long (qlong (fun w => mA (uh M 0) (8 * i + w)) (j + 1) (mdigT (uh M 0) i (qlong (mcount (uh M 0)) 9 1031)))), (3, .int (nI i)), (0, .ref (za z 55))] := hl
          exact ihL49 (j + 1) (by omega) _ _ _ h (lv_sub hl [0, 2, 1, 3] rfl)
      refine lv_iload_n hx hb dX2_digest_38 rfl (lv_at hl 0 rfl) ?_
      refine lv_aload_n hx hb dX2_digest_39 rfl (lv_at hl 2 rfl) ?_
      refine M_g C0 hK h hin2 1 (by decide) (by decide +kernel) rfl dX2_digest_40 ?_
      refine lv_icmp_ge (tgt := 83) hx hb dX2_digest_43 (by decide) (fun q9 => absurd q9 (nI_ge (b := mt_ M) (by omega) (by omega))) (fun _ => ?_)
      refine lv_iconst (v := 0) hx hb dX2_digest_46 (by decide) ?_
      refine lv_istore (lv' := [(4, .int 0), (3, .int (nI i)), (1, .long (mdigT (uh M 0) i (qlong (mcount (uh M 0)) 9 1031))), (0, .ref (za z 55))]) hx hb dX2_digest_47 hl (by decide) rfl (fun ls hl => ?_)
      exact L49 (8) 0 (by omega) _ _ _ h (lv_sub hl [0, 1, 2, 3] rfl)
  have L11 : ∀ (d i : Nat), i + d = 9 → ∀ (H : Heap) (locs : List Loc) (ls : Array Slot), GW z (MAt z) 55 59 s.heap ct (uh M 0) H locs → lv_has ls 5 [(3, .int (nI i)), (1, .long (qlong (mcount (uh M 0)) i 1031)), (0, .ref (za z 55))] → W p l e ({ frames := 4, cells := 0, slots := 0, locals := 87 } : Room) s m [.ref (za z 55)].toArray below meth c H locs 0 0 (EL z (MAt z) 55 59 ct s below [.ref (za z 55)] 0 0 (fun r M' => r = mdigP (uh M 0) (mp_ M) (mdigT (uh M 0) (mt_ M) (qlong (mcount (uh M 0)) 9 1031)) ∧ M' = uh M 0)) (F0 m 11 ls []) := by
    intro  d
    induction d with
    | zero =>
      intro i hdi H locs ls h hl
      have hEi : i = 9 := by omega
      refine lv_iload_n hx hb dX2_digest_11 rfl (lv_at hl 0 rfl) ?_
      refine lv_bipush (v := 9) hx hb dX2_digest_12 (by decide) ?_
      refine lv_icmp_ge (tgt := 36) hx hb dX2_digest_14 (by decide) (fun _ => ?_) (fun q9 => absurd (nI_le (a := 9) (by omega) (by omega)) q9)
      refine lv_iconst (v := 0) hx hb dX2_digest_36 (by decide) ?_
      refine lv_istore_n (lv' := [(3, .int 0), (1, .long (qlong (mcount (uh M 0)) i 1031)), (0, .ref (za z 55))]) hx hb dX2_digest_37 rfl hl (by decide) rfl (fun ls hl => ?_)
      have hl : lv_has ls 5 [(3, .int 0), (1, .long (qlong (mcount (uh M 0)) 9 1031)), (0, .ref (za z 55))] := by subst hEi; exact hl
      exact L38 (mt_ M) 0 (by omega) _ _ _ h (lv_sub hl [0, 1, 2] rfl)
    | succ d ihL11 =>
      intro i hdi H locs ls h hl
      have hEi : i < 9 := by omega
      refine lv_iload_n hx hb dX2_digest_11 rfl (lv_at hl 0 rfl) ?_
      refine lv_bipush (v := 9) hx hb dX2_digest_12 (by decide) ?_
      refine lv_icmp_ge (tgt := 36) hx hb dX2_digest_14 (by decide) (fun q9 => absurd q9 (nI_ge (b := 9) (by omega) (by omega))) (fun _ => ?_)
      refine lv_lload_n hx hb dX2_digest_17 rfl (lv_at hl 1 rfl) ?_
      refine lv_ldc2 hx hb hown (hts (.constantLong RX2 118 (31)) (by decide +kernel)) dX2_digest_18 ?_
      refine lv_lmul hx hb dX2_digest_21 ?_
      refine lv_aload_n hx hb dX2_digest_22 rfl (lv_at hl 2 rfl) ?_
      refine lv_iload_n hx hb dX2_digest_23 rfl (lv_at hl 0 rfl) ?_
      refine S_callVi C0 hK h (c_X2_counted l z (uh M 0) hk i (by omega)) (cwV 1 hts gX2_digest_X2_counted rfl rfl rfl (by decide +kernel) ⟨Nat.le_of_ble_eq_true rfl, Nat.le_of_ble_eq_true rfl⟩) (k := 55) (ci := 2) (by omega) (fun ct hA => hA.1) rfl rfl rfl hl.1 (rest := [.long ((qlong (mcount (uh M 0)) i 1031) * 31)]) rfl (Nat.le_of_ble_eq_true rfl) ⟨Nat.le_of_ble_eq_true rfl, Nat.le_of_ble_eq_true rfl⟩ dX2_digest_24 (fun r u H locs hp h => ?_)
      obtain ⟨rfl, hu9⟩ := hp
      rw [hu9] at h
      refine lv_i2l hx hb dX2_digest_27 rfl ?_
      refine lv_ladd hx hb dX2_digest_28 ?_
      refine lv_lstore_n (lv' := [(1, .long (((qlong (mcount (uh M 0)) i 1031) * 31) + ((mcount (uh M 0) i).toInt64))), (3, .int (nI i)), (0, .ref (za z 55))]) hx hb dX2_digest_29 rfl hl (by decide) rfl (fun ls hl => ?_)
      refine lv_iinc (v := nI (i + 1)) (lv' := [(3, .int (nI (i + 1))), (1, .long (((qlong (mcount (uh M 0)) i 1031) * 31) + ((mcount (uh M 0) i).toInt64))), (0, .ref (za z 55))]) hx hb dX2_digest_30 hl (k := 1) rfl (q_inc i 1) (by decide) rfl (fun ls hl => ?_)
      refine lv_goto (tgt := 11) hx hb dX2_digest_33 (by decide) ?_
      have hl : lv_has ls 5 [(3, .int (nI (i + 1))), (1, .long (qlong (mcount (uh M 0)) (i + 1) 1031)), (0, .ref (za z 55))] := hl
      exact ihL11 (i + 1) (by omega) _ _ _ h (lv_sub hl [0, 1, 2] rfl)
  refine lv_aload_n hx hb dX2_digest_0 rfl (lv_at hl 0 rfl) ?_
  refine lv_iconst (v := 0) hx hb dX2_digest_1 (by decide) ?_
  refine N_ph C0 hK h hin2 (by decide +kernel) dX2_digest_2 (fun H locs M1 eM1 h => ?_)
  subst eM1
  refine lv_ldc2 hx hb hown (hts (.constantLong RX2 116 (1031)) (by decide +kernel)) dX2_digest_5 ?_
  refine lv_lstore_n (lv' := [(1, .long 1031), (0, .ref (za z 55))]) hx hb dX2_digest_8 rfl hl (by decide) rfl (fun ls hl => ?_)
  refine lv_iconst (v := 0) hx hb dX2_digest_9 (by decide) ?_
  refine lv_istore_n (lv' := [(3, .int 0), (1, .long 1031), (0, .ref (za z 55))]) hx hb dX2_digest_10 rfl hl (by decide) rfl (fun ls hl => ?_)
  exact L11 (9) 0 (by omega) _ _ _ h (lv_sub hl [0, 1, 2] rfl)
set_option maxHeartbeats 4000000 in
set_option maxRecDepth 100000 in
theorem c_X2_mean (l : Launch) (z : QZ) (M : QMs) (hk : MOk M) : GD l yX2_mean wsX2_mean ({ frames := 2, cells := 0, slots := 0, locals := 45 } : Room) z [.ref (za z 55)] 0 0 (MAt z) 55 59 M (fun r M' => r = mmean (uh M 0) ∧ M' = uh M 0) := by
  intro ct sz hn hq hat
  refine q_entry (lo := 55) (cc := cX2_mean) (maxL := 1) (ret := (some .double)) (by decide) rfl (Nat.le_of_ble_eq_true rfl) hn hq hat ?_
  intro p e s m below meth c ls C0 hK hsz h hl
  subst hsz
  obtain ⟨hx, hb, hr, hml, hown, hts, hlocks⟩ := id C0
  have hin2 : ∀ w ∈ u_ws RX2 TX2 6, w ∈ wsX2_mean := by decide +kernel
  have hl : lv_has ls 1 [(0, .ref (za z 55))] := hl
  refine lv_aload_n hx hb dX2_mean_0 rfl (lv_at hl 0 rfl) ?_
  refine lv_iconst (v := 0) hx hb dX2_mean_1 (by decide) ?_
  refine N_ph C0 hK h hin2 (by decide +kernel) dX2_mean_2 (fun H locs M1 eM1 h => ?_)
  subst eM1
  refine lv_aload_n hx hb dX2_mean_5 rfl (lv_at hl 0 rfl) ?_
  refine M_g C0 hK h hin2 5 (by decide) (by decide +kernel) rfl dX2_mean_6 ?_
  refine lv_iconst (v := 0) hx hb dX2_mean_9 (by decide) ?_
  refine M_ldY C0 hK h (k := 0) rfl (by omega) dX2_mean_10 ?_
  refine lv_if_ne (tgt := 18) hx hb dX2_mean_11 (by decide) (fun c_11 => ?_) (fun c_11 => ?_)
  · refine lv_aload_n hx hb dX2_mean_18 rfl (lv_at hl 0 rfl) ?_
    refine lv_bipush (v := 6) hx hb dX2_mean_19 (by decide) ?_
    refine S_callVi C0 hK h (c_X2_all l z (uh M 0) hk 6 (by decide)) (cwV 1 hts gX2_mean_X2_all rfl rfl rfl (by decide +kernel) ⟨Nat.le_of_ble_eq_true rfl, Nat.le_of_ble_eq_true rfl⟩) (k := 55) (ci := 2) (by omega) (fun ct hA => hA.1) rfl rfl rfl hl.1 (rest := []) rfl (Nat.le_of_ble_eq_true rfl) ⟨Nat.le_of_ble_eq_true rfl, Nat.le_of_ble_eq_true rfl⟩ dX2_mean_21 (fun r u H locs hp h => ?_)
    obtain ⟨rfl, hu9⟩ := hp
    rw [hu9] at h
    refine lv_i2d hx hb dX2_mean_24 ?_
    refine lv_aload_n hx hb dX2_mean_25 rfl (lv_at hl 0 rfl) ?_
    refine M_g C0 hK h hin2 5 (by decide) (by decide +kernel) rfl dX2_mean_26 ?_
    refine lv_iconst (v := 0) hx hb dX2_mean_29 (by decide) ?_
    refine M_ldY C0 hK h (k := 0) rfl (by omega) dX2_mean_30 ?_
    refine lv_i2d hx hb dX2_mean_31 ?_
    refine lv_ddiv hx hb dX2_mean_32 (q_ddiv c_11) ?_
    exact G_dret C0 hK h ⟨by unfold mmean; rw [if_neg c_11], rfl⟩ (Nat.le_of_ble_eq_true rfl) (Nat.le_of_ble_eq_true rfl) dX2_mean_33
  · refine lv_dconst0 hx hb dX2_mean_14 ?_
    refine lv_goto (tgt := 33) hx hb dX2_mean_15 (by decide) ?_
    exact G_dret C0 hK h ⟨by unfold mmean; rw [if_pos c_11], rfl⟩ (Nat.le_of_ble_eq_true rfl) (Nat.le_of_ble_eq_true rfl) dX2_mean_33
