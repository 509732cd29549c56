set_option maxHeartbeats 4000000 in
set_option maxRecDepth 100000 in
theorem c_X2_sated_ok (l : Launch) (z : QZ) (M : QMs) (hk : MOk M) (t : Nat) (ht : t < mt_ M) : GI l yX2_sated wsX2_sated ({ frames := 5, cells := 4, slots := 210, locals := 113 } : Room) z [.ref (za z 55), .int (nI t)] 4 210 (MAt z) 55 59 M (fun r M' => r = msatF (uh M 0) t 100 0 ∧ M' = uh M 0) := by
  intro ct sz hn hq hat
  refine q_entry (lo := 55) (cc := cX2_sated) (maxL := 5) (ret := (some .int)) (by decide) rfl (Nat.le_of_ble_eq_true rfl) hn hq hat ?_
  intro p e s m below meth c ls C0 hK hsz h hl
  subst hsz
  obtain ⟨hx, hb, hr, hml, hown, hts, hlocks⟩ := id C0
  have hin2 : ∀ w ∈ u_ws RX2 TX2 6, w ∈ wsX2_sated := by decide +kernel
  have hl : lv_has ls 5 [(0, .ref (za z 55)), (1, .int (nI t))] := hl
  have hk1 := hk.1
  have hk2 := hk.2.1
  refine lv_aload_n hx hb dX2_sated_0 rfl (lv_at hl 0 rfl) ?_
  refine lv_iconst (v := 0) hx hb dX2_sated_1 (by decide) ?_
  refine N_ph C0 hK h hin2 (by decide +kernel) dX2_sated_2 (fun H locs M1 eM1 h => ?_)
  subst eM1
  refine lv_aload_n hx hb dX2_sated_5 rfl (lv_at hl 0 rfl) ?_
  refine lv_iload_n hx hb dX2_sated_6 rfl (lv_at hl 1 rfl) ?_
  refine S_callVi C0 hK h (c_X2_isTank l z (uh M 0) (nI t) hk) (cwV 1 hts gX2_sated_X2_isTank rfl rfl rfl (by decide +kernel) ⟨Nat.le_of_ble_eq_true rfl, Nat.le_of_ble_eq_true rfl⟩) (k := 55) (ci := 2) (by omega) (fun ct hA => hA.1) rfl rfl rfl hl.1 (rest := []) rfl (Nat.le_of_ble_eq_true rfl) ⟨Nat.le_of_ble_eq_true rfl, Nat.le_of_ble_eq_true rfl⟩ dX2_sated_7 (fun r u H locs hp h => ?_)
  obtain ⟨hr9, hu9⟩ := hp
  have hr9 := hr9.trans (if_pos (qin_nI (n := mt_ M) (by have := hk.1; have := hk.2.1; omega) ht))
  subst hr9
  rw [hu9] at h
  refine lv_if_ne (tgt := 19) hx hb dX2_sated_10 (by decide) (fun _ => ?_) (fun q9 => absurd q9 (by decide))
  refine lv_aload_n hx hb dX2_sated_19 rfl (lv_at hl 0 rfl) ?_
  refine G_kept C0 hK h (cwV 0 hts gX2_sated_X2_kept rfl rfl rfl (by decide +kernel) ⟨Nat.le_of_ble_eq_true rfl, Nat.le_of_ble_eq_true rfl⟩) hl.1 (rest := []) rfl (Nat.le_of_ble_eq_true rfl) ⟨Nat.le_of_ble_eq_true rfl, Nat.le_of_ble_eq_true rfl⟩ dX2_sated_20 (fun zk c1 H locs hKk hz4 hag h back => ?_)
  have hag5 := hag 55 (by omega)
  have hl : lv_has ls 5 [(0, .ref (za zk 55)), (1, .int (nI t))] := by rw [hag5]; exact hl
  refine lv_astore_n (lv' := [(2, .ref (za zk (zn z))), (0, .ref (za zk 55)), (1, .int (nI t))]) hx hb dX2_sated_23 rfl hl (by decide) rfl (fun ls hl => ?_)
  refine lv_iconst (v := (-1)) hx hb dX2_sated_24 (by decide) ?_
  refine lv_istore_n (lv' := [(3, .int ((-1))), (2, .ref (za zk (zn z))), (0, .ref (za zk 55)), (1, .int (nI t))]) hx hb dX2_sated_25 rfl hl (by decide) rfl (fun ls hl => ?_)
  refine lv_iconst (v := 1) hx hb dX2_sated_26 (by decide) ?_
  refine lv_istore (lv' := [(4, .int 1), (3, .int ((-1))), (2, .ref (za zk (zn z))), (0, .ref (za zk 55)), (1, .int (nI t))]) hx hb dX2_sated_27 hl (by decide) rfl (fun ls hl => ?_)
  have L29 : ∀ (d i : Nat), i + d = 100 → msatF (uh M 0) t 100 0 = msatF (uh M 0) t d i → ∀ (H : Heap) (locs : List Loc) (ls : Array Slot), GW zk (BAt zk (zn z) (mA (uh M 0)) (mB (uh M 0)) (mY (uh M 0))) 55 59 s.heap c1 (itN mdayF i (uh M 0)) H locs → lv_has ls 5 [(4, .int (nI (i + 1))), (3, .int ((-1))), (0, .ref (za zk 55)), (2, .ref (za zk (zn z))), (1, .int (nI t))] → W p l e ({ frames := 5, cells := 4, slots := 210, locals := 113 } : Room) s m [.ref (za z 55), .int (nI t)].toArray below meth c H locs 4 210 (EI z (MAt z) 55 59 ct s below [.ref (za z 55), .int (nI t)] 4 210 (fun r M' => r = msatF (uh M 0) t 100 0 ∧ M' = uh M 0)) (F0 m 29 ls []) := by
    intro  d
    induction d with
    | zero =>
      intro i hdi hq8 H locs ls h hl
      have hEi : i = 100 := by omega
      obtain ⟨S2, eS2⟩ : ∃ z9, z9 = itN mdayF i (uh M 0) := ⟨_, rfl⟩
      rw [← eS2] at h
      have hs9 : MShp (uh M 0) S2 := by rw [eS2]; exact mshp_days _ _
      have hk9 : MOk S2 := hs9.ok hk
      refine lv_iload hx hb dX2_sated_29 (lv_at hl 0 rfl) ?_
      refine lv_bipush (v := 100) hx hb dX2_sated_31 (by decide) ?_
      refine lv_icmp_gt (tgt := 69) hx hb dX2_sated_33 (by decide) (fun _ => ?_) (fun q9 => absurd (show nI 100 < nI (i + 1) from nI_lt (by omega) (by omega)) q9)
      refine lv_aload_n hx hb dX2_sated_69 rfl (lv_at hl 2 rfl) ?_
      refine lv_aload_n hx hb dX2_sated_70 rfl (lv_at hl 3 rfl) ?_
      refine S_callVv C0 hKk h (c_X2_bringBack l zk S2 (zn z) (mA (uh M 0)) (mB (uh M 0)) (mY (uh M 0)) (by omega) (by omega)) (cwV 1 hts gX2_sated_X2_bringBack rfl rfl rfl (by decide +kernel) ⟨Nat.le_of_ble_eq_true rfl, Nat.le_of_ble_eq_true rfl⟩) (k := 55) (ci := 2) (by omega) (fun ct hA => hA.1.1) rfl rfl rfl hl.1 (rest := []) rfl (Nat.le_of_ble_eq_true rfl) ⟨Nat.le_of_ble_eq_true rfl, Nat.le_of_ble_eq_true rfl⟩ dX2_sated_71 (fun u H locs hp h => ?_)
      rw [hp, bb_eq hs9] at h
      refine lv_iload_n hx hb dX2_sated_74 rfl (lv_at hl 1 rfl) ?_
      have h := back _ _ _ h
      exact G_iret C0 hK h ⟨by rw [hq8]; rfl, rfl⟩ (Nat.le_of_ble_eq_true rfl) (Nat.le_of_ble_eq_true rfl) dX2_sated_75
    | succ d ihL29 =>
      intro i hdi hq8 H locs ls h hl
      have hEi : i < 100 := by omega
      obtain ⟨S3, eS3⟩ : ∃ z9, z9 = itN mdayF i (uh M 0) := ⟨_, rfl⟩
      rw [← eS3] at h
      have hs9 : MShp (uh M 0) S3 := by rw [eS3]; exact mshp_days _ _
      have hk9 : MOk S3 := hs9.ok hk
      refine lv_iload hx hb dX2_sated_29 (lv_at hl 0 rfl) ?_
      refine lv_bipush (v := 100) hx hb dX2_sated_31 (by decide) ?_
      refine lv_icmp_gt (tgt := 69) hx hb dX2_sated_33 (by decide) (fun q9 => absurd q9 (show ¬ nI 100 < nI (i + 1) from nI_nlt (by omega) (by omega))) (fun _ => ?_)
      refine lv_iload_n hx hb dX2_sated_36 rfl (lv_at hl 1 rfl) ?_
      refine lv_iconst (v := (-1)) hx hb dX2_sated_37 (by decide) ?_
      refine lv_icmp_ne (tgt := 69) hx hb dX2_sated_38 (by decide) (fun q9 => absurd (by decide) q9) (fun _ => ?_)
      refine lv_aload_n hx hb dX2_sated_41 rfl (lv_at hl 2 rfl) ?_
      refine B_callv C0 hKk (by omega) h (c_X2_dayOn l zk S3 hk9) (cwV 0 hts gX2_sated_X2_dayOn rfl rfl rfl (by decide +kernel) ⟨Nat.le_of_ble_eq_true rfl, Nat.le_of_ble_eq_true rfl⟩) rfl hl.1 (rest := []) rfl (Nat.le_of_ble_eq_true rfl) ⟨Nat.le_of_ble_eq_true rfl, Nat.le_of_ble_eq_true rfl⟩ dX2_sated_42 (fun u H locs hp h => ?_)
      obtain ⟨M4, eM4⟩ : ∃ z9, z9 = mday S3 := ⟨_, rfl⟩
      rw [hp, ← eM4] at h
      refine lv_aload_n hx hb dX2_sated_45 rfl (lv_at hl 2 rfl) ?_
      refine lv_iload_n hx hb dX2_sated_46 rfl (lv_at hl 4 rfl) ?_
      refine lv_iconst (v := 5) hx hb dX2_sated_47 (by decide) ?_
      refine B_calli C0 hKk (by omega) h (c_X2_la l zk M4 t (by omega) 5 (by omega)) (cwV 2 hts gX2_sated_X2_la rfl rfl rfl (by decide +kernel) ⟨Nat.le_of_ble_eq_true rfl, Nat.le_of_ble_eq_true rfl⟩) rfl hl.1 (rest := []) rfl (Nat.le_of_ble_eq_true rfl) ⟨Nat.le_of_ble_eq_true rfl, Nat.le_of_ble_eq_true rfl⟩ dX2_sated_48 (fun r u H locs hp h => ?_)
      obtain ⟨rfl, hu9⟩ := hp
      rw [hu9] at h
      refine lv_aload_n hx hb dX2_sated_51 rfl (lv_at hl 2 rfl) ?_
      refine lv_iload_n hx hb dX2_sated_52 rfl (lv_at hl 4 rfl) ?_
      refine lv_iconst (v := 2) hx hb dX2_sated_53 (by decide) ?_
      refine B_calli C0 hKk (by omega) h (c_X2_la l zk M4 t (by omega) 2 (by omega)) (cwV 2 hts gX2_sated_X2_la rfl rfl rfl (by decide +kernel) ⟨Nat.le_of_ble_eq_true rfl, Nat.le_of_ble_eq_true rfl⟩) rfl hl.1 (rest := [.int (mA M4 (8 * t + 5))]) rfl (Nat.le_of_ble_eq_true rfl) ⟨Nat.le_of_ble_eq_true rfl, Nat.le_of_ble_eq_true rfl⟩ dX2_sated_54 (fun r u H locs hp h => ?_)
      obtain ⟨rfl, hu9⟩ := hp
      rw [hu9] at h
      refine lv_icmp_ne (tgt := 63) hx hb dX2_sated_57 (by decide) (fun c_57 => ?_) (fun c_57 => ?_)
      · refine lv_iinc (v := nI (i + 1 + 1)) (lv' := [(4, .int (nI (i + 1 + 1))), (3, .int ((-1))), (0, .ref (za zk 55)), (2, .ref (za zk (zn z))), (1, .int (nI t))]) hx hb dX2_sated_63 hl (k := 0) rfl (q_inc (i + 1) 1) (by decide) rfl (fun ls hl => ?_)
        refine lv_goto (tgt := 29) hx hb dX2_sated_66 (by decide) ?_
        exact ihL29 (i + 1) (by omega) (by subst eS3 eM4; exact hq8.trans (msat_n c_57)) _ _ _ (by subst eM4; rw [eS3] at h; exact h) (lv_sub hl [0, 1, 2, 3, 4] rfl)
      · refine lv_iload hx hb dX2_sated_60 (lv_at hl 0 rfl) ?_
        refine lv_istore_n (lv' := [(3, .int (nI (i + 1))), (4, .int (nI (i + 1))), (0, .ref (za zk 55)), (2, .ref (za zk (zn z))), (1, .int (nI t))]) hx hb dX2_sated_62 rfl hl (by decide) rfl (fun ls hl => ?_)
        refine lv_iinc (v := nI (i + 1 + 1)) (lv' := [(4, .int (nI (i + 1 + 1))), (3, .int (nI (i + 1))), (0, .ref (za zk 55)), (2, .ref (za zk (zn z))), (1, .int (nI t))]) hx hb dX2_sated_63 hl (k := 1) rfl (q_inc (i + 1) 1) (by decide) rfl (fun ls hl => ?_)
        refine lv_goto (tgt := 29) hx hb dX2_sated_66 (by decide) ?_
        refine lv_iload hx hb dX2_sated_29 (lv_at hl 0 rfl) ?_
        refine lv_bipush (v := 100) hx hb dX2_sated_31 (by decide) ?_
        refine lv_icmp_gt (tgt := 69) hx hb dX2_sated_33 (by decide) (fun c_33 => ?_) (fun c_33 => ?_)
        · refine lv_aload_n hx hb dX2_sated_69 rfl (lv_at hl 2 rfl) ?_
          refine lv_aload_n hx hb dX2_sated_70 rfl (lv_at hl 3 rfl) ?_
          refine S_callVv C0 hKk h (c_X2_bringBack l zk M4 (zn z) (mA (uh M 0)) (mB (uh M 0)) (mY (uh M 0)) (by omega) (by omega)) (cwV 1 hts gX2_sated_X2_bringBack rfl rfl rfl (by decide +kernel) ⟨Nat.le_of_ble_eq_true rfl, Nat.le_of_ble_eq_true rfl⟩) (k := 55) (ci := 2) (by omega) (fun ct hA => hA.1.1) rfl rfl rfl hl.1 (rest := []) rfl (Nat.le_of_ble_eq_true rfl) ⟨Nat.le_of_ble_eq_true rfl, Nat.le_of_ble_eq_true rfl⟩ dX2_sated_71 (fun u H locs hp h => ?_)
          rw [hp, bb_eq (by subst eM4; exact hs9.trans (mshp_day _))] at h
          refine lv_iload_n hx hb dX2_sated_74 rfl (lv_at hl 1 rfl) ?_
          have h := back _ _ _ h
          exact G_iret C0 hK h ⟨by subst eS3 eM4; rw [hq8]; exact (msat_p c_57).symm, rfl⟩ (Nat.le_of_ble_eq_true rfl) (Nat.le_of_ble_eq_true rfl) dX2_sated_75
        · refine lv_iload_n hx hb dX2_sated_36 rfl (lv_at hl 1 rfl) ?_
          refine lv_iconst (v := (-1)) hx hb dX2_sated_37 (by decide) ?_
          refine lv_icmp_ne (tgt := 69) hx hb dX2_sated_38 (by decide) (fun _ => ?_) (fun q9 => absurd q9 (q_nm1 (k := i + 1) (by omega)))
          refine lv_aload_n hx hb dX2_sated_69 rfl (lv_at hl 2 rfl) ?_
          refine lv_aload_n hx hb dX2_sated_70 rfl (lv_at hl 3 rfl) ?_
          refine S_callVv C0 hKk h (c_X2_bringBack l zk M4 (zn z) (mA (uh M 0)) (mB (uh M 0)) (mY (uh M 0)) (by omega) (by omega)) (cwV 1 hts gX2_sated_X2_bringBack rfl rfl rfl (by decide +kernel) ⟨Nat.le_of_ble_eq_true rfl, Nat.le_of_ble_eq_true rfl⟩) (k := 55) (ci := 2) (by omega) (fun ct hA => hA.1.1) rfl rfl rfl hl.1 (rest := []) rfl (Nat.le_of_ble_eq_true rfl) ⟨Nat.le_of_ble_eq_true rfl, Nat.le_of_ble_eq_true rfl⟩ dX2_sated_71 (fun u H locs hp h => ?_)
          rw [hp, bb_eq (by subst eM4; exact hs9.trans (mshp_day _))] at h
          refine lv_iload_n hx hb dX2_sated_74 rfl (lv_at hl 1 rfl) ?_
          have h := back _ _ _ h
          exact G_iret C0 hK h ⟨by subst eS3 eM4; rw [hq8]; exact (msat_p c_57).symm, rfl⟩ (Nat.le_of_ble_eq_true rfl) (Nat.le_of_ble_eq_true rfl) dX2_sated_75
  exact L29 (100) 0 (by omega) rfl _ _ _ h (lv_sub hl [0, 1, 3, 2, 4] rfl)
set_option maxHeartbeats 4000000 in
set_option maxRecDepth 100000 in
theorem c_X2_sated_no (l : Launch) (z : QZ) (M : QMs) (hk : MOk M) (x : Int32) (hno : ¬ qin x (mt_ M)) : GI l yX2_sated wsX2_sated ({ frames := 2, cells := 4, slots := 210, locals := 43 } : Room) z [.ref (za z 55), .int x] 4 210 (MAt z) 55 59 M (fun r M' => r = 0 ∧ M' = uh M 1) := by
  intro ct sz hn hq hat
  refine q_entry (lo := 55) (cc := cX2_sated) (maxL := 5) (ret := (some .int)) (by decide) rfl (Nat.le_of_ble_eq_true rfl) hn hq hat ?_
  intro p e s m below meth c ls C0 hK hsz h hl
  subst hsz
  obtain ⟨hx, hb, hr, hml, hown, hts, hlocks⟩ := id C0
  have hin2 : ∀ w ∈ u_ws RX2 TX2 6, w ∈ wsX2_sated := by decide +kernel
  have hl : lv_has ls 5 [(0, .ref (za z 55)), (1, .int x)] := hl
  refine lv_aload_n hx hb dX2_sated_0 rfl (lv_at hl 0 rfl) ?_
  refine lv_iconst (v := 0) hx hb dX2_sated_1 (by decide) ?_
  refine N_ph C0 hK h hin2 (by decide +kernel) dX2_sated_2 (fun H locs M1 eM1 h => ?_)
  subst eM1
  refine lv_aload_n hx hb dX2_sated_5 rfl (lv_at hl 0 rfl) ?_
  refine lv_iload_n hx hb dX2_sated_6 rfl (lv_at hl 1 rfl) ?_
  refine S_callVi C0 hK h (c_X2_isTank l z (uh M 0) x hk) (cwV 1 hts gX2_sated_X2_isTank rfl rfl rfl (by decide +kernel) ⟨Nat.le_of_ble_eq_true rfl, Nat.le_of_ble_eq_true rfl⟩) (k := 55) (ci := 2) (by omega) (fun ct hA => hA.1) rfl rfl rfl hl.1 (rest := []) rfl (Nat.le_of_ble_eq_true rfl) ⟨Nat.le_of_ble_eq_true rfl, Nat.le_of_ble_eq_true rfl⟩ dX2_sated_7 (fun r u H locs hp h => ?_)
  obtain ⟨hr9, hu9⟩ := hp
  have hr9 := hr9.trans (if_neg hno)
  subst hr9
  rw [hu9] at h
  refine lv_if_ne (tgt := 19) hx hb dX2_sated_10 (by decide) (fun q9 => absurd (by decide) q9) (fun _ => ?_)
  refine lv_aload_n hx hb dX2_sated_13 rfl (lv_at hl 0 rfl) ?_
  refine lv_iconst (v := 1) hx hb dX2_sated_14 (by decide) ?_
  refine S_callVi C0 hK h (c_X2_fail l z (uh M 0) 1) (cwV 1 hts gX2_sated_X2_fail rfl rfl rfl (by decide +kernel) ⟨Nat.le_of_ble_eq_true rfl, Nat.le_of_ble_eq_true rfl⟩) (k := 55) (ci := 2) (by omega) (fun ct hA => hA.1) rfl rfl rfl hl.1 (rest := []) rfl (Nat.le_of_ble_eq_true rfl) ⟨Nat.le_of_ble_eq_true rfl, Nat.le_of_ble_eq_true rfl⟩ dX2_sated_15 (fun r u H locs hp h => ?_)
  obtain ⟨rfl, hp⟩ := hp
  obtain ⟨M2, eM2⟩ : ∃ z9, z9 = uh (uh M 0) 1 := ⟨_, rfl⟩
  rw [hp, ← eM2] at h
  exact G_iret C0 hK h ⟨rfl, by subst eM2; rfl⟩ (Nat.le_of_ble_eq_true rfl) (Nat.le_of_ble_eq_true rfl) dX2_sated_18
