set_option maxHeartbeats 4000000 in
set_option maxRecDepth 100000 in
theorem c_X2_foresee_ok (l : Launch) (z : QZ) (M : QMs) (hk : MOk M) (n : Nat) (h1 : 1 ≤ n) (h2 : n ≤ 100) (k : Nat) (hk9 : k ≤ 3) : GI l yX2_foresee wsX2_foresee ({ frames := 6, cells := 4, slots := 210, locals := 135 } : Room) z [.ref (za z 55), .int (nI n), .int (nI k)] 4 210 (MAt z) 55 59 M (fun r M' => r = mfore (uh M 0) n k ∧ M' = uh M 0) := by
  intro ct sz hn hq hat
  refine q_entry (lo := 55) (cc := cX2_foresee) (maxL := 7) (ret := (some .int)) (by decide) rfl (Nat.le_of_ble_eq_true rfl) hn hq hat ?_
  intro p e s m below meth c ls C0 hK hsz h hl
  subst hsz
  obtain ⟨hx, hb, hr, hml, hown, hts, hlocks⟩ := id C0
  have hin2 : ∀ w ∈ u_ws RX2 TX2 6, w ∈ wsX2_foresee := by decide +kernel
  have hl : lv_has ls 7 [(0, .ref (za z 55)), (1, .int (nI n)), (2, .int (nI k))] := hl
  refine lv_aload_n hx hb dX2_foresee_0 rfl (lv_at hl 0 rfl) ?_
  refine lv_iconst (v := 0) hx hb dX2_foresee_1 (by decide) ?_
  refine N_ph C0 hK h hin2 (by decide +kernel) dX2_foresee_2 (fun H locs M1 eM1 h => ?_)
  subst eM1
  refine lv_iload_n hx hb dX2_foresee_5 rfl (lv_at hl 1 rfl) ?_
  refine lv_iconst (v := 1) hx hb dX2_foresee_6 (by decide) ?_
  refine lv_bipush (v := 100) hx hb dX2_foresee_7 (by decide) ?_
  refine S_callSi C0 hK h (c_X2_isIn l z (uh M 0) (nI n) 1 100) (va_cwS 3 hts gX2_foresee_X2_isIn rfl rfl rfl (by decide +kernel) ⟨Nat.le_of_ble_eq_true rfl, Nat.le_of_ble_eq_true rfl⟩) rfl hl.1 (rest := []) rfl (Nat.le_of_ble_eq_true rfl) ⟨Nat.le_of_ble_eq_true rfl, Nat.le_of_ble_eq_true rfl⟩ dX2_foresee_9 (fun r u H locs hp h => ?_)
  obtain ⟨hr9, hu9⟩ := hp
  have hr9 := hr9.trans (if_pos (q_rng (k := n) 1 100 rfl rfl))
  subst hr9
  rw [hu9] at h
  refine lv_if_ne (tgt := 21) hx hb dX2_foresee_12 (by decide) (fun _ => ?_) (fun q9 => absurd q9 (by decide))
  refine lv_iload_n hx hb dX2_foresee_21 rfl (lv_at hl 2 rfl) ?_
  refine lv_iconst (v := 0) hx hb dX2_foresee_22 (by decide) ?_
  refine lv_iconst (v := 3) hx hb dX2_foresee_23 (by decide) ?_
  refine S_callSi C0 hK h (c_X2_isIn l z (uh M 0) (nI k) 0 3) (va_cwS 3 hts gX2_foresee_X2_isIn rfl rfl rfl (by decide +kernel) ⟨Nat.le_of_ble_eq_true rfl, Nat.le_of_ble_eq_true rfl⟩) rfl hl.1 (rest := []) rfl (Nat.le_of_ble_eq_true rfl) ⟨Nat.le_of_ble_eq_true rfl, Nat.le_of_ble_eq_true rfl⟩ dX2_foresee_24 (fun r u H locs hp h => ?_)
  obtain ⟨hr9, hu9⟩ := hp
  have hr9 := hr9.trans (if_pos (q_rng (k := k) 0 3 rfl rfl))
  subst hr9
  rw [hu9] at h
  refine lv_if_ne (tgt := 36) hx hb dX2_foresee_27 (by decide) (fun _ => ?_) (fun q9 => absurd q9 (by decide))
  refine lv_aload_n hx hb dX2_foresee_36 rfl (lv_at hl 0 rfl) ?_
  refine G_kept C0 hK h (cwV 0 hts gX2_foresee_X2_kept rfl rfl rfl (by decide +kernel) ⟨Nat.le_of_ble_eq_true rfl, Nat.le_of_ble_eq_true rfl⟩) hl.1 (rest := []) rfl (Nat.le_of_ble_eq_true rfl) ⟨Nat.le_of_ble_eq_true rfl, Nat.le_of_ble_eq_true rfl⟩ dX2_foresee_37 (fun zk c1 H locs hKk hz4 hag h back => ?_)
  have hag5 := hag 55 (by omega)
  have hl : lv_has ls 7 [(0, .ref (za zk 55)), (1, .int (nI n)), (2, .int (nI k))] := by rw [hag5]; exact hl
  refine lv_astore_n (lv' := [(3, .ref (za zk (zn z))), (0, .ref (za zk 55)), (1, .int (nI n)), (2, .int (nI k))]) hx hb dX2_foresee_40 rfl hl (by decide) rfl (fun ls hl => ?_)
  refine lv_aload_n hx hb dX2_foresee_41 rfl (lv_at hl 1 rfl) ?_
  refine lv_bipush (v := 6) hx hb dX2_foresee_42 (by decide) ?_
  refine B_calli C0 hKk (by omega) h (c_X2_all l zk (uh M 0) hk 6 (by decide)) (cwV 1 hts gX2_foresee_X2_all rfl rfl rfl (by decide +kernel) ⟨Nat.le_of_ble_eq_true rfl, Nat.le_of_ble_eq_true rfl⟩) rfl hl.1 (rest := []) rfl (Nat.le_of_ble_eq_true rfl) ⟨Nat.le_of_ble_eq_true rfl, Nat.le_of_ble_eq_true rfl⟩ dX2_foresee_44 (fun r u H locs hp h => ?_)
  obtain ⟨rfl, hu9⟩ := hp
  rw [hu9] at h
  refine lv_istore (lv' := [(4, .int (mall (uh M 0) 6)), (3, .ref (za zk (zn z))), (0, .ref (za zk 55)), (1, .int (nI n)), (2, .int (nI k))]) hx hb dX2_foresee_47 hl (by decide) rfl (fun ls hl => ?_)
  refine lv_aload_n hx hb dX2_foresee_49 rfl (lv_at hl 2 rfl) ?_
  refine lv_bipush (v := 7) hx hb dX2_foresee_50 (by decide) ?_
  refine B_calli C0 hKk (by omega) h (c_X2_allPipes l zk (uh M 0) hk 7 (by decide)) (cwV 1 hts gX2_foresee_X2_allPipes rfl rfl rfl (by decide +kernel) ⟨Nat.le_of_ble_eq_true rfl, Nat.le_of_ble_eq_true rfl⟩) rfl hl.1 (rest := []) rfl (Nat.le_of_ble_eq_true rfl) ⟨Nat.le_of_ble_eq_true rfl, Nat.le_of_ble_eq_true rfl⟩ dX2_foresee_52 (fun r u H locs hp h => ?_)
  obtain ⟨rfl, hu9⟩ := hp
  rw [hu9] at h
  refine lv_istore (lv' := [(5, .int (mallP (uh M 0) 7)), (4, .int (mall (uh M 0) 6)), (3, .ref (za zk (zn z))), (0, .ref (za zk 55)), (1, .int (nI n)), (2, .int (nI k))]) hx hb dX2_foresee_55 hl (by decide) rfl (fun ls hl => ?_)
  refine lv_aload_n hx hb dX2_foresee_57 rfl (lv_at hl 3 rfl) ?_
  refine lv_iload_n hx hb dX2_foresee_58 rfl (lv_at hl 4 rfl) ?_
  refine B_callv C0 hKk (by omega) h (c_X2_daysOn l zk (uh M 0) hk n (by omega)) (cwV 1 hts gX2_foresee_X2_daysOn rfl rfl rfl (by decide +kernel) ⟨Nat.le_of_ble_eq_true rfl, Nat.le_of_ble_eq_true rfl⟩) rfl hl.1 (rest := []) rfl (Nat.le_of_ble_eq_true rfl) ⟨Nat.le_of_ble_eq_true rfl, Nat.le_of_ble_eq_true rfl⟩ dX2_foresee_59 (fun u H locs hp h => ?_)
  obtain ⟨M2, eM2⟩ : ∃ z9, z9 = itN mdayF n (uh M 0) := ⟨_, rfl⟩
  rw [hp, ← eM2] at h
  refine lv_iload_n hx hb dX2_foresee_62 rfl (lv_at hl 5 rfl) ?_
  refine lv_if_ne (tgt := 78) hx hb dX2_foresee_63 (by decide) (fun c_63 => ?_) (fun c_63 => ?_)
  · refine lv_iload_n hx hb dX2_foresee_78 rfl (lv_at hl 5 rfl) ?_
    refine lv_iconst (v := 1) hx hb dX2_foresee_79 (by decide) ?_
    refine lv_icmp_ne (tgt := 95) hx hb dX2_foresee_80 (by decide) (fun c_80 => ?_) (fun c_80 => ?_)
    · refine lv_iload_n hx hb dX2_foresee_95 rfl (lv_at hl 5 rfl) ?_
      refine lv_iconst (v := 2) hx hb dX2_foresee_96 (by decide) ?_
      refine lv_icmp_ne (tgt := 108) hx hb dX2_foresee_97 (by decide) (fun c_97 => ?_) (fun c_97 => ?_)
      · refine lv_aload_n hx hb dX2_foresee_108 rfl (lv_at hl 3 rfl) ?_
        refine lv_iconst (v := 4) hx hb dX2_foresee_109 (by decide) ?_
        refine B_calli C0 hKk (by omega) h (c_X2_allPipes l zk M2 (by subst eM2; exact (mshp_days _ _).ok hk) 4 (by decide)) (cwV 1 hts gX2_foresee_X2_allPipes rfl rfl rfl (by decide +kernel) ⟨Nat.le_of_ble_eq_true rfl, Nat.le_of_ble_eq_true rfl⟩) rfl hl.1 (rest := []) rfl (Nat.le_of_ble_eq_true rfl) ⟨Nat.le_of_ble_eq_true rfl, Nat.le_of_ble_eq_true rfl⟩ dX2_foresee_110 (fun r u H locs hp h => ?_)
        obtain ⟨rfl, hu9⟩ := hp
        rw [hu9] at h
        refine lv_istore (lv' := [(6, .int (mallP M2 4)), (5, .int (mallP (uh M 0) 7)), (4, .int (mall (uh M 0) 6)), (3, .ref (za zk (zn z))), (0, .ref (za zk 55)), (1, .int (nI n)), (2, .int (nI k))]) hx hb dX2_foresee_113 hl (by decide) rfl (fun ls hl => ?_)
        refine lv_aload_n hx hb dX2_foresee_115 rfl (lv_at hl 4 rfl) ?_
        refine lv_aload_n hx hb dX2_foresee_116 rfl (lv_at hl 3 rfl) ?_
        refine S_callVv C0 hKk h (c_X2_bringBack l zk M2 (zn z) (mA (uh M 0)) (mB (uh M 0)) (mY (uh M 0)) (by omega) (by omega)) (cwV 1 hts gX2_foresee_X2_bringBack rfl rfl rfl (by decide +kernel) ⟨Nat.le_of_ble_eq_true rfl, Nat.le_of_ble_eq_true rfl⟩) (k := 55) (ci := 2) (by omega) (fun ct hA => hA.1.1) rfl rfl rfl hl.1 (rest := []) rfl (Nat.le_of_ble_eq_true rfl) ⟨Nat.le_of_ble_eq_true rfl, Nat.le_of_ble_eq_true rfl⟩ dX2_foresee_117 (fun u H locs hp h => ?_)
        rw [hp, bb_eq (by subst eM2; exact mshp_days _ _)] at h
        refine lv_iload hx hb dX2_foresee_120 (lv_at hl 0 rfl) ?_
        have h := back _ _ _ h
        exact G_iret C0 hK h ⟨by subst eM2; unfold mfore; rw [if_neg (q_nI0n c_63), if_neg (q_nIcn 1 c_80), if_neg (q_nIcn 2 c_97)], rfl⟩ (Nat.le_of_ble_eq_true rfl) (Nat.le_of_ble_eq_true rfl) dX2_foresee_122
      · refine lv_aload_n hx hb dX2_foresee_100 rfl (lv_at hl 3 rfl) ?_
        refine lv_iconst (v := 3) hx hb dX2_foresee_101 (by decide) ?_
        refine B_calli C0 hKk (by omega) h (c_X2_all l zk M2 (by subst eM2; exact (mshp_days _ _).ok hk) 3 (by decide)) (cwV 1 hts gX2_foresee_X2_all rfl rfl rfl (by decide +kernel) ⟨Nat.le_of_ble_eq_true rfl, Nat.le_of_ble_eq_true rfl⟩) rfl hl.1 (rest := []) rfl (Nat.le_of_ble_eq_true rfl) ⟨Nat.le_of_ble_eq_true rfl, Nat.le_of_ble_eq_true rfl⟩ dX2_foresee_102 (fun r u H locs hp h => ?_)
        obtain ⟨rfl, hu9⟩ := hp
        rw [hu9] at h
        refine lv_goto (tgt := 113) hx hb dX2_foresee_105 (by decide) ?_
        refine lv_istore (lv' := [(6, .int (mall M2 3)), (5, .int (mallP (uh M 0) 7)), (4, .int (mall (uh M 0) 6)), (3, .ref (za zk (zn z))), (0, .ref (za zk 55)), (1, .int (nI n)), (2, .int (nI k))]) hx hb dX2_foresee_113 hl (by decide) rfl (fun ls hl => ?_)
        refine lv_aload_n hx hb dX2_foresee_115 rfl (lv_at hl 4 rfl) ?_
        refine lv_aload_n hx hb dX2_foresee_116 rfl (lv_at hl 3 rfl) ?_
        refine S_callVv C0 hKk h (c_X2_bringBack l zk M2 (zn z) (mA (uh M 0)) (mB (uh M 0)) (mY (uh M 0)) (by omega) (by omega)) (cwV 1 hts gX2_foresee_X2_bringBack rfl rfl rfl (by decide +kernel) ⟨Nat.le_of_ble_eq_true rfl, Nat.le_of_ble_eq_true rfl⟩) (k := 55) (ci := 2) (by omega) (fun ct hA => hA.1.1) rfl rfl rfl hl.1 (rest := []) rfl (Nat.le_of_ble_eq_true rfl) ⟨Nat.le_of_ble_eq_true rfl, Nat.le_of_ble_eq_true rfl⟩ dX2_foresee_117 (fun u H locs hp h => ?_)
        rw [hp, bb_eq (by subst eM2; exact mshp_days _ _)] at h
        refine lv_iload hx hb dX2_foresee_120 (lv_at hl 0 rfl) ?_
        have h := back _ _ _ h
        exact G_iret C0 hK h ⟨by subst eM2; unfold mfore; rw [if_neg (q_nI0n c_63), if_neg (q_nIcn 1 c_80), if_pos (q_nIc 2 c_97)], rfl⟩ (Nat.le_of_ble_eq_true rfl) (Nat.le_of_ble_eq_true rfl) dX2_foresee_122
    · refine lv_aload_n hx hb dX2_foresee_83 rfl (lv_at hl 3 rfl) ?_
      refine lv_bipush (v := 7) hx hb dX2_foresee_84 (by decide) ?_
      refine B_calli C0 hKk (by omega) h (c_X2_allPipes l zk M2 (by subst eM2; exact (mshp_days _ _).ok hk) 7 (by decide)) (cwV 1 hts gX2_foresee_X2_allPipes rfl rfl rfl (by decide +kernel) ⟨Nat.le_of_ble_eq_true rfl, Nat.le_of_ble_eq_true rfl⟩) rfl hl.1 (rest := []) rfl (Nat.le_of_ble_eq_true rfl) ⟨Nat.le_of_ble_eq_true rfl, Nat.le_of_ble_eq_true rfl⟩ dX2_foresee_86 (fun r u H locs hp h => ?_)
      obtain ⟨rfl, hu9⟩ := hp
      rw [hu9] at h
      refine lv_iload hx hb dX2_foresee_89 (lv_at hl 0 rfl) ?_
      refine lv_isub hx hb dX2_foresee_91 ?_
      refine lv_goto (tgt := 113) hx hb dX2_foresee_92 (by decide) ?_
      refine lv_istore (lv' := [(6, .int ((mallP M2 7) - (mallP (uh M 0) 7))), (5, .int (mallP (uh M 0) 7)), (4, .int (mall (uh M 0) 6)), (3, .ref (za zk (zn z))), (0, .ref (za zk 55)), (1, .int (nI n)), (2, .int (nI k))]) hx hb dX2_foresee_113 hl (by decide) rfl (fun ls hl => ?_)
      refine lv_aload_n hx hb dX2_foresee_115 rfl (lv_at hl 4 rfl) ?_
      refine lv_aload_n hx hb dX2_foresee_116 rfl (lv_at hl 3 rfl) ?_
      refine S_callVv C0 hKk h (c_X2_bringBack l zk M2 (zn z) (mA (uh M 0)) (mB (uh M 0)) (mY (uh M 0)) (by omega) (by omega)) (cwV 1 hts gX2_foresee_X2_bringBack rfl rfl rfl (by decide +kernel) ⟨Nat.le_of_ble_eq_true rfl, Nat.le_of_ble_eq_true rfl⟩) (k := 55) (ci := 2) (by omega) (fun ct hA => hA.1.1) rfl rfl rfl hl.1 (rest := []) rfl (Nat.le_of_ble_eq_true rfl) ⟨Nat.le_of_ble_eq_true rfl, Nat.le_of_ble_eq_true rfl⟩ dX2_foresee_117 (fun u H locs hp h => ?_)
      rw [hp, bb_eq (by subst eM2; exact mshp_days _ _)] at h
      refine lv_iload hx hb dX2_foresee_120 (lv_at hl 0 rfl) ?_
      have h := back _ _ _ h
      exact G_iret C0 hK h ⟨by subst eM2; unfold mfore; rw [if_neg (q_nI0n c_63), if_pos (q_nIc 1 c_80)], rfl⟩ (Nat.le_of_ble_eq_true rfl) (Nat.le_of_ble_eq_true rfl) dX2_foresee_122
  · refine lv_aload_n hx hb dX2_foresee_66 rfl (lv_at hl 3 rfl) ?_
    refine lv_bipush (v := 6) hx hb dX2_foresee_67 (by decide) ?_
    refine B_calli C0 hKk (by omega) h (c_X2_all l zk M2 (by subst eM2; exact (mshp_days _ _).ok hk) 6 (by decide)) (cwV 1 hts gX2_foresee_X2_all rfl rfl rfl (by decide +kernel) ⟨Nat.le_of_ble_eq_true rfl, Nat.le_of_ble_eq_true rfl⟩) rfl hl.1 (rest := []) rfl (Nat.le_of_ble_eq_true rfl) ⟨Nat.le_of_ble_eq_true rfl, Nat.le_of_ble_eq_true rfl⟩ dX2_foresee_69 (fun r u H locs hp h => ?_)
    obtain ⟨rfl, hu9⟩ := hp
    rw [hu9] at h
    refine lv_iload hx hb dX2_foresee_72 (lv_at hl 1 rfl) ?_
    refine lv_isub hx hb dX2_foresee_74 ?_
    refine lv_goto (tgt := 113) hx hb dX2_foresee_75 (by decide) ?_
    refine lv_istore (lv' := [(6, .int ((mall M2 6) - (mall (uh M 0) 6))), (5, .int (mallP (uh M 0) 7)), (4, .int (mall (uh M 0) 6)), (3, .ref (za zk (zn z))), (0, .ref (za zk 55)), (1, .int (nI n)), (2, .int (nI k))]) hx hb dX2_foresee_113 hl (by decide) rfl (fun ls hl => ?_)
    refine lv_aload_n hx hb dX2_foresee_115 rfl (lv_at hl 4 rfl) ?_
    refine lv_aload_n hx hb dX2_foresee_116 rfl (lv_at hl 3 rfl) ?_
    refine S_callVv C0 hKk h (c_X2_bringBack l zk M2 (zn z) (mA (uh M 0)) (mB (uh M 0)) (mY (uh M 0)) (by omega) (by omega)) (cwV 1 hts gX2_foresee_X2_bringBack rfl rfl rfl (by decide +kernel) ⟨Nat.le_of_ble_eq_true rfl, Nat.le_of_ble_eq_true rfl⟩) (k := 55) (ci := 2) (by omega) (fun ct hA => hA.1.1) rfl rfl rfl hl.1 (rest := []) rfl (Nat.le_of_ble_eq_true rfl) ⟨Nat.le_of_ble_eq_true rfl, Nat.le_of_ble_eq_true rfl⟩ dX2_foresee_117 (fun u H locs hp h => ?_)
    rw [hp, bb_eq (by subst eM2; exact mshp_days _ _)] at h
    refine lv_iload hx hb dX2_foresee_120 (lv_at hl 0 rfl) ?_
    have h := back _ _ _ h
    exact G_iret C0 hK h ⟨by subst eM2; unfold mfore; rw [if_pos (q_nI0 c_63)], rfl⟩ (Nat.le_of_ble_eq_true rfl) (Nat.le_of_ble_eq_true rfl) dX2_foresee_122
set_option maxHeartbeats 4000000 in
set_option maxRecDepth 100000 in
theorem c_X2_foresee_no (l : Launch) (z : QZ) (M : QMs) (hk : MOk M) (x y : Int32) (hno : ¬ (1 ≤ x ∧ x ≤ 100)) : GI l yX2_foresee wsX2_foresee ({ frames := 1, cells := 4, slots := 210, locals := 22 } : Room) z [.ref (za z 55), .int x, .int y] 4 210 (MAt z) 55 59 M (fun r M' => r = 0 ∧ M' = uh M 1) := by
  intro ct sz hn hq hat
  refine q_entry (lo := 55) (cc := cX2_foresee) (maxL := 7) (ret := (some .int)) (by decide) rfl (Nat.le_of_ble_eq_true rfl) hn hq hat ?_
  intro p e s m below meth c ls C0 hK hsz h hl
  subst hsz
  obtain ⟨hx, hb, hr, hml, hown, hts, hlocks⟩ := id C0
  have hin2 : ∀ w ∈ u_ws RX2 TX2 6, w ∈ wsX2_foresee := by decide +kernel
  have hl : lv_has ls 7 [(0, .ref (za z 55)), (1, .int x), (2, .int y)] := hl
  refine lv_aload_n hx hb dX2_foresee_0 rfl (lv_at hl 0 rfl) ?_
  refine lv_iconst (v := 0) hx hb dX2_foresee_1 (by decide) ?_
  refine N_ph C0 hK h hin2 (by decide +kernel) dX2_foresee_2 (fun H locs M1 eM1 h => ?_)
  subst eM1
  refine lv_iload_n hx hb dX2_foresee_5 rfl (lv_at hl 1 rfl) ?_
  refine lv_iconst (v := 1) hx hb dX2_foresee_6 (by decide) ?_
  refine lv_bipush (v := 100) hx hb dX2_foresee_7 (by decide) ?_
  refine S_callSi C0 hK h (c_X2_isIn l z (uh M 0) x 1 100) (va_cwS 3 hts gX2_foresee_X2_isIn rfl rfl rfl (by decide +kernel) ⟨Nat.le_of_ble_eq_true rfl, Nat.le_of_ble_eq_true rfl⟩) rfl hl.1 (rest := []) rfl (Nat.le_of_ble_eq_true rfl) ⟨Nat.le_of_ble_eq_true rfl, Nat.le_of_ble_eq_true rfl⟩ dX2_foresee_9 (fun r u H locs hp h => ?_)
  obtain ⟨hr9, hu9⟩ := hp
  have hr9 := hr9.trans (if_neg hno)
  subst hr9
  rw [hu9] at h
  refine lv_if_ne (tgt := 21) hx hb dX2_foresee_12 (by decide) (fun q9 => absurd (by decide) q9) (fun _ => ?_)
  refine lv_aload_n hx hb dX2_foresee_15 rfl (lv_at hl 0 rfl) ?_
  refine lv_iconst (v := 1) hx hb dX2_foresee_16 (by decide) ?_
  refine S_callVi C0 hK h (c_X2_fail l z (uh M 0) 1) (cwV 1 hts gX2_foresee_X2_fail rfl rfl rfl (by decide +kernel) ⟨Nat.le_of_ble_eq_true rfl, Nat.le_of_ble_eq_true rfl⟩) (k := 55) (ci := 2) (by omega) (fun ct hA => hA.1) rfl rfl rfl hl.1 (rest := []) rfl (Nat.le_of_ble_eq_true rfl) ⟨Nat.le_of_ble_eq_true rfl, Nat.le_of_ble_eq_true rfl⟩ dX2_foresee_17 (fun r u H locs hp h => ?_)
  obtain ⟨rfl, hp⟩ := hp
  obtain ⟨M2, eM2⟩ : ∃ z9, z9 = uh (uh M 0) 1 := ⟨_, rfl⟩
  rw [hp, ← eM2] at h
  exact G_iret C0 hK h ⟨rfl, by subst eM2; rfl⟩ (Nat.le_of_ble_eq_true rfl) (Nat.le_of_ble_eq_true rfl) dX2_foresee_20
set_option maxHeartbeats 4000000 in
set_option maxRecDepth 100000 in
theorem c_X2_foresee_no2 (l : Launch) (z : QZ) (M : QMs) (hk : MOk M) (x y : Int32) (hyes : 1 ≤ x ∧ x ≤ 100) (hno : ¬ (0 ≤ y ∧ y ≤ 3)) : GI l yX2_foresee wsX2_foresee ({ frames := 1, cells := 4, slots := 210, locals := 22 } : Room) z [.ref (za z 55), .int x, .int y] 4 210 (MAt z) 55 59 M (fun r M' => r = 0 ∧ M' = uh M 2) := by
  intro ct sz hn hq hat
  refine q_entry (lo := 55) (cc := cX2_foresee) (maxL := 7) (ret := (some .int)) (by decide) rfl (Nat.le_of_ble_eq_true rfl) hn hq hat ?_
  intro p e s m below meth c ls C0 hK hsz h hl
  subst hsz
  obtain ⟨hx, hb, hr, hml, hown, hts, hlocks⟩ := id C0
  have hin2 : ∀ w ∈ u_ws RX2 TX2 6, w ∈ wsX2_foresee := by decide +kernel
  have hl : lv_has ls 7 [(0, .ref (za z 55)), (1, .int x), (2, .int y)] := hl
  refine lv_aload_n hx hb dX2_foresee_0 rfl (lv_at hl 0 rfl) ?_
  refine lv_iconst (v := 0) hx hb dX2_foresee_1 (by decide) ?_
  refine N_ph C0 hK h hin2 (by decide +kernel) dX2_foresee_2 (fun H locs M1 eM1 h => ?_)
  subst eM1
  refine lv_iload_n hx hb dX2_foresee_5 rfl (lv_at hl 1 rfl) ?_
  refine lv_iconst (v := 1) hx hb dX2_foresee_6 (by decide) ?_
  refine lv_bipush (v := 100) hx hb dX2_foresee_7 (by decide) ?_
  refine S_callSi C0 hK h (c_X2_isIn l z (uh M 0) x 1 100) (va_cwS 3 hts gX2_foresee_X2_isIn rfl rfl rfl (by decide +kernel) ⟨Nat.le_of_ble_eq_true rfl, Nat.le_of_ble_eq_true rfl⟩) rfl hl.1 (rest := []) rfl (Nat.le_of_ble_eq_true rfl) ⟨Nat.le_of_ble_eq_true rfl, Nat.le_of_ble_eq_true rfl⟩ dX2_foresee_9 (fun r u H locs hp h => ?_)
  obtain ⟨hr9, hu9⟩ := hp
  have hr9 := hr9.trans (if_pos hyes)
  subst hr9
  rw [hu9] at h
  refine lv_if_ne (tgt := 21) hx hb dX2_foresee_12 (by decide) (fun _ => ?_) (fun q9 => absurd q9 (by decide))
  refine lv_iload_n hx hb dX2_foresee_21 rfl (lv_at hl 2 rfl) ?_
  refine lv_iconst (v := 0) hx hb dX2_foresee_22 (by decide) ?_
  refine lv_iconst (v := 3) hx hb dX2_foresee_23 (by decide) ?_
  refine S_callSi C0 hK h (c_X2_isIn l z (uh M 0) y 0 3) (va_cwS 3 hts gX2_foresee_X2_isIn rfl rfl rfl (by decide +kernel) ⟨Nat.le_of_ble_eq_true rfl, Nat.le_of_ble_eq_true rfl⟩) rfl hl.1 (rest := []) rfl (Nat.le_of_ble_eq_true rfl) ⟨Nat.le_of_ble_eq_true rfl, Nat.le_of_ble_eq_true rfl⟩ dX2_foresee_24 (fun r u H locs hp h => ?_)
  obtain ⟨hr9, hu9⟩ := hp
  have hr9 := hr9.trans (if_neg hno)
  subst hr9
  rw [hu9] at h
  refine lv_if_ne (tgt := 36) hx hb dX2_foresee_27 (by decide) (fun q9 => absurd (by decide) q9) (fun _ => ?_)
  refine lv_aload_n hx hb dX2_foresee_30 rfl (lv_at hl 0 rfl) ?_
  refine lv_iconst (v := 2) hx hb dX2_foresee_31 (by decide) ?_
  refine S_callVi C0 hK h (c_X2_fail l z (uh M 0) 2) (cwV 1 hts gX2_foresee_X2_fail rfl rfl rfl (by decide +kernel) ⟨Nat.le_of_ble_eq_true rfl, Nat.le_of_ble_eq_true rfl⟩) (k := 55) (ci := 2) (by omega) (fun ct hA => hA.1) rfl rfl rfl hl.1 (rest := []) rfl (Nat.le_of_ble_eq_true rfl) ⟨Nat.le_of_ble_eq_true rfl, Nat.le_of_ble_eq_true rfl⟩ dX2_foresee_32 (fun r u H locs hp h => ?_)
  obtain ⟨rfl, hp⟩ := hp
  obtain ⟨M2, eM2⟩ : ∃ z9, z9 = uh (uh M 0) 2 := ⟨_, rfl⟩
  rw [hp, ← eM2] at h
  exact G_iret C0 hK h ⟨rfl, by subst eM2; rfl⟩ (Nat.le_of_ble_eq_true rfl) (Nat.le_of_ble_eq_true rfl) dX2_foresee_35
set_option maxHeartbeats 4000000 in
set_option maxRecDepth 100000 in
theorem c_X2_advise_ok (l : Launch) (z : QZ) (M : QMs) (hk : MOk M) (n : Nat) (h1 : 1 ≤ n) (h2 : n ≤ 60) : GI l yX2_advise wsX2_advise ({ frames := 6, cells := 4, slots := 210, locals := 135 } : Room) z [.ref (za z 55), .int (nI n)] 4 210 (MAt z) 55 59 M (fun r M' => r = (madv (uh M 0) n (mp_ M)).1 ∧ M' = uh M 0) := by
  intro ct sz hn hq hat
  refine q_entry (lo := 55) (cc := cX2_advise) (maxL := 7) (ret := (some .int)) (by decide) rfl (Nat.le_of_ble_eq_true rfl) hn hq hat ?_
  intro p e s m below meth c ls C0 hK hsz h hl
  subst hsz
  obtain ⟨hx, hb, hr, hml, hown, hts, hlocks⟩ := id C0
  have hin2 : ∀ w ∈ u_ws RX2 TX2 6, w ∈ wsX2_advise := by decide +kernel
  have hl : lv_has ls 7 [(0, .ref (za z 55)), (1, .int (nI n))] := hl
  have hk1 := hk.1
  have hk2 := hk.2.1
  refine lv_aload_n hx hb dX2_advise_0 rfl (lv_at hl 0 rfl) ?_
  refine lv_iconst (v := 0) hx hb dX2_advise_1 (by decide) ?_
  refine N_ph C0 hK h hin2 (by decide +kernel) dX2_advise_2 (fun H locs M1 eM1 h => ?_)
  subst eM1
  refine lv_iload_n hx hb dX2_advise_5 rfl (lv_at hl 1 rfl) ?_
  refine lv_iconst (v := 1) hx hb dX2_advise_6 (by decide) ?_
  refine lv_bipush (v := 60) hx hb dX2_advise_7 (by decide) ?_
  refine S_callSi C0 hK h (c_X2_isIn l z (uh M 0) (nI n) 1 60) (va_cwS 3 hts gX2_advise_X2_isIn rfl rfl rfl (by decide +kernel) ⟨Nat.le_of_ble_eq_true rfl, Nat.le_of_ble_eq_true rfl⟩) rfl hl.1 (rest := []) rfl (Nat.le_of_ble_eq_true rfl) ⟨Nat.le_of_ble_eq_true rfl, Nat.le_of_ble_eq_true rfl⟩ dX2_advise_9 (fun r u H locs hp h => ?_)
  obtain ⟨hr9, hu9⟩ := hp
  have hr9 := hr9.trans (if_pos (q_rng (k := n) 1 60 rfl rfl))
  subst hr9
  rw [hu9] at h
  refine lv_if_ne (tgt := 21) hx hb dX2_advise_12 (by decide) (fun _ => ?_) (fun q9 => absurd q9 (by decide))
  refine lv_aload_n hx hb dX2_advise_21 rfl (lv_at hl 0 rfl) ?_
  refine G_kept C0 hK h (cwV 0 hts gX2_advise_X2_kept rfl rfl rfl (by decide +kernel) ⟨Nat.le_of_ble_eq_true rfl, Nat.le_of_ble_eq_true rfl⟩) hl.1 (rest := []) rfl (Nat.le_of_ble_eq_true rfl) ⟨Nat.le_of_ble_eq_true rfl, Nat.le_of_ble_eq_true rfl⟩ dX2_advise_22 (fun zk c1 H locs hKk hz4 hag h back => ?_)
  have hag5 := hag 55 (by omega)
  have hl : lv_has ls 7 [(0, .ref (za zk 55)), (1, .int (nI n))] := by rw [hag5]; exact hl
  refine lv_astore_n (lv' := [(2, .ref (za zk (zn z))), (0, .ref (za zk 55)), (1, .int (nI n))]) hx hb dX2_advise_25 rfl hl (by decide) rfl (fun ls hl => ?_)
  refine lv_aload_n hx hb dX2_advise_26 rfl (lv_at hl 1 rfl) ?_
  refine lv_iload_n hx hb dX2_advise_27 rfl (lv_at hl 2 rfl) ?_
  refine B_callv C0 hKk (by omega) h (c_X2_daysOn l zk (uh M 0) hk n (by omega)) (cwV 1 hts gX2_advise_X2_daysOn rfl rfl rfl (by decide +kernel) ⟨Nat.le_of_ble_eq_true rfl, Nat.le_of_ble_eq_true rfl⟩) rfl hl.1 (rest := []) rfl (Nat.le_of_ble_eq_true rfl) ⟨Nat.le_of_ble_eq_true rfl, Nat.le_of_ble_eq_true rfl⟩ dX2_advise_28 (fun u H locs hp h => ?_)
  obtain ⟨M2, eM2⟩ : ∃ z9, z9 = itN mdayF n (uh M 0) := ⟨_, rfl⟩
  rw [hp, ← eM2] at h
  refine lv_iconst (v := (-1)) hx hb dX2_advise_31 (by decide) ?_
  refine lv_istore_n (lv' := [(3, .int ((-1))), (2, .ref (za zk (zn z))), (0, .ref (za zk 55)), (1, .int (nI n))]) hx hb dX2_advise_32 rfl hl (by decide) rfl (fun ls hl => ?_)
  refine lv_aload_n hx hb dX2_advise_33 rfl (lv_at hl 2 rfl) ?_
  refine lv_bipush (v := 6) hx hb dX2_advise_34 (by decide) ?_
  refine B_calli C0 hKk (by omega) h (c_X2_all l zk M2 (by subst eM2; exact (mshp_days _ _).ok hk) 6 (by decide)) (cwV 1 hts gX2_advise_X2_all rfl rfl rfl (by decide +kernel) ⟨Nat.le_of_ble_eq_true rfl, Nat.le_of_ble_eq_true rfl⟩) rfl hl.1 (rest := []) rfl (Nat.le_of_ble_eq_true rfl) ⟨Nat.le_of_ble_eq_true rfl, Nat.le_of_ble_eq_true rfl⟩ dX2_advise_36 (fun r u H locs hp h => ?_)
  obtain ⟨rfl, hu9⟩ := hp
  rw [hu9] at h
  refine lv_istore (lv' := [(4, .int (mall M2 6)), (3, .int ((-1))), (2, .ref (za zk (zn z))), (0, .ref (za zk 55)), (1, .int (nI n))]) hx hb dX2_advise_39 hl (by decide) rfl (fun ls hl => ?_)
  refine lv_aload_n hx hb dX2_advise_41 rfl (lv_at hl 3 rfl) ?_
  refine lv_aload_n hx hb dX2_advise_42 rfl (lv_at hl 2 rfl) ?_
  refine S_callVv C0 hKk h (c_X2_bringBack l zk M2 (zn z) (mA (uh M 0)) (mB (uh M 0)) (mY (uh M 0)) (by omega) (by omega)) (cwV 1 hts gX2_advise_X2_bringBack rfl rfl rfl (by decide +kernel) ⟨Nat.le_of_ble_eq_true rfl, Nat.le_of_ble_eq_true rfl⟩) (k := 55) (ci := 2) (by omega) (fun ct hA => hA.1.1) rfl rfl rfl hl.1 (rest := []) rfl (Nat.le_of_ble_eq_true rfl) ⟨Nat.le_of_ble_eq_true rfl, Nat.le_of_ble_eq_true rfl⟩ dX2_advise_43 (fun u H locs hp h => ?_)
  rw [hp, bb_eq (by subst eM2; exact mshp_days _ _)] at h
  refine lv_iconst (v := 0) hx hb dX2_advise_46 (by decide) ?_
  refine lv_istore (lv' := [(5, .int 0), (4, .int (mall M2 6)), (3, .int ((-1))), (2, .ref (za zk (zn z))), (0, .ref (za zk 55)), (1, .int (nI n))]) hx hb dX2_advise_47 hl (by decide) rfl (fun ls hl => ?_)
  have L49 : ∀ (d i : Nat), i + d = mp_ M → ∀ (H : Heap) (locs : List Loc) (ls : Array Slot), GW zk (BAt zk (zn z) (mA (uh M 0)) (mB (uh M 0)) (mY (uh M 0))) 55 59 s.heap c1 (uh M 0) H locs → lv_has ls 7 [(5, .int (nI i)), (3, .int ((madv (uh M 0) n i).1)), (4, .int ((madv (uh M 0) n i).2)), (0, .ref (za zk 55)), (2, .ref (za zk (zn z))), (1, .int (nI n))] → W p l e ({ frames := 6, cells := 4, slots := 210, locals := 135 } : Room) s m [.ref (za z 55), .int (nI n)].toArray below meth c H locs 4 210 (EI z (MAt z) 55 59 ct s below [.ref (za z 55), .int (nI n)] 4 210 (fun r M' => r = (madv (uh M 0) n (mp_ M)).1 ∧ M' = uh M 0)) (F0 m 49 ls []) := by
    intro  d
    induction d with
    | zero =>
      intro i hdi H locs ls h hl
      have hEi : i = mp_ M := by omega
      refine lv_iload hx hb dX2_advise_49 (lv_at hl 0 rfl) ?_
      refine lv_aload_n hx hb dX2_advise_51 rfl (lv_at hl 3 rfl) ?_
      refine G_get C0 hKk h hin2 2 rfl (by omega) (fun ct hA => hA.1.1) 2 (by decide) (by decide +kernel) rfl dX2_advise_52 ?_
      refine lv_icmp_ge (tgt := 107) hx hb dX2_advise_55 (by decide) (fun _ => ?_) (fun q9 => absurd (nI_le (a := mp_ M) (by omega) (by omega)) q9)
      refine lv_iload_n hx hb dX2_advise_107 rfl (lv_at hl 1 rfl) ?_
      have h := back _ _ _ h
      exact G_iret C0 hK h ⟨by rw [hEi], rfl⟩ (Nat.le_of_ble_eq_true rfl) (Nat.le_of_ble_eq_true rfl) dX2_advise_108
    | succ d ihL49 =>
      intro i hdi H locs ls h hl
      have hEi : i < mp_ M := by omega
      refine lv_iload hx hb dX2_advise_49 (lv_at hl 0 rfl) ?_
      refine lv_aload_n hx hb dX2_advise_51 rfl (lv_at hl 3 rfl) ?_
      refine G_get C0 hKk h hin2 2 rfl (by omega) (fun ct hA => hA.1.1) 2 (by decide) (by decide +kernel) rfl dX2_advise_52 ?_
      refine lv_icmp_ge (tgt := 107) hx hb dX2_advise_55 (by decide) (fun q9 => absurd q9 (nI_ge (b := mp_ M) (by omega) (by omega))) (fun _ => ?_)
      refine lv_aload_n hx hb dX2_advise_58 rfl (lv_at hl 3 rfl) ?_
      refine lv_iload hx hb dX2_advise_59 (lv_at hl 0 rfl) ?_
      refine lv_iconst (v := 4) hx hb dX2_advise_61 (by decide) ?_
      refine lv_iconst (v := 0) hx hb dX2_advise_62 (by decide) ?_
      refine B_callv C0 hKk (by omega) h (c_X2_setPipe l zk (uh M 0) i (by omega) 4 (by omega) 0) (cwV 3 hts gX2_advise_X2_setPipe rfl rfl rfl (by decide +kernel) ⟨Nat.le_of_ble_eq_true rfl, Nat.le_of_ble_eq_true rfl⟩) rfl hl.1 (rest := []) rfl (Nat.le_of_ble_eq_true rfl) ⟨Nat.le_of_ble_eq_true rfl, Nat.le_of_ble_eq_true rfl⟩ dX2_advise_63 (fun u H locs hp h => ?_)
      obtain ⟨M3, eM3⟩ : ∃ z9, z9 = mSetP (uh M 0) i 4 0 := ⟨_, rfl⟩
      rw [hp, ← eM3] at h
      refine lv_aload_n hx hb dX2_advise_66 rfl (lv_at hl 3 rfl) ?_
      refine lv_iload_n hx hb dX2_advise_67 rfl (lv_at hl 5 rfl) ?_
      refine B_callv C0 hKk (by omega) h (c_X2_daysOn l zk M3 (by subst eM3; exact (mshp_setP (by decide) (by decide)).ok hk) n (by omega)) (cwV 1 hts gX2_advise_X2_daysOn rfl rfl rfl (by decide +kernel) ⟨Nat.le_of_ble_eq_true rfl, Nat.le_of_ble_eq_true rfl⟩) rfl hl.1 (rest := []) rfl (Nat.le_of_ble_eq_true rfl) ⟨Nat.le_of_ble_eq_true rfl, Nat.le_of_ble_eq_true rfl⟩ dX2_advise_68 (fun u H locs hp h => ?_)
      obtain ⟨M4, eM4⟩ : ∃ z9, z9 = itN mdayF n M3 := ⟨_, rfl⟩
      rw [hp, ← eM4] at h
      refine lv_aload_n hx hb dX2_advise_71 rfl (lv_at hl 3 rfl) ?_
      refine lv_bipush (v := 6) hx hb dX2_advise_72 (by decide) ?_
      refine B_calli C0 hKk (by omega) h (c_X2_all l zk M4 (by subst eM4 eM3; exact ((mshp_setP (by decide) (by decide)).trans (mshp_days _ _)).ok hk) 6 (by decide)) (cwV 1 hts gX2_advise_X2_all rfl rfl rfl (by decide +kernel) ⟨Nat.le_of_ble_eq_true rfl, Nat.le_of_ble_eq_true rfl⟩) rfl hl.1 (rest := []) rfl (Nat.le_of_ble_eq_true rfl) ⟨Nat.le_of_ble_eq_true rfl, Nat.le_of_ble_eq_true rfl⟩ dX2_advise_74 (fun r u H locs hp h => ?_)
      obtain ⟨rfl, hu9⟩ := hp
      rw [hu9] at h
      refine lv_istore (lv' := [(6, .int (mall M4 6)), (5, .int (nI i)), (3, .int ((madv (uh M 0) n i).1)), (4, .int ((madv (uh M 0) n i).2)), (0, .ref (za zk 55)), (2, .ref (za zk (zn z))), (1, .int (nI n))]) hx hb dX2_advise_77 hl (by decide) rfl (fun ls hl => ?_)
      refine lv_aload_n hx hb dX2_advise_79 rfl (lv_at hl 4 rfl) ?_
      refine lv_aload_n hx hb dX2_advise_80 rfl (lv_at hl 5 rfl) ?_
      refine S_callVv C0 hKk h (c_X2_bringBack l zk M4 (zn z) (mA (uh M 0)) (mB (uh M 0)) (mY (uh M 0)) (by omega) (by omega)) (cwV 1 hts gX2_advise_X2_bringBack rfl rfl rfl (by decide +kernel) ⟨Nat.le_of_ble_eq_true rfl, Nat.le_of_ble_eq_true rfl⟩) (k := 55) (ci := 2) (by omega) (fun ct hA => hA.1.1) rfl rfl rfl hl.1 (rest := []) rfl (Nat.le_of_ble_eq_true rfl) ⟨Nat.le_of_ble_eq_true rfl, Nat.le_of_ble_eq_true rfl⟩ dX2_advise_81 (fun u H locs hp h => ?_)
      rw [hp, bb_eq (by subst eM4 eM3; exact (mshp_setP (by decide) (by decide)).trans (mshp_days _ _))] at h
      refine lv_iload hx hb dX2_advise_84 (lv_at hl 0 rfl) ?_
      refine lv_iload hx hb dX2_advise_86 (lv_at hl 3 rfl) ?_
      refine lv_icmp_gt (tgt := 94) hx hb dX2_advise_88 (by decide) (fun c_88 => ?_) (fun c_88 => ?_)
      · refine lv_iload hx hb dX2_advise_94 (lv_at hl 1 rfl) ?_
        refine lv_istore_n (lv' := [(3, .int (nI i)), (6, .int (mall M4 6)), (5, .int (nI i)), (4, .int ((madv (uh M 0) n i).2)), (0, .ref (za zk 55)), (2, .ref (za zk (zn z))), (1, .int (nI n))]) hx hb dX2_advise_96 rfl hl (by decide) rfl (fun ls hl => ?_)
        refine lv_iload hx hb dX2_advise_97 (lv_at hl 1 rfl) ?_
        refine lv_istore (lv' := [(4, .int (mall M4 6)), (3, .int (nI i)), (6, .int (mall M4 6)), (5, .int (nI i)), (0, .ref (za zk 55)), (2, .ref (za zk (zn z))), (1, .int (nI n))]) hx hb dX2_advise_99 hl (by decide) rfl (fun ls hl => ?_)
        refine lv_iinc (v := nI (i + 1)) (lv' := [(5, .int (nI (i + 1))), (4, .int (mall M4 6)), (3, .int (nI i)), (6, .int (mall M4 6)), (0, .ref (za zk 55)), (2, .ref (za zk (zn z))), (1, .int (nI n))]) hx hb dX2_advise_101 hl (k := 3) rfl (q_inc i 1) (by decide) rfl (fun ls hl => ?_)
        refine lv_goto (tgt := 49) hx hb dX2_advise_104 (by decide) ?_
        have e9 : madv (uh M 0) n (i + 1) = (nI i, mall (itN mdayF n (mSetP (uh M 0) i 4 0)) 6) := by
          subst eM4 eM3; exact if_pos c_88
        have hl : lv_has ls 7 [(5, .int (nI (i + 1))), (4, .int ((madv (uh M 0) n (i + 1)).2)), (3, .int ((madv (uh M 0) n (i + 1)).1)), (6, .int (mall M4 6)), (0, .ref (za zk 55)), (2, .ref (za zk (zn z))), (1, .int (nI n))] := by rw [e9]; subst eM4 eM3; exact hl
        exact ihL49 (i + 1) (by omega) _ _ _ h (lv_sub hl [0, 2, 1, 4, 5, 6] rfl)
      · refine lv_goto (tgt := 101) hx hb dX2_advise_91 (by decide) ?_
        refine lv_iinc (v := nI (i + 1)) (lv' := [(5, .int (nI (i + 1))), (6, .int (mall M4 6)), (3, .int ((madv (uh M 0) n i).1)), (4, .int ((madv (uh M 0) n i).2)), (0, .ref (za zk 55)), (2, .ref (za zk (zn z))), (1, .int (nI n))]) hx hb dX2_advise_101 hl (k := 1) rfl (q_inc i 1) (by decide) rfl (fun ls hl => ?_)
        refine lv_goto (tgt := 49) hx hb dX2_advise_104 (by decide) ?_
        have e9 : madv (uh M 0) n (i + 1) = madv (uh M 0) n i := by
          subst eM4 eM3; exact if_neg c_88
        have hl : lv_has ls 7 [(5, .int (nI (i + 1))), (6, .int (mall M4 6)), (3, .int ((madv (uh M 0) n (i + 1)).1)), (4, .int ((madv (uh M 0) n (i + 1)).2)), (0, .ref (za zk 55)), (2, .ref (za zk (zn z))), (1, .int (nI n))] := by rw [e9]; subst eM4 eM3; exact hl
        exact ihL49 (i + 1) (by omega) _ _ _ h (lv_sub hl [0, 2, 3, 4, 5, 6] rfl)
  have hl : lv_has ls 7 [(5, .int 0), (4, .int ((madv (uh M 0) n 0).2)), (3, .int ((madv (uh M 0) n 0).1)), (2, .ref (za zk (zn z))), (0, .ref (za zk 55)), (1, .int (nI n))] := by subst eM2; exact hl
  exact L49 (mp_ M) 0 (by omega) _ _ _ h (lv_sub hl [0, 2, 1, 4, 3, 5] rfl)
set_option maxHeartbeats 4000000 in
set_option maxRecDepth 100000 in
theorem c_X2_advise_no (l : Launch) (z : QZ) (M : QMs) (hk : MOk M) (x : Int32) (hno : ¬ (1 ≤ x ∧ x ≤ 60)) : GI l yX2_advise wsX2_advise ({ frames := 1, cells := 4, slots := 210, locals := 22 } : Room) z [.ref (za z 55), .int x] 4 210 (MAt z) 55 59 M (fun r M' => r = 0 ∧ M' = uh M 1) := by
  intro ct sz hn hq hat
  refine q_entry (lo := 55) (cc := cX2_advise) (maxL := 7) (ret := (some .int)) (by decide) rfl (Nat.le_of_ble_eq_true rfl) hn hq hat ?_
  intro p e s m below meth c ls C0 hK hsz h hl
  subst hsz
  obtain ⟨hx, hb, hr, hml, hown, hts, hlocks⟩ := id C0
  have hin2 : ∀ w ∈ u_ws RX2 TX2 6, w ∈ wsX2_advise := by decide +kernel
  have hl : lv_has ls 7 [(0, .ref (za z 55)), (1, .int x)] := hl
  refine lv_aload_n hx hb dX2_advise_0 rfl (lv_at hl 0 rfl) ?_
  refine lv_iconst (v := 0) hx hb dX2_advise_1 (by decide) ?_
  refine N_ph C0 hK h hin2 (by decide +kernel) dX2_advise_2 (fun H locs M1 eM1 h => ?_)
  subst eM1
  refine lv_iload_n hx hb dX2_advise_5 rfl (lv_at hl 1 rfl) ?_
  refine lv_iconst (v := 1) hx hb dX2_advise_6 (by decide) ?_
  refine lv_bipush (v := 60) hx hb dX2_advise_7 (by decide) ?_
  refine S_callSi C0 hK h (c_X2_isIn l z (uh M 0) x 1 60) (va_cwS 3 hts gX2_advise_X2_isIn rfl rfl rfl (by decide +kernel) ⟨Nat.le_of_ble_eq_true rfl, Nat.le_of_ble_eq_true rfl⟩) rfl hl.1 (rest := []) rfl (Nat.le_of_ble_eq_true rfl) ⟨Nat.le_of_ble_eq_true rfl, Nat.le_of_ble_eq_true rfl⟩ dX2_advise_9 (fun r u H locs hp h => ?_)
  obtain ⟨hr9, hu9⟩ := hp
  have hr9 := hr9.trans (if_neg hno)
  subst hr9
  rw [hu9] at h
  refine lv_if_ne (tgt := 21) hx hb dX2_advise_12 (by decide) (fun q9 => absurd (by decide) q9) (fun _ => ?_)
  refine lv_aload_n hx hb dX2_advise_15 rfl (lv_at hl 0 rfl) ?_
  refine lv_iconst (v := 1) hx hb dX2_advise_16 (by decide) ?_
  refine S_callVi C0 hK h (c_X2_fail l z (uh M 0) 1) (cwV 1 hts gX2_advise_X2_fail rfl rfl rfl (by decide +kernel) ⟨Nat.le_of_ble_eq_true rfl, Nat.le_of_ble_eq_true rfl⟩) (k := 55) (ci := 2) (by omega) (fun ct hA => hA.1) rfl rfl rfl hl.1 (rest := []) rfl (Nat.le_of_ble_eq_true rfl) ⟨Nat.le_of_ble_eq_true rfl, Nat.le_of_ble_eq_true rfl⟩ dX2_advise_17 (fun r u H locs hp h => ?_)
  obtain ⟨rfl, hp⟩ := hp
  obtain ⟨M2, eM2⟩ : ∃ z9, z9 = uh (uh M 0) 1 := ⟨_, rfl⟩
  rw [hp, ← eM2] at h
  exact G_iret C0 hK h ⟨rfl, by subst eM2; rfl⟩ (Nat.le_of_ble_eq_true rfl) (Nat.le_of_ble_eq_true rfl) dX2_advise_20
