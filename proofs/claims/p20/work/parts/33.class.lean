/-! PART 33: the class itself -/
set_option maxHeartbeats 4000000 in
set_option maxRecDepth 100000 in
theorem c_X1_isWithin (l : Launch) (z : QZ) (σ : Nat → QLs) (S : QLs) (x y v : Int32) : GI l yX1_isWithin wsX1_isWithin ({ frames := 0, cells := 0, slots := 0, locals := 0 } : Room) z [.int x, .int y, .int v] 0 0 (XAt z) 0 55 (va_up σ 0 S) (fun r σ' => r = (if y ≤ x ∧ x ≤ v then 1 else 0) ∧ σ' = va_up σ 0 S) := by
  intro ct sz hn hq hat
  refine q_entry (lo := 0) (cc := cX1_isWithin) (maxL := 3) (ret := (some .boolean)) (by decide) rfl (Nat.le_of_ble_eq_true rfl) hn hq hat ?_
  intro p e s m below meth c ls C0 hK hsz h hl
  subst hsz
  obtain ⟨hx, hb, hr, hml, hown, hts, hlocks⟩ := id C0
  have hB : 0 < 2 := by decide
  have hl : lv_has ls 3 [(0, .int x), (1, .int y), (2, .int v)] := hl
  refine lv_iload_n hx hb dX1_isWithin_0 rfl (lv_at hl 0 rfl) ?_
  refine lv_iload_n hx hb dX1_isWithin_1 rfl (lv_at hl 1 rfl) ?_
  refine lv_icmp_lt (tgt := 14) hx hb dX1_isWithin_2 (by decide) (fun c_2 => ?_) (fun c_2 => ?_)
  · refine lv_iconst (v := 0) hx hb dX1_isWithin_14 (by decide) ?_
    exact G_zret C0 hK h ⟨by rw [if_neg (fun q => absurd c_2 (Int32.not_lt.mpr q.1))], rfl⟩ (by decide) (Nat.le_of_ble_eq_true rfl) (Nat.le_of_ble_eq_true rfl) dX1_isWithin_15
  · refine lv_iload_n hx hb dX1_isWithin_5 rfl (lv_at hl 0 rfl) ?_
    refine lv_iload_n hx hb dX1_isWithin_6 rfl (lv_at hl 2 rfl) ?_
    refine lv_icmp_gt (tgt := 14) hx hb dX1_isWithin_7 (by decide) (fun c_7 => ?_) (fun c_7 => ?_)
    · refine lv_iconst (v := 0) hx hb dX1_isWithin_14 (by decide) ?_
      exact G_zret C0 hK h ⟨by rw [if_neg (fun q => absurd c_7 (Int32.not_lt.mpr q.2))], rfl⟩ (by decide) (Nat.le_of_ble_eq_true rfl) (Nat.le_of_ble_eq_true rfl) dX1_isWithin_15
    · refine lv_iconst (v := 1) hx hb dX1_isWithin_10 (by decide) ?_
      refine lv_goto (tgt := 15) hx hb dX1_isWithin_11 (by decide) ?_
      exact G_zret C0 hK h ⟨by rw [if_pos ⟨Int32.not_lt.mp c_2, Int32.not_lt.mp c_7⟩], rfl⟩ (by decide) (Nat.le_of_ble_eq_true rfl) (Nat.le_of_ble_eq_true rfl) dX1_isWithin_15
set_option maxHeartbeats 4000000 in
set_option maxRecDepth 100000 in
theorem c_X1_isSpringAndThirst (l : Launch) (z : QZ) (σ : Nat → QLs) (S : QLs) (x y : Int32) : GI l yX1_isSpringAndThirst wsX1_isSpringAndThirst ({ frames := 1, cells := 0, slots := 0, locals := 22 } : Room) z [.int x, .int y] 0 0 (XAt z) 0 55 (va_up σ 0 S) (fun r σ' => r = (if (0 ≤ x ∧ x ≤ 20) ∧ (0 ≤ y ∧ y ≤ 20) then 1 else 0) ∧ σ' = va_up σ 0 S) := by
  intro ct sz hn hq hat
  refine q_entry (lo := 0) (cc := cX1_isSpringAndThirst) (maxL := 2) (ret := (some .boolean)) (by decide) rfl (Nat.le_of_ble_eq_true rfl) hn hq hat ?_
  intro p e s m below meth c ls C0 hK hsz h hl
  subst hsz
  obtain ⟨hx, hb, hr, hml, hown, hts, hlocks⟩ := id C0
  have hB : 0 < 2 := by decide
  have hl : lv_has ls 2 [(0, .int x), (1, .int y)] := hl
  refine lv_iload_n hx hb dX1_isSpringAndThirst_0 rfl (lv_at hl 0 rfl) ?_
  refine lv_iconst (v := 0) hx hb dX1_isSpringAndThirst_1 (by decide) ?_
  refine lv_bipush (v := 20) hx hb dX1_isSpringAndThirst_2 (by decide) ?_
  refine S_callSi C0 hK h (c_X1_isWithin l z σ S x 0 20) (va_cwS 3 hts gX1_isSpringAndThirst_X1_isWithin rfl rfl rfl (by decide +kernel) ⟨Nat.le_of_ble_eq_true rfl, Nat.le_of_ble_eq_true rfl⟩) rfl hl.1 (rest := []) rfl (Nat.le_of_ble_eq_true rfl) ⟨Nat.le_of_ble_eq_true rfl, Nat.le_of_ble_eq_true rfl⟩ dX1_isSpringAndThirst_4 (fun r u H locs hp h => ?_)
  rcases q_bool _ hp with ⟨hc1, rfl, hu9⟩ | ⟨hc1, rfl, hu9⟩
  · rw [hu9] at h
    refine lv_if_eq (tgt := 24) hx hb dX1_isSpringAndThirst_7 (by decide) (fun q9 => absurd q9 (by decide)) (fun _ => ?_)
    refine lv_iload_n hx hb dX1_isSpringAndThirst_10 rfl (lv_at hl 1 rfl) ?_
    refine lv_iconst (v := 0) hx hb dX1_isSpringAndThirst_11 (by decide) ?_
    refine lv_bipush (v := 20) hx hb dX1_isSpringAndThirst_12 (by decide) ?_
    refine S_callSi C0 hK h (c_X1_isWithin l z σ S y 0 20) (va_cwS 3 hts gX1_isSpringAndThirst_X1_isWithin rfl rfl rfl (by decide +kernel) ⟨Nat.le_of_ble_eq_true rfl, Nat.le_of_ble_eq_true rfl⟩) rfl hl.1 (rest := []) rfl (Nat.le_of_ble_eq_true rfl) ⟨Nat.le_of_ble_eq_true rfl, Nat.le_of_ble_eq_true rfl⟩ dX1_isSpringAndThirst_14 (fun r u H locs hp h => ?_)
    rcases q_bool _ hp with ⟨hc2, rfl, hu9⟩ | ⟨hc2, rfl, hu9⟩
    · rw [hu9] at h
      refine lv_if_eq (tgt := 24) hx hb dX1_isSpringAndThirst_17 (by decide) (fun q9 => absurd q9 (by decide)) (fun _ => ?_)
      refine lv_iconst (v := 1) hx hb dX1_isSpringAndThirst_20 (by decide) ?_
      refine lv_goto (tgt := 25) hx hb dX1_isSpringAndThirst_21 (by decide) ?_
      exact G_zret C0 hK h ⟨by rw [if_pos ⟨hc1, hc2⟩], rfl⟩ (by decide) (Nat.le_of_ble_eq_true rfl) (Nat.le_of_ble_eq_true rfl) dX1_isSpringAndThirst_25
    · rw [hu9] at h
      refine lv_if_eq (tgt := 24) hx hb dX1_isSpringAndThirst_17 (by decide) (fun _ => ?_) (fun q9 => absurd (by decide) q9)
      refine lv_iconst (v := 0) hx hb dX1_isSpringAndThirst_24 (by decide) ?_
      exact G_zret C0 hK h ⟨by rw [if_neg (fun q => hc2 q.2)], rfl⟩ (by decide) (Nat.le_of_ble_eq_true rfl) (Nat.le_of_ble_eq_true rfl) dX1_isSpringAndThirst_25
  · rw [hu9] at h
    refine lv_if_eq (tgt := 24) hx hb dX1_isSpringAndThirst_7 (by decide) (fun _ => ?_) (fun q9 => absurd (by decide) q9)
    refine lv_iconst (v := 0) hx hb dX1_isSpringAndThirst_24 (by decide) ?_
    exact G_zret C0 hK h ⟨by rw [if_neg (fun q => hc1 q.1)], rfl⟩ (by decide) (Nat.le_of_ble_eq_true rfl) (Nat.le_of_ble_eq_true rfl) dX1_isSpringAndThirst_25
set_option maxHeartbeats 4000000 in
set_option maxRecDepth 100000 in
theorem c_X1_needIndex_ok (l : Launch) (z : QZ) (σ : Nat → QLs) (S : QLs) : GV l yX1_needIndex wsX1_needIndex ({ frames := 0, cells := 0, slots := 0, locals := 0 } : Room) z [.int 1] 0 0 (XAt z) 0 55 (va_up σ 0 S) (fun σ' => σ' = va_up σ 0 S) := by
  intro ct sz hn hq hat
  refine q_entry (lo := 0) (cc := cX1_needIndex) (maxL := 1) (ret := none) (by decide) rfl (Nat.le_of_ble_eq_true rfl) hn hq hat ?_
  intro p e s m below meth c ls C0 hK hsz h hl
  subst hsz
  obtain ⟨hx, hb, hr, hml, hown, hts, hlocks⟩ := id C0
  have hB : 0 < 2 := by decide
  have hl : lv_has ls 1 [(0, .int 1)] := hl
  refine lv_iload_n hx hb dX1_needIndex_0 rfl (lv_at hl 0 rfl) ?_
  refine lv_if_ne (tgt := 14) hx hb dX1_needIndex_1 (by decide) (fun _ => ?_) (fun q9 => absurd q9 (by decide))
  exact G_vret C0 hK h rfl (Nat.le_of_ble_eq_true rfl) (Nat.le_of_ble_eq_true rfl) dX1_needIndex_14
set_option maxHeartbeats 4000000 in
set_option maxRecDepth 100000 in
theorem c_X1_needArgument_ok (l : Launch) (z : QZ) (σ : Nat → QLs) (S : QLs) : GV l yX1_needArgument wsX1_needArgument ({ frames := 0, cells := 0, slots := 0, locals := 0 } : Room) z [.int 1] 0 0 (XAt z) 0 55 (va_up σ 0 S) (fun σ' => σ' = va_up σ 0 S) := by
  intro ct sz hn hq hat
  refine q_entry (lo := 0) (cc := cX1_needArgument) (maxL := 1) (ret := none) (by decide) rfl (Nat.le_of_ble_eq_true rfl) hn hq hat ?_
  intro p e s m below meth c ls C0 hK hsz h hl
  subst hsz
  obtain ⟨hx, hb, hr, hml, hown, hts, hlocks⟩ := id C0
  have hB : 0 < 2 := by decide
  have hl : lv_has ls 1 [(0, .int 1)] := hl
  refine lv_iload_n hx hb dX1_needArgument_0 rfl (lv_at hl 0 rfl) ?_
  refine lv_if_ne (tgt := 14) hx hb dX1_needArgument_1 (by decide) (fun _ => ?_) (fun q9 => absurd q9 (by decide))
  exact G_vret C0 hK h rfl (Nat.le_of_ble_eq_true rfl) (Nat.le_of_ble_eq_true rfl) dX1_needArgument_14
set_option maxHeartbeats 4000000 in
set_option maxRecDepth 100000 in
theorem c_X1_needTank_ok (l : Launch) (z : QZ) (σ : Nat → QLs) (S : QLs) (i : Nat) (hi : i < qt S) (h9 : qt S < 1000) : GV l yX1_needTank wsX1_needTank ({ frames := 1, cells := 0, slots := 0, locals := 20 } : Room) z [.ref (za z 0), .int (nI i)] 0 0 (XAt z) 0 55 (va_up σ 0 S) (fun σ' => σ' = va_up σ 0 S) := by
  intro ct sz hn hq hat
  refine q_entry (lo := 0) (cc := cX1_needTank) (maxL := 2) (ret := none) (by decide) rfl (Nat.le_of_ble_eq_true rfl) hn hq hat ?_
  intro p e s m below meth c ls C0 hK hsz h hl
  subst hsz
  obtain ⟨hx, hb, hr, hml, hown, hts, hlocks⟩ := id C0
  have hB : 0 < 2 := by decide
  have hin0 : ∀ w ∈ u_ws RX0 TX0 5, w ∈ wsX1_needTank := by decide +kernel
  have hin1 : ∀ w ∈ u_ws RX1 TX1 2, w ∈ wsX1_needTank := by decide +kernel
  have hl : lv_has ls 2 [(0, .ref (za z 0)), (1, .int (nI i))] := hl
  refine lv_iload_n hx hb dX1_needTank_0 rfl (lv_at hl 1 rfl) ?_
  refine lv_if_lt (tgt := 19) hx hb dX1_needTank_1 (by decide) (fun q9 => absurd q9 (show ¬ nI i < 0 from nI_pos (by omega))) (fun _ => ?_)
  refine lv_iload_n hx hb dX1_needTank_4 rfl (lv_at hl 1 rfl) ?_
  refine lv_aload_n hx hb dX1_needTank_5 rfl (lv_at hl 0 rfl) ?_
  refine X_gO C0 hK h hin1 0 (by decide) (by decide +kernel) dX1_needTank_6 ?_
  refine L_gL C0 hK h hB hin0 2 (by decide) (by decide +kernel) rfl dX1_needTank_9 ?_
  refine lv_icmp_ge (tgt := 19) hx hb dX1_needTank_12 (by decide) (fun q9 => absurd q9 (nI_ge (a := i) (b := qt S) hi (by omega))) (fun _ => ?_)
  refine lv_iconst (v := 1) hx hb dX1_needTank_15 (by decide) ?_
  refine lv_goto (tgt := 20) hx hb dX1_needTank_16 (by decide) ?_
  refine S_callSv C0 hK h (c_X1_needIndex_ok l z σ S) (va_cwS 1 hts gX1_needTank_X1_needIndex rfl rfl rfl (by decide +kernel) ⟨Nat.le_of_ble_eq_true rfl, Nat.le_of_ble_eq_true rfl⟩) rfl hl.1 (rest := []) rfl (Nat.le_of_ble_eq_true rfl) ⟨Nat.le_of_ble_eq_true rfl, Nat.le_of_ble_eq_true rfl⟩ dX1_needTank_20 (fun u H locs hp h => ?_)
  rw [hp] at h
  exact G_vret C0 hK h rfl (Nat.le_of_ble_eq_true rfl) (Nat.le_of_ble_eq_true rfl) dX1_needTank_23
set_option maxHeartbeats 4000000 in
set_option maxRecDepth 100000 in
theorem c_X1_needPipe_ok (l : Launch) (z : QZ) (σ : Nat → QLs) (S : QLs) (i : Nat) (hi : i < qp S) (h9 : qp S < 1000) : GV l yX1_needPipe wsX1_needPipe ({ frames := 1, cells := 0, slots := 0, locals := 20 } : Room) z [.ref (za z 0), .int (nI i)] 0 0 (XAt z) 0 55 (va_up σ 0 S) (fun σ' => σ' = va_up σ 0 S) := by
  intro ct sz hn hq hat
  refine q_entry (lo := 0) (cc := cX1_needPipe) (maxL := 2) (ret := none) (by decide) rfl (Nat.le_of_ble_eq_true rfl) hn hq hat ?_
  intro p e s m below meth c ls C0 hK hsz h hl
  subst hsz
  obtain ⟨hx, hb, hr, hml, hown, hts, hlocks⟩ := id C0
  have hB : 0 < 2 := by decide
  have hin0 : ∀ w ∈ u_ws RX0 TX0 5, w ∈ wsX1_needPipe := by decide +kernel
  have hin1 : ∀ w ∈ u_ws RX1 TX1 2, w ∈ wsX1_needPipe := by decide +kernel
  have hl : lv_has ls 2 [(0, .ref (za z 0)), (1, .int (nI i))] := hl
  refine lv_iload_n hx hb dX1_needPipe_0 rfl (lv_at hl 1 rfl) ?_
  refine lv_if_lt (tgt := 19) hx hb dX1_needPipe_1 (by decide) (fun q9 => absurd q9 (show ¬ nI i < 0 from nI_pos (by omega))) (fun _ => ?_)
  refine lv_iload_n hx hb dX1_needPipe_4 rfl (lv_at hl 1 rfl) ?_
  refine lv_aload_n hx hb dX1_needPipe_5 rfl (lv_at hl 0 rfl) ?_
  refine X_gO C0 hK h hin1 0 (by decide) (by decide +kernel) dX1_needPipe_6 ?_
  refine L_gL C0 hK h hB hin0 3 (by decide) (by decide +kernel) rfl dX1_needPipe_9 ?_
  refine lv_icmp_ge (tgt := 19) hx hb dX1_needPipe_12 (by decide) (fun q9 => absurd q9 (nI_ge (a := i) (b := qp S) hi (by omega))) (fun _ => ?_)
  refine lv_iconst (v := 1) hx hb dX1_needPipe_15 (by decide) ?_
  refine lv_goto (tgt := 20) hx hb dX1_needPipe_16 (by decide) ?_
  refine S_callSv C0 hK h (c_X1_needIndex_ok l z σ S) (va_cwS 1 hts gX1_needPipe_X1_needIndex rfl rfl rfl (by decide +kernel) ⟨Nat.le_of_ble_eq_true rfl, Nat.le_of_ble_eq_true rfl⟩) rfl hl.1 (rest := []) rfl (Nat.le_of_ble_eq_true rfl) ⟨Nat.le_of_ble_eq_true rfl, Nat.le_of_ble_eq_true rfl⟩ dX1_needPipe_20 (fun u H locs hp h => ?_)
  rw [hp] at h
  exact G_vret C0 hK h rfl (Nat.le_of_ble_eq_true rfl) (Nat.le_of_ble_eq_true rfl) dX1_needPipe_23
