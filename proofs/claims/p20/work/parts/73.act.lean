/-! PART 73: act -/
set_option maxHeartbeats 4000000 in
set_option maxRecDepth 100000 in
theorem c_L_act {l : Launch} {z : QZ} {ix : Nat → Nat} {X Y : QLs} {f : Nat → Nat × (Nat → Int32)} {D : Nat} (hI : Inv D X) (x : Int32) : NI l yL_act wsL_act RMact z [.ref (za z 0), .ref (za z 55), .int x] 2 24 ix (X, Y, X, f) (fun r v9 => r = 1 ∧ ∃ X2 Y2, v9.2.2 = ((X2, Y2, X2, f) : US) ∧ Inv D X2) := by
  intro ct sz hq9 hat
  refine n_entry (cc := cL_act) (maxL := 21) (ret := (some .boolean)) (by decide) rfl (Nat.le_of_ble_eq_true rfl) hq9 hat ?_
  intro p e s m below meth c ls C0 hK hsz h hl
  subst hsz
  obtain ⟨hx, hb, hr, hml, hown, hts, hlocks⟩ := id C0
  have hk := hI.ok
  have hk1 := hk.1
  have hk2 := hk.2.1
  obtain ⟨⟨⟨h10, h14, h56⟩, -⟩, -⟩ := gw_ix h
  have hin3 : ∀ w ∈ u_ws RX3 TX3 3, w ∈ wsL_act := by decide +kernel
  have hl : lv_has ls 21 [(0, .ref (za z 0)), (1, .ref (za z 55)), (2, .int x)] := hl
  refine lv_aload_n hx hb dL_act_0 rfl (lv_at hl 1 rfl) ?_
  refine U_gO C0 hK h hin3 0 (by decide) (by decide +kernel) rfl dL_act_1 ?_
  refine U_lT C0 hK h dL_act_4 ?_
  refine lv_istore_n (lv' := [(3, .int (nI (qt X))), (0, .ref (za z 0)), (1, .ref (za z 55)), (2, .int x)]) hx hb dL_act_5 rfl hl (by decide) rfl (fun ls hl => ?_)
  refine lv_aload_n hx hb dL_act_6 rfl (lv_at hl 2 rfl) ?_
  refine U_gO C0 hK h hin3 1 (by decide) (by decide +kernel) rfl dL_act_7 ?_
  refine U_lP C0 hK h dL_act_10 ?_
  refine lv_istore (lv' := [(4, .int (nI (qp X))), (3, .int (nI (qt X))), (0, .ref (za z 0)), (1, .ref (za z 55)), (2, .int x)]) hx hb dL_act_11 hl (by decide) rfl (fun ls hl => ?_)
  refine lv_iload_n hx hb dL_act_13 rfl (lv_at hl 1 rfl) ?_
  refine lv_if_ne (tgt := 21) hx hb dL_act_14 (by decide) (fun c_14 => ?_) (fun c_14 => ?_)
  · refine lv_iload_n hx hb dL_act_21 rfl (lv_at hl 4 rfl) ?_
    refine lv_bipush (v := 9) hx hb dL_act_22 (by decide) ?_
    refine lv_ishr hx hb dL_act_24 ?_
    refine lv_bipush (v := 11) hx hb dL_act_25 (by decide) ?_
    refine S_callSi C0 hK h (c_L_below (x >>> (9 &&& 31)) 11 (by omega) (by omega)) (va_cwS 2 hts gL_act_L_below rfl rfl rfl (by decide +kernel) ⟨Nat.le_of_ble_eq_true rfl, Nat.le_of_ble_eq_true rfl⟩) rfl hl.1 (rest := []) rfl (Nat.le_of_ble_eq_true rfl) ⟨Nat.le_of_ble_eq_true rfl, Nat.le_of_ble_eq_true rfl⟩ dL_act_27 (fun r u H locs hp h => ?_)
    obtain ⟨rfl, hu9⟩ := hp
    rw [hu9] at h
    have hb30 : bl (x >>> (9 &&& 31)) 11 < 11 := bl_lt (by omega)
    refine lv_istore (lv' := [(5, .int (nI (bl (x >>> (9 &&& 31)) 11))), (4, .int (nI (qp X))), (3, .int (nI (qt X))), (0, .ref (za z 0)), (1, .ref (za z 55)), (2, .int x)]) hx hb dL_act_30 hl (by decide) rfl (fun ls hl => ?_)
    refine lv_iload hx hb dL_act_32 (lv_at hl 0 rfl) ?_
    have h0 : 0 < qt X := by rcases Nat.eq_zero_or_pos (qt X) with h9 | h9; exact absurd (by rw [h9]; rfl) c_14; exact h9
    obtain ⟨k9, ek9⟩ : ∃ k9, k9 = bl (x >>> (9 &&& 31)) 11 := ⟨_, rfl⟩
    rw [← ek9] at hb30 hl ⊢
    rcases (show k9 = 0 ∨ k9 = 1 ∨ k9 = 2 ∨ k9 = 3 ∨ k9 = 4 ∨ k9 = 5 ∨ k9 = 6 ∨ k9 = 7 ∨ k9 = 8 ∨ k9 = 9 ∨ k9 = 10 by omega) with rfl | rfl | rfl | rfl | rfl | rfl | rfl | rfl | rfl | rfl | rfl
    · refine lv_tableIn (off := 46) (tgt := 80) hx hb dL_act_34 (by decide +kernel) (by decide +kernel) rfl (by decide) ?_
      exact act_build C0 hK hI hq9 h (lv_sub hl [0, 1, 2, 5, 4, 3] rfl)
    · refine lv_tableIn (off := 46) (tgt := 80) hx hb dL_act_34 (by decide +kernel) (by decide +kernel) rfl (by decide) ?_
      exact act_build C0 hK hI hq9 h (lv_sub hl [0, 1, 2, 5, 4, 3] rfl)
    · refine lv_tableIn (off := 156) (tgt := 190) hx hb dL_act_34 (by decide +kernel) (by decide +kernel) rfl (by decide) ?_
      exact act_lay C0 hK hI hq9 h (lv_sub hl [0, 1, 2, 5, 4, 3] rfl)
    · refine lv_tableIn (off := 156) (tgt := 190) hx hb dL_act_34 (by decide +kernel) (by decide +kernel) rfl (by decide) ?_
      exact act_lay C0 hK hI hq9 h (lv_sub hl [0, 1, 2, 5, 4, 3] rfl)
    · refine lv_tableIn (off := 156) (tgt := 190) hx hb dL_act_34 (by decide +kernel) (by decide +kernel) rfl (by decide) ?_
      exact act_lay C0 hK hI hq9 h (lv_sub hl [0, 1, 2, 5, 4, 3] rfl)
    · refine lv_tableIn (off := 266) (tgt := 300) hx hb dL_act_34 (by decide +kernel) (by decide +kernel) rfl (by decide) ?_
      exact act_set C0 hK hI hq9 h (lv_sub hl [0, 1, 2, 5, 4, 3] rfl) h0
    · refine lv_tableIn (off := 350) (tgt := 384) hx hb dL_act_34 (by decide +kernel) (by decide +kernel) rfl (by decide) ?_
      exact act_flush C0 hK hI hq9 h (lv_sub hl [0, 1, 2, 5, 4, 3] rfl) h0
    · refine lv_tableIn (off := 418) (tgt := 452) hx hb dL_act_34 (by decide +kernel) (by decide +kernel) rfl (by decide) ?_
      exact act_scrape C0 hK hI hq9 h (lv_sub hl [0, 1, 2, 5, 4, 3] rfl)
    · refine lv_tableOut (tgt := 506) hx hb dL_act_34 (by decide +kernel) (by decide) ?_
      exact act_steal C0 hK hI hq9 h (lv_sub hl [0, 1, 2, 5, 4, 3] rfl)
    · refine lv_tableOut (tgt := 506) hx hb dL_act_34 (by decide +kernel) (by decide) ?_
      exact act_steal C0 hK hI hq9 h (lv_sub hl [0, 1, 2, 5, 4, 3] rfl)
    · refine lv_tableOut (tgt := 506) hx hb dL_act_34 (by decide +kernel) (by decide) ?_
      exact act_steal C0 hK hI hq9 h (lv_sub hl [0, 1, 2, 5, 4, 3] rfl)
  · refine lv_iconst (v := 0) hx hb dL_act_17 (by decide) ?_
    refine lv_goto (tgt := 30) hx hb dL_act_18 (by decide) ?_
    refine lv_istore (lv' := [(5, .int 0), (4, .int (nI (qp X))), (3, .int (nI (qt X))), (0, .ref (za z 0)), (1, .ref (za z 55)), (2, .int x)]) hx hb dL_act_30 hl (by decide) rfl (fun ls hl => ?_)
    refine lv_iload hx hb dL_act_32 (lv_at hl 0 rfl) ?_
    refine lv_tableIn (off := 46) (tgt := 80) hx hb dL_act_34 (by decide +kernel) (by decide +kernel) rfl (by decide) ?_
    exact act_build C0 hK hI hq9 h (lv_sub hl [0, 1, 2, 5, 4, 3] rfl)
