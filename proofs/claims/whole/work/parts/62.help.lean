/-! PART 62: the law's helpers -/
set_option maxHeartbeats 4000000 in
set_option maxRecDepth 100000 in
theorem c_L_build_ok (l : Launch) (hlt : l.stackTraces = false) (z : QZ) (σ : Nat → QLs) (S : QLs) (M : QMs) (f : Nat → Int64) (hk : LOk S) (ht : qt S < 10) (x y v : Int32) (h9 : (0 ≤ x ∧ x ≤ 99) ∧ (0 ≤ y ∧ y ≤ 20) ∧ (0 ≤ v ∧ v ≤ 20)) : HC l yL_build wsL_build ({ frames := 3, cells := 1, slots := 6, locals := 67 } : Room) z [.ref (za z 0), .int x, .int y, .int v, .ref (za z 59)] 1 6 (va_up σ 0 S, M, f) (fun r u => r = 0 ∧ u = (va_up σ 0 (addT S x y v), M, vp_updL f 0 (nI (qt S)).toInt64)) := by
  intro ct sz hn hq hat
  refine qh_entry (cc := cL_build) (maxL := 6) (ret := (some .int)) (hh := [(0, 12, 15, 13), (0, 12, 19, 15)]) (by decide) rfl (Nat.le_of_ble_eq_true rfl) hn hq hat ?_
  intro p e s m below meth c ls C0 hK hT htab hsz h hl
  subst hsz
  obtain ⟨hx, hb, hr, hml, hown, hts, hlocks⟩ := id C0
  have hl : lv_has ls 6 [(0, .ref (za z 0)), (1, .int x), (2, .int y), (3, .int v), (4, .ref (za z 59))] := hl
  refine lv_aload hx hb dL_build_0 (lv_at hl 4 rfl) ?_
  refine lv_iconst (v := 0) hx hb dL_build_2 (by decide) ?_
  refine lv_aload_n hx hb dL_build_3 rfl (lv_at hl 0 rfl) ?_
  refine lv_iload_n hx hb dL_build_4 rfl (lv_at hl 1 rfl) ?_
  refine lv_iload_n hx hb dL_build_5 rfl (lv_at hl 2 rfl) ?_
  refine lv_iload_n hx hb dL_build_6 rfl (lv_at hl 3 rfl) ?_
  refine G_callVi C0 hK h (c_X1_build_ok l z σ S hk ht x y v h9) (fun _ h => h.1) (fun u => (u, M, f)) (fun ct ct2 u hA hX hF => hA.X hX hF) (Nat.le_refl _) (by decide) (cwV 3 hts gL_build_X1_build rfl rfl rfl (by decide +kernel) ⟨Nat.le_of_ble_eq_true rfl, Nat.le_of_ble_eq_true rfl⟩) (k := 0) (ci := 1) (by omega) (fun ct hA => hA.1.1) rfl rfl rfl hl.1 (rest := [.int 0, .ref (za z 59)]) rfl (Nat.le_of_ble_eq_true rfl) ⟨Nat.le_of_ble_eq_true rfl, Nat.le_of_ble_eq_true rfl⟩ dL_build_7 (fun r u H locs hp h => ?_)
  obtain ⟨rfl, rfl⟩ := hp
  refine lv_i2l hx hb dL_build_10 rfl ?_
  refine G_last C0 hK h (k := 59) (by omega) (fun ct hA => hA.2.2) (j := 0) rfl (by decide) (by decide) (fun ct hA => hA.F) dL_build_11 (fun H locs h => ?_)
  refine lv_goto (tgt := 23) hx hb dL_build_12 (by decide) ?_
  refine lv_iconst (v := 0) hx hb dL_build_23 (by decide) ?_
  exact vx_ret (G_iret C0 hK h ⟨rfl, rfl⟩ (Nat.le_of_ble_eq_true rfl) (Nat.le_of_ble_eq_true rfl) dL_build_24)
set_option maxHeartbeats 4000000 in
set_option maxRecDepth 100000 in
theorem c_L_build_no (l : Launch) (hlt : l.stackTraces = false) (z : QZ) (σ : Nat → QLs) (S : QLs) (M : QMs) (f : Nat → Int64) (x y v : Int32) (hno : ¬ ((0 ≤ x ∧ x ≤ 99) ∧ (0 ≤ y ∧ y ≤ 20) ∧ (0 ≤ v ∧ v ≤ 20))) : HC l yL_build wsL_build ({ frames := 8, cells := 1, slots := 6, locals := 126 } : Room) z [.ref (za z 0), .int x, .int y, .int v, .ref (za z 59)] 1 6 (va_up σ 0 S, M, f) (fun r u => r = 1 ∧ u = (va_up σ 0 S, M, f)) := by
  intro ct sz hn hq hat
  refine qh_entry (cc := cL_build) (maxL := 6) (ret := (some .int)) (hh := [(0, 12, 15, 13), (0, 12, 19, 15)]) (by decide) rfl (Nat.le_of_ble_eq_true rfl) hn hq hat ?_
  intro p e s m below meth c ls C0 hK hT htab hsz h hl
  subst hsz
  obtain ⟨hx, hb, hr, hml, hown, hts, hlocks⟩ := id C0
  have hl : lv_has ls 6 [(0, .ref (za z 0)), (1, .int x), (2, .int y), (3, .int v), (4, .ref (za z 59))] := hl
  refine lv_aload hx hb dL_build_0 (lv_at hl 4 rfl) ?_
  refine lv_iconst (v := 0) hx hb dL_build_2 (by decide) ?_
  refine lv_aload_n hx hb dL_build_3 rfl (lv_at hl 0 rfl) ?_
  refine lv_iload_n hx hb dL_build_4 rfl (lv_at hl 1 rfl) ?_
  refine lv_iload_n hx hb dL_build_5 rfl (lv_at hl 2 rfl) ?_
  refine lv_iload_n hx hb dL_build_6 rfl (lv_at hl 3 rfl) ?_
  refine H_catch C0 hK hT h (c_X1_build_no l hlt z σ S x y v hno) (cwV 3 hts gL_build_X1_build rfl rfl rfl (by decide +kernel) ⟨Nat.le_of_ble_eq_true rfl, Nat.le_of_ble_eq_true rfl⟩) rfl hl.1 (rest := [.int 0, .ref (za z 59)]) rfl (Nat.le_of_ble_eq_true rfl) ⟨Nat.le_of_ble_eq_true rfl, Nat.le_of_ble_eq_true rfl⟩ dL_build_7 [] ⟨0, 12, 15, 13⟩ [⟨0, 12, 19, 15⟩] htab (fun q hq => by cases hq) (by decide) (by decide) (name := eA) (hts (.classLink RL 13 eA) (by decide +kernel)) hK.2.2.2.2.2.2.2.1.1 (fun q9 H locs h => ?_)
  refine lv_astore (lv' := [(5, .ref q9), (0, .ref (za z 0)), (1, .int x), (2, .int y), (3, .int v), (4, .ref (za z 59))]) hx hb dL_build_15 hl (by decide) rfl (fun ls hl => ?_)
  refine lv_iconst (v := 1) hx hb dL_build_17 (by decide) ?_
  exact vx_ret (G_iret C0 hK h ⟨rfl, rfl⟩ (Nat.le_of_ble_eq_true rfl) (Nat.le_of_ble_eq_true rfl) dL_build_18)
set_option maxHeartbeats 4000000 in
set_option maxRecDepth 100000 in
theorem c_L_build_no2 (l : Launch) (hlt : l.stackTraces = false) (z : QZ) (σ : Nat → QLs) (S : QLs) (M : QMs) (f : Nat → Int64) (hk : LOk S) (ht : qt S = 10) (x y v : Int32) (h9 : (0 ≤ x ∧ x ≤ 99) ∧ (0 ≤ y ∧ y ≤ 20) ∧ (0 ≤ v ∧ v ≤ 20)) : HC l yL_build wsL_build ({ frames := 7, cells := 1, slots := 6, locals := 106 } : Room) z [.ref (za z 0), .int x, .int y, .int v, .ref (za z 59)] 1 6 (va_up σ 0 S, M, f) (fun r u => r = 2 ∧ u = (va_up σ 0 S, M, f)) := by
  intro ct sz hn hq hat
  refine qh_entry (cc := cL_build) (maxL := 6) (ret := (some .int)) (hh := [(0, 12, 15, 13), (0, 12, 19, 15)]) (by decide) rfl (Nat.le_of_ble_eq_true rfl) hn hq hat ?_
  intro p e s m below meth c ls C0 hK hT htab hsz h hl
  subst hsz
  obtain ⟨hx, hb, hr, hml, hown, hts, hlocks⟩ := id C0
  have hl : lv_has ls 6 [(0, .ref (za z 0)), (1, .int x), (2, .int y), (3, .int v), (4, .ref (za z 59))] := hl
  refine lv_aload hx hb dL_build_0 (lv_at hl 4 rfl) ?_
  refine lv_iconst (v := 0) hx hb dL_build_2 (by decide) ?_
  refine lv_aload_n hx hb dL_build_3 rfl (lv_at hl 0 rfl) ?_
  refine lv_iload_n hx hb dL_build_4 rfl (lv_at hl 1 rfl) ?_
  refine lv_iload_n hx hb dL_build_5 rfl (lv_at hl 2 rfl) ?_
  refine lv_iload_n hx hb dL_build_6 rfl (lv_at hl 3 rfl) ?_
  refine H_catch C0 hK hT h (c_X1_build_no2 l hlt z σ S hk ht x y v h9) (cwV 3 hts gL_build_X1_build rfl rfl rfl (by decide +kernel) ⟨Nat.le_of_ble_eq_true rfl, Nat.le_of_ble_eq_true rfl⟩) rfl hl.1 (rest := [.int 0, .ref (za z 59)]) rfl (Nat.le_of_ble_eq_true rfl) ⟨Nat.le_of_ble_eq_true rfl, Nat.le_of_ble_eq_true rfl⟩ dL_build_7 [⟨0, 12, 15, 13⟩] ⟨0, 12, 19, 15⟩ [] htab (hp_one (Or.inr ⟨(by decide), _, hts (.classLink RL 13 eA) (by decide +kernel), hK.2.2.2.2.2.2.2.2.2.2.1⟩)) (by decide) (by decide) (name := eS) (hts (.classLink RL 15 eS) (by decide +kernel)) hK.2.2.2.2.2.2.2.1.2.1 (fun q9 H locs h => ?_)
  refine lv_astore (lv' := [(5, .ref q9), (0, .ref (za z 0)), (1, .int x), (2, .int y), (3, .int v), (4, .ref (za z 59))]) hx hb dL_build_19 hl (by decide) rfl (fun ls hl => ?_)
  refine lv_iconst (v := 2) hx hb dL_build_21 (by decide) ?_
  exact vx_ret (G_iret C0 hK h ⟨rfl, rfl⟩ (Nat.le_of_ble_eq_true rfl) (Nat.le_of_ble_eq_true rfl) dL_build_22)
set_option maxHeartbeats 4000000 in
set_option maxRecDepth 100000 in
theorem c_L_lay_ok (l : Launch) (hlt : l.stackTraces = false) (z : QZ) (σ : Nat → QLs) (S : QLs) (M : QMs) (f : Nat → Int64) (hk : LOk S) (i : Nat) (hi : i < qt S) (j : Nat) (hj : j < qt S) (hp9 : qp S < 14) (hne : i ≠ j) (x y : Int32) (h9 : (1 ≤ x ∧ x ≤ 20) ∧ (0 ≤ y ∧ y ≤ 60)) : HC l yL_lay wsL_lay ({ frames := 3, cells := 1, slots := 6, locals := 66 } : Room) z [.ref (za z 0), .int (nI i), .int (nI j), .int x, .int y, .ref (za z 59)] 1 6 (va_up σ 0 S, M, f) (fun r u => r = 0 ∧ u = (va_up σ 0 (addP S (nI i) (nI j) x y), M, vp_updL f 0 (nI (qp S)).toInt64)) := by
  intro ct sz hn hq hat
  refine qh_entry (cc := cL_lay) (maxL := 7) (ret := (some .int)) (hh := [(0, 14, 17, 21), (0, 14, 21, 13), (0, 14, 25, 15)]) (by decide) rfl (Nat.le_of_ble_eq_true rfl) hn hq hat ?_
  intro p e s m below meth c ls C0 hK hT htab hsz h hl
  subst hsz
  obtain ⟨hx, hb, hr, hml, hown, hts, hlocks⟩ := id C0
  have hl : lv_has ls 7 [(0, .ref (za z 0)), (1, .int (nI i)), (2, .int (nI j)), (3, .int x), (4, .int y), (5, .ref (za z 59))] := hl
  refine lv_aload hx hb dL_lay_0 (lv_at hl 5 rfl) ?_
  refine lv_iconst (v := 0) hx hb dL_lay_2 (by decide) ?_
  refine lv_aload_n hx hb dL_lay_3 rfl (lv_at hl 0 rfl) ?_
  refine lv_iload_n hx hb dL_lay_4 rfl (lv_at hl 1 rfl) ?_
  refine lv_iload_n hx hb dL_lay_5 rfl (lv_at hl 2 rfl) ?_
  refine lv_iload_n hx hb dL_lay_6 rfl (lv_at hl 3 rfl) ?_
  refine lv_iload hx hb dL_lay_7 (lv_at hl 4 rfl) ?_
  refine G_callVi C0 hK h (c_X1_lay_ok l z σ S hk i hi j hj hp9 hne x y h9) (fun _ h => h.1) (fun u => (u, M, f)) (fun ct ct2 u hA hX hF => hA.X hX hF) (Nat.le_refl _) (by decide) (cwV 4 hts gL_lay_X1_lay rfl rfl rfl (by decide +kernel) ⟨Nat.le_of_ble_eq_true rfl, Nat.le_of_ble_eq_true rfl⟩) (k := 0) (ci := 1) (by omega) (fun ct hA => hA.1.1) rfl rfl rfl hl.1 (rest := [.int 0, .ref (za z 59)]) rfl (Nat.le_of_ble_eq_true rfl) ⟨Nat.le_of_ble_eq_true rfl, Nat.le_of_ble_eq_true rfl⟩ dL_lay_9 (fun r u H locs hp h => ?_)
  obtain ⟨rfl, rfl⟩ := hp
  refine lv_i2l hx hb dL_lay_12 rfl ?_
  refine G_last C0 hK h (k := 59) (by omega) (fun ct hA => hA.2.2) (j := 0) rfl (by decide) (by decide) (fun ct hA => hA.F) dL_lay_13 (fun H locs h => ?_)
  refine lv_goto (tgt := 29) hx hb dL_lay_14 (by decide) ?_
  refine lv_iconst (v := 0) hx hb dL_lay_29 (by decide) ?_
  exact vx_ret (G_iret C0 hK h ⟨rfl, rfl⟩ (Nat.le_of_ble_eq_true rfl) (Nat.le_of_ble_eq_true rfl) dL_lay_30)
set_option maxHeartbeats 4000000 in
set_option maxRecDepth 100000 in
theorem c_L_lay_no (l : Launch) (hlt : l.stackTraces = false) (z : QZ) (σ : Nat → QLs) (S : QLs) (M : QMs) (f : Nat → Int64) (hk : LOk S) (x y v w : Int32) (hno : ¬ qin x (qt S)) : HC l yL_lay wsL_lay ({ frames := 9, cells := 1, slots := 6, locals := 148 } : Room) z [.ref (za z 0), .int x, .int y, .int v, .int w, .ref (za z 59)] 1 6 (va_up σ 0 S, M, f) (fun r u => r = 1 ∧ u = (va_up σ 0 S, M, f)) := by
  intro ct sz hn hq hat
  refine qh_entry (cc := cL_lay) (maxL := 7) (ret := (some .int)) (hh := [(0, 14, 17, 21), (0, 14, 21, 13), (0, 14, 25, 15)]) (by decide) rfl (Nat.le_of_ble_eq_true rfl) hn hq hat ?_
  intro p e s m below meth c ls C0 hK hT htab hsz h hl
  subst hsz
  obtain ⟨hx, hb, hr, hml, hown, hts, hlocks⟩ := id C0
  have hl : lv_has ls 7 [(0, .ref (za z 0)), (1, .int x), (2, .int y), (3, .int v), (4, .int w), (5, .ref (za z 59))] := hl
  refine lv_aload hx hb dL_lay_0 (lv_at hl 5 rfl) ?_
  refine lv_iconst (v := 0) hx hb dL_lay_2 (by decide) ?_
  refine lv_aload_n hx hb dL_lay_3 rfl (lv_at hl 0 rfl) ?_
  refine lv_iload_n hx hb dL_lay_4 rfl (lv_at hl 1 rfl) ?_
  refine lv_iload_n hx hb dL_lay_5 rfl (lv_at hl 2 rfl) ?_
  refine lv_iload_n hx hb dL_lay_6 rfl (lv_at hl 3 rfl) ?_
  refine lv_iload hx hb dL_lay_7 (lv_at hl 4 rfl) ?_
  refine H_catch C0 hK hT h (c_X1_lay_no l hlt z σ S hk x y v w hno) (cwV 4 hts gL_lay_X1_lay rfl rfl rfl (by decide +kernel) ⟨Nat.le_of_ble_eq_true rfl, Nat.le_of_ble_eq_true rfl⟩) rfl hl.1 (rest := [.int 0, .ref (za z 59)]) rfl (Nat.le_of_ble_eq_true rfl) ⟨Nat.le_of_ble_eq_true rfl, Nat.le_of_ble_eq_true rfl⟩ dL_lay_9 [] ⟨0, 14, 17, 21⟩ [⟨0, 14, 21, 13⟩, ⟨0, 14, 25, 15⟩] htab (fun q hq => by cases hq) (by decide) (by decide) (name := eB) (hts (.classLink RL 21 eB) (by decide +kernel)) hK.2.2.2.2.2.2.2.1.2.2 (fun q9 H locs h => ?_)
  refine lv_astore (lv' := [(6, .ref q9), (0, .ref (za z 0)), (1, .int x), (2, .int y), (3, .int v), (4, .int w), (5, .ref (za z 59))]) hx hb dL_lay_17 hl (by decide) rfl (fun ls hl => ?_)
  refine lv_iconst (v := 1) hx hb dL_lay_19 (by decide) ?_
  exact vx_ret (G_iret C0 hK h ⟨rfl, rfl⟩ (Nat.le_of_ble_eq_true rfl) (Nat.le_of_ble_eq_true rfl) dL_lay_20)
set_option maxHeartbeats 4000000 in
set_option maxRecDepth 100000 in
theorem c_L_lay_no1 (l : Launch) (hlt : l.stackTraces = false) (z : QZ) (σ : Nat → QLs) (S : QLs) (M : QMs) (f : Nat → Int64) (hk : LOk S) (i : Nat) (hi : i < qt S) (y v w : Int32) (hno : ¬ qin y (qt S)) : HC l yL_lay wsL_lay ({ frames := 9, cells := 1, slots := 6, locals := 148 } : Room) z [.ref (za z 0), .int (nI i), .int y, .int v, .int w, .ref (za z 59)] 1 6 (va_up σ 0 S, M, f) (fun r u => r = 1 ∧ u = (va_up σ 0 S, M, f)) := by
  intro ct sz hn hq hat
  refine qh_entry (cc := cL_lay) (maxL := 7) (ret := (some .int)) (hh := [(0, 14, 17, 21), (0, 14, 21, 13), (0, 14, 25, 15)]) (by decide) rfl (Nat.le_of_ble_eq_true rfl) hn hq hat ?_
  intro p e s m below meth c ls C0 hK hT htab hsz h hl
  subst hsz
  obtain ⟨hx, hb, hr, hml, hown, hts, hlocks⟩ := id C0
  have hl : lv_has ls 7 [(0, .ref (za z 0)), (1, .int (nI i)), (2, .int y), (3, .int v), (4, .int w), (5, .ref (za z 59))] := hl
  refine lv_aload hx hb dL_lay_0 (lv_at hl 5 rfl) ?_
  refine lv_iconst (v := 0) hx hb dL_lay_2 (by decide) ?_
  refine lv_aload_n hx hb dL_lay_3 rfl (lv_at hl 0 rfl) ?_
  refine lv_iload_n hx hb dL_lay_4 rfl (lv_at hl 1 rfl) ?_
  refine lv_iload_n hx hb dL_lay_5 rfl (lv_at hl 2 rfl) ?_
  refine lv_iload_n hx hb dL_lay_6 rfl (lv_at hl 3 rfl) ?_
  refine lv_iload hx hb dL_lay_7 (lv_at hl 4 rfl) ?_
  refine H_catch C0 hK hT h (c_X1_lay_no1 l hlt z σ S hk i hi y v w hno) (cwV 4 hts gL_lay_X1_lay rfl rfl rfl (by decide +kernel) ⟨Nat.le_of_ble_eq_true rfl, Nat.le_of_ble_eq_true rfl⟩) rfl hl.1 (rest := [.int 0, .ref (za z 59)]) rfl (Nat.le_of_ble_eq_true rfl) ⟨Nat.le_of_ble_eq_true rfl, Nat.le_of_ble_eq_true rfl⟩ dL_lay_9 [] ⟨0, 14, 17, 21⟩ [⟨0, 14, 21, 13⟩, ⟨0, 14, 25, 15⟩] htab (fun q hq => by cases hq) (by decide) (by decide) (name := eB) (hts (.classLink RL 21 eB) (by decide +kernel)) hK.2.2.2.2.2.2.2.1.2.2 (fun q9 H locs h => ?_)
  refine lv_astore (lv' := [(6, .ref q9), (0, .ref (za z 0)), (1, .int (nI i)), (2, .int y), (3, .int v), (4, .int w), (5, .ref (za z 59))]) hx hb dL_lay_17 hl (by decide) rfl (fun ls hl => ?_)
  refine lv_iconst (v := 1) hx hb dL_lay_19 (by decide) ?_
  exact vx_ret (G_iret C0 hK h ⟨rfl, rfl⟩ (Nat.le_of_ble_eq_true rfl) (Nat.le_of_ble_eq_true rfl) dL_lay_20)
set_option maxHeartbeats 4000000 in
set_option maxRecDepth 100000 in
theorem c_L_lay_no2 (l : Launch) (hlt : l.stackTraces = false) (z : QZ) (σ : Nat → QLs) (S : QLs) (M : QMs) (f : Nat → Int64) (hk : LOk S) (i : Nat) (hi : i < qt S) (j : Nat) (hj : j < qt S) (x y : Int32) (hno : ¬ (i ≠ j ∧ (1 ≤ x ∧ x ≤ 20) ∧ (0 ≤ y ∧ y ≤ 60))) : HC l yL_lay wsL_lay ({ frames := 8, cells := 1, slots := 6, locals := 127 } : Room) z [.ref (za z 0), .int (nI i), .int (nI j), .int x, .int y, .ref (za z 59)] 1 6 (va_up σ 0 S, M, f) (fun r u => r = 2 ∧ u = (va_up σ 0 S, M, f)) := by
  intro ct sz hn hq hat
  refine qh_entry (cc := cL_lay) (maxL := 7) (ret := (some .int)) (hh := [(0, 14, 17, 21), (0, 14, 21, 13), (0, 14, 25, 15)]) (by decide) rfl (Nat.le_of_ble_eq_true rfl) hn hq hat ?_
  intro p e s m below meth c ls C0 hK hT htab hsz h hl
  subst hsz
  obtain ⟨hx, hb, hr, hml, hown, hts, hlocks⟩ := id C0
  have hl : lv_has ls 7 [(0, .ref (za z 0)), (1, .int (nI i)), (2, .int (nI j)), (3, .int x), (4, .int y), (5, .ref (za z 59))] := hl
  refine lv_aload hx hb dL_lay_0 (lv_at hl 5 rfl) ?_
  refine lv_iconst (v := 0) hx hb dL_lay_2 (by decide) ?_
  refine lv_aload_n hx hb dL_lay_3 rfl (lv_at hl 0 rfl) ?_
  refine lv_iload_n hx hb dL_lay_4 rfl (lv_at hl 1 rfl) ?_
  refine lv_iload_n hx hb dL_lay_5 rfl (lv_at hl 2 rfl) ?_
  refine lv_iload_n hx hb dL_lay_6 rfl (lv_at hl 3 rfl) ?_
  refine lv_iload hx hb dL_lay_7 (lv_at hl 4 rfl) ?_
  refine H_catch C0 hK hT h (c_X1_lay_no2 l hlt z σ S hk i hi j hj x y hno) (cwV 4 hts gL_lay_X1_lay rfl rfl rfl (by decide +kernel) ⟨Nat.le_of_ble_eq_true rfl, Nat.le_of_ble_eq_true rfl⟩) rfl hl.1 (rest := [.int 0, .ref (za z 59)]) rfl (Nat.le_of_ble_eq_true rfl) ⟨Nat.le_of_ble_eq_true rfl, Nat.le_of_ble_eq_true rfl⟩ dL_lay_9 [⟨0, 14, 17, 21⟩] ⟨0, 14, 21, 13⟩ [⟨0, 14, 25, 15⟩] htab (hp_one (Or.inr ⟨(by decide), _, hts (.classLink RL 21 eB) (by decide +kernel), hK.2.2.2.2.2.2.2.2.1⟩)) (by decide) (by decide) (name := eA) (hts (.classLink RL 13 eA) (by decide +kernel)) hK.2.2.2.2.2.2.2.1.1 (fun q9 H locs h => ?_)
  refine lv_astore (lv' := [(6, .ref q9), (0, .ref (za z 0)), (1, .int (nI i)), (2, .int (nI j)), (3, .int x), (4, .int y), (5, .ref (za z 59))]) hx hb dL_lay_21 hl (by decide) rfl (fun ls hl => ?_)
  refine lv_iconst (v := 2) hx hb dL_lay_23 (by decide) ?_
  exact vx_ret (G_iret C0 hK h ⟨rfl, rfl⟩ (Nat.le_of_ble_eq_true rfl) (Nat.le_of_ble_eq_true rfl) dL_lay_24)
set_option maxHeartbeats 4000000 in
set_option maxRecDepth 100000 in
theorem c_L_lay_no3 (l : Launch) (hlt : l.stackTraces = false) (z : QZ) (σ : Nat → QLs) (S : QLs) (M : QMs) (f : Nat → Int64) (hk : LOk S) (i : Nat) (hi : i < qt S) (j : Nat) (hj : j < qt S) (hp9 : qp S = 14) (hne : i ≠ j) (x y : Int32) (h9 : (1 ≤ x ∧ x ≤ 20) ∧ (0 ≤ y ∧ y ≤ 60)) : HC l yL_lay wsL_lay ({ frames := 7, cells := 1, slots := 6, locals := 107 } : Room) z [.ref (za z 0), .int (nI i), .int (nI j), .int x, .int y, .ref (za z 59)] 1 6 (va_up σ 0 S, M, f) (fun r u => r = 3 ∧ u = (va_up σ 0 S, M, f)) := by
  intro ct sz hn hq hat
  refine qh_entry (cc := cL_lay) (maxL := 7) (ret := (some .int)) (hh := [(0, 14, 17, 21), (0, 14, 21, 13), (0, 14, 25, 15)]) (by decide) rfl (Nat.le_of_ble_eq_true rfl) hn hq hat ?_
  intro p e s m below meth c ls C0 hK hT htab hsz h hl
  subst hsz
  obtain ⟨hx, hb, hr, hml, hown, hts, hlocks⟩ := id C0
  have hl : lv_has ls 7 [(0, .ref (za z 0)), (1, .int (nI i)), (2, .int (nI j)), (3, .int x), (4, .int y), (5, .ref (za z 59))] := hl
  refine lv_aload hx hb dL_lay_0 (lv_at hl 5 rfl) ?_
  refine lv_iconst (v := 0) hx hb dL_lay_2 (by decide) ?_
  refine lv_aload_n hx hb dL_lay_3 rfl (lv_at hl 0 rfl) ?_
  refine lv_iload_n hx hb dL_lay_4 rfl (lv_at hl 1 rfl) ?_
  refine lv_iload_n hx hb dL_lay_5 rfl (lv_at hl 2 rfl) ?_
  refine lv_iload_n hx hb dL_lay_6 rfl (lv_at hl 3 rfl) ?_
  refine lv_iload hx hb dL_lay_7 (lv_at hl 4 rfl) ?_
  refine H_catch C0 hK hT h (c_X1_lay_no3 l hlt z σ S hk i hi j hj hp9 hne x y h9) (cwV 4 hts gL_lay_X1_lay rfl rfl rfl (by decide +kernel) ⟨Nat.le_of_ble_eq_true rfl, Nat.le_of_ble_eq_true rfl⟩) rfl hl.1 (rest := [.int 0, .ref (za z 59)]) rfl (Nat.le_of_ble_eq_true rfl) ⟨Nat.le_of_ble_eq_true rfl, Nat.le_of_ble_eq_true rfl⟩ dL_lay_9 [⟨0, 14, 17, 21⟩, ⟨0, 14, 21, 13⟩] ⟨0, 14, 25, 15⟩ [] htab (hp_two (Or.inr ⟨(by decide), _, hts (.classLink RL 21 eB) (by decide +kernel), hK.2.2.2.2.2.2.2.2.2.1⟩) (Or.inr ⟨(by decide), _, hts (.classLink RL 13 eA) (by decide +kernel), hK.2.2.2.2.2.2.2.2.2.2.1⟩)) (by decide) (by decide) (name := eS) (hts (.classLink RL 15 eS) (by decide +kernel)) hK.2.2.2.2.2.2.2.1.2.1 (fun q9 H locs h => ?_)
  refine lv_astore (lv' := [(6, .ref q9), (0, .ref (za z 0)), (1, .int (nI i)), (2, .int (nI j)), (3, .int x), (4, .int y), (5, .ref (za z 59))]) hx hb dL_lay_25 hl (by decide) rfl (fun ls hl => ?_)
  refine lv_iconst (v := 3) hx hb dL_lay_27 (by decide) ?_
  exact vx_ret (G_iret C0 hK h ⟨rfl, rfl⟩ (Nat.le_of_ble_eq_true rfl) (Nat.le_of_ble_eq_true rfl) dL_lay_28)
set_option maxHeartbeats 4000000 in
set_option maxRecDepth 100000 in
theorem c_L_set_ok (l : Launch) (hlt : l.stackTraces = false) (z : QZ) (σ : Nat → QLs) (S : QLs) (M : QMs) (f : Nat → Int64) (hk : LOk S) (i : Nat) (hi : i < qt S) (x y : Int32) (h9 : (0 ≤ x ∧ x ≤ 20) ∧ (0 ≤ y ∧ y ≤ 20)) : HC l yL_set wsL_set ({ frames := 3, cells := 1, slots := 6, locals := 68 } : Room) z [.ref (za z 0), .int (nI i), .int x, .int y, .ref (za z 59)] 1 6 (va_up σ 0 S, M, f) (fun r u => r = 0 ∧ u = (va_up σ 0 (sT (sT S i (upd (qT S i) 1 x)) i (upd (qT (sT S i (upd (qT S i) 1 x)) i) 2 y)), M, vp_updL f 0 (100 * qT S i 1 + qT S i 2).toInt64)) := by
  intro ct sz hn hq hat
  refine qh_entry (cc := cL_set) (maxL := 6) (ret := (some .int)) (hh := [(0, 12, 15, 21), (0, 12, 19, 13)]) (by decide) rfl (Nat.le_of_ble_eq_true rfl) hn hq hat ?_
  intro p e s m below meth c ls C0 hK hT htab hsz h hl
  subst hsz
  obtain ⟨hx, hb, hr, hml, hown, hts, hlocks⟩ := id C0
  have hl : lv_has ls 6 [(0, .ref (za z 0)), (1, .int (nI i)), (2, .int x), (3, .int y), (4, .ref (za z 59))] := hl
  refine lv_aload hx hb dL_set_0 (lv_at hl 4 rfl) ?_
  refine lv_iconst (v := 0) hx hb dL_set_2 (by decide) ?_
  refine lv_aload_n hx hb dL_set_3 rfl (lv_at hl 0 rfl) ?_
  refine lv_iload_n hx hb dL_set_4 rfl (lv_at hl 1 rfl) ?_
  refine lv_iload_n hx hb dL_set_5 rfl (lv_at hl 2 rfl) ?_
  refine lv_iload_n hx hb dL_set_6 rfl (lv_at hl 3 rfl) ?_
  refine G_callVi C0 hK h (c_X1_set_ok l z σ S hk i hi x y h9) (fun _ h => h.1) (fun u => (u, M, f)) (fun ct ct2 u hA hX hF => hA.X hX hF) (Nat.le_refl _) (by decide) (cwV 3 hts gL_set_X1_set rfl rfl rfl (by decide +kernel) ⟨Nat.le_of_ble_eq_true rfl, Nat.le_of_ble_eq_true rfl⟩) (k := 0) (ci := 1) (by omega) (fun ct hA => hA.1.1) rfl rfl rfl hl.1 (rest := [.int 0, .ref (za z 59)]) rfl (Nat.le_of_ble_eq_true rfl) ⟨Nat.le_of_ble_eq_true rfl, Nat.le_of_ble_eq_true rfl⟩ dL_set_7 (fun r u H locs hp h => ?_)
  obtain ⟨rfl, rfl⟩ := hp
  refine lv_i2l hx hb dL_set_10 rfl ?_
  refine G_last C0 hK h (k := 59) (by omega) (fun ct hA => hA.2.2) (j := 0) rfl (by decide) (by decide) (fun ct hA => hA.F) dL_set_11 (fun H locs h => ?_)
  refine lv_goto (tgt := 23) hx hb dL_set_12 (by decide) ?_
  refine lv_iconst (v := 0) hx hb dL_set_23 (by decide) ?_
  exact vx_ret (G_iret C0 hK h ⟨rfl, rfl⟩ (Nat.le_of_ble_eq_true rfl) (Nat.le_of_ble_eq_true rfl) dL_set_24)
set_option maxHeartbeats 4000000 in
set_option maxRecDepth 100000 in
theorem c_L_set_no (l : Launch) (hlt : l.stackTraces = false) (z : QZ) (σ : Nat → QLs) (S : QLs) (M : QMs) (f : Nat → Int64) (hk : LOk S) (x y v : Int32) (hno : ¬ qin x (qt S)) : HC l yL_set wsL_set ({ frames := 9, cells := 1, slots := 6, locals := 148 } : Room) z [.ref (za z 0), .int x, .int y, .int v, .ref (za z 59)] 1 6 (va_up σ 0 S, M, f) (fun r u => r = 1 ∧ u = (va_up σ 0 S, M, f)) := by
  intro ct sz hn hq hat
  refine qh_entry (cc := cL_set) (maxL := 6) (ret := (some .int)) (hh := [(0, 12, 15, 21), (0, 12, 19, 13)]) (by decide) rfl (Nat.le_of_ble_eq_true rfl) hn hq hat ?_
  intro p e s m below meth c ls C0 hK hT htab hsz h hl
  subst hsz
  obtain ⟨hx, hb, hr, hml, hown, hts, hlocks⟩ := id C0
  have hl : lv_has ls 6 [(0, .ref (za z 0)), (1, .int x), (2, .int y), (3, .int v), (4, .ref (za z 59))] := hl
  refine lv_aload hx hb dL_set_0 (lv_at hl 4 rfl) ?_
  refine lv_iconst (v := 0) hx hb dL_set_2 (by decide) ?_
  refine lv_aload_n hx hb dL_set_3 rfl (lv_at hl 0 rfl) ?_
  refine lv_iload_n hx hb dL_set_4 rfl (lv_at hl 1 rfl) ?_
  refine lv_iload_n hx hb dL_set_5 rfl (lv_at hl 2 rfl) ?_
  refine lv_iload_n hx hb dL_set_6 rfl (lv_at hl 3 rfl) ?_
  refine H_catch C0 hK hT h (c_X1_set_no l hlt z σ S hk x y v hno) (cwV 3 hts gL_set_X1_set rfl rfl rfl (by decide +kernel) ⟨Nat.le_of_ble_eq_true rfl, Nat.le_of_ble_eq_true rfl⟩) rfl hl.1 (rest := [.int 0, .ref (za z 59)]) rfl (Nat.le_of_ble_eq_true rfl) ⟨Nat.le_of_ble_eq_true rfl, Nat.le_of_ble_eq_true rfl⟩ dL_set_7 [] ⟨0, 12, 15, 21⟩ [⟨0, 12, 19, 13⟩] htab (fun q hq => by cases hq) (by decide) (by decide) (name := eB) (hts (.classLink RL 21 eB) (by decide +kernel)) hK.2.2.2.2.2.2.2.1.2.2 (fun q9 H locs h => ?_)
  refine lv_astore (lv' := [(5, .ref q9), (0, .ref (za z 0)), (1, .int x), (2, .int y), (3, .int v), (4, .ref (za z 59))]) hx hb dL_set_15 hl (by decide) rfl (fun ls hl => ?_)
  refine lv_iconst (v := 1) hx hb dL_set_17 (by decide) ?_
  exact vx_ret (G_iret C0 hK h ⟨rfl, rfl⟩ (Nat.le_of_ble_eq_true rfl) (Nat.le_of_ble_eq_true rfl) dL_set_18)
set_option maxHeartbeats 4000000 in
set_option maxRecDepth 100000 in
theorem c_L_set_no2 (l : Launch) (hlt : l.stackTraces = false) (z : QZ) (σ : Nat → QLs) (S : QLs) (M : QMs) (f : Nat → Int64) (hk : LOk S) (i : Nat) (hi : i < qt S) (x y : Int32) (hno : ¬ ((0 ≤ x ∧ x ≤ 20) ∧ (0 ≤ y ∧ y ≤ 20))) : HC l yL_set wsL_set ({ frames := 8, cells := 1, slots := 6, locals := 127 } : Room) z [.ref (za z 0), .int (nI i), .int x, .int y, .ref (za z 59)] 1 6 (va_up σ 0 S, M, f) (fun r u => r = 2 ∧ u = (va_up σ 0 S, M, f)) := by
  intro ct sz hn hq hat
  refine qh_entry (cc := cL_set) (maxL := 6) (ret := (some .int)) (hh := [(0, 12, 15, 21), (0, 12, 19, 13)]) (by decide) rfl (Nat.le_of_ble_eq_true rfl) hn hq hat ?_
  intro p e s m below meth c ls C0 hK hT htab hsz h hl
  subst hsz
  obtain ⟨hx, hb, hr, hml, hown, hts, hlocks⟩ := id C0
  have hl : lv_has ls 6 [(0, .ref (za z 0)), (1, .int (nI i)), (2, .int x), (3, .int y), (4, .ref (za z 59))] := hl
  refine lv_aload hx hb dL_set_0 (lv_at hl 4 rfl) ?_
  refine lv_iconst (v := 0) hx hb dL_set_2 (by decide) ?_
  refine lv_aload_n hx hb dL_set_3 rfl (lv_at hl 0 rfl) ?_
  refine lv_iload_n hx hb dL_set_4 rfl (lv_at hl 1 rfl) ?_
  refine lv_iload_n hx hb dL_set_5 rfl (lv_at hl 2 rfl) ?_
  refine lv_iload_n hx hb dL_set_6 rfl (lv_at hl 3 rfl) ?_
  refine H_catch C0 hK hT h (c_X1_set_no2 l hlt z σ S hk i hi x y hno) (cwV 3 hts gL_set_X1_set rfl rfl rfl (by decide +kernel) ⟨Nat.le_of_ble_eq_true rfl, Nat.le_of_ble_eq_true rfl⟩) rfl hl.1 (rest := [.int 0, .ref (za z 59)]) rfl (Nat.le_of_ble_eq_true rfl) ⟨Nat.le_of_ble_eq_true rfl, Nat.le_of_ble_eq_true rfl⟩ dL_set_7 [⟨0, 12, 15, 21⟩] ⟨0, 12, 19, 13⟩ [] htab (hp_one (Or.inr ⟨(by decide), _, hts (.classLink RL 21 eB) (by decide +kernel), hK.2.2.2.2.2.2.2.2.1⟩)) (by decide) (by decide) (name := eA) (hts (.classLink RL 13 eA) (by decide +kernel)) hK.2.2.2.2.2.2.2.1.1 (fun q9 H locs h => ?_)
  refine lv_astore (lv' := [(5, .ref q9), (0, .ref (za z 0)), (1, .int (nI i)), (2, .int x), (3, .int y), (4, .ref (za z 59))]) hx hb dL_set_19 hl (by decide) rfl (fun ls hl => ?_)
  refine lv_iconst (v := 2) hx hb dL_set_21 (by decide) ?_
  exact vx_ret (G_iret C0 hK h ⟨rfl, rfl⟩ (Nat.le_of_ble_eq_true rfl) (Nat.le_of_ble_eq_true rfl) dL_set_22)
set_option maxHeartbeats 4000000 in
set_option maxRecDepth 100000 in
theorem c_L_flush_ok (l : Launch) (hlt : l.stackTraces = false) (z : QZ) (σ : Nat → QLs) (S : QLs) (M : QMs) (f : Nat → Int64) (hk : LOk S) (i : Nat) (hi : i < qt S) : HC l yL_flush wsL_flush ({ frames := 3, cells := 1, slots := 6, locals := 64 } : Room) z [.ref (za z 0), .int (nI i), .ref (za z 59)] 1 6 (va_up σ 0 S, M, f) (fun r u => r = 0 ∧ u = (va_up σ 0 (sT (sT S i (upd (qT S i) 4 0)) i (upd (qT (sT S i (upd (qT S i) 4 0)) i) 3 (qT (sT S i (upd (qT S i) 4 0)) i 3 / 2))), M, vp_updL f 0 (qT S i 4).toInt64)) := by
  intro ct sz hn hq hat
  refine qh_entry (cc := cL_flush) (maxL := 4) (ret := (some .int)) (hh := [(0, 9, 12, 21)]) (by decide) rfl (Nat.le_of_ble_eq_true rfl) hn hq hat ?_
  intro p e s m below meth c ls C0 hK hT htab hsz h hl
  subst hsz
  obtain ⟨hx, hb, hr, hml, hown, hts, hlocks⟩ := id C0
  have hl : lv_has ls 4 [(0, .ref (za z 0)), (1, .int (nI i)), (2, .ref (za z 59))] := hl
  refine lv_aload_n hx hb dL_flush_0 rfl (lv_at hl 2 rfl) ?_
  refine lv_iconst (v := 0) hx hb dL_flush_1 (by decide) ?_
  refine lv_aload_n hx hb dL_flush_2 rfl (lv_at hl 0 rfl) ?_
  refine lv_iload_n hx hb dL_flush_3 rfl (lv_at hl 1 rfl) ?_
  refine G_callVi C0 hK h (c_X1_flush_ok l z σ S hk i hi) (fun _ h => h.1) (fun u => (u, M, f)) (fun ct ct2 u hA hX hF => hA.X hX hF) (Nat.le_refl _) (by decide) (cwV 1 hts gL_flush_X1_flush rfl rfl rfl (by decide +kernel) ⟨Nat.le_of_ble_eq_true rfl, Nat.le_of_ble_eq_true rfl⟩) (k := 0) (ci := 1) (by omega) (fun ct hA => hA.1.1) rfl rfl rfl hl.1 (rest := [.int 0, .ref (za z 59)]) rfl (Nat.le_of_ble_eq_true rfl) ⟨Nat.le_of_ble_eq_true rfl, Nat.le_of_ble_eq_true rfl⟩ dL_flush_4 (fun r u H locs hp h => ?_)
  obtain ⟨rfl, rfl⟩ := hp
  refine lv_i2l hx hb dL_flush_7 rfl ?_
  refine G_last C0 hK h (k := 59) (by omega) (fun ct hA => hA.2.2) (j := 0) rfl (by decide) (by decide) (fun ct hA => hA.F) dL_flush_8 (fun H locs h => ?_)
  refine lv_goto (tgt := 15) hx hb dL_flush_9 (by decide) ?_
  refine lv_iconst (v := 0) hx hb dL_flush_15 (by decide) ?_
  exact vx_ret (G_iret C0 hK h ⟨rfl, rfl⟩ (Nat.le_of_ble_eq_true rfl) (Nat.le_of_ble_eq_true rfl) dL_flush_16)
set_option maxHeartbeats 4000000 in
set_option maxRecDepth 100000 in
theorem c_L_flush_no (l : Launch) (hlt : l.stackTraces = false) (z : QZ) (σ : Nat → QLs) (S : QLs) (M : QMs) (f : Nat → Int64) (hk : LOk S) (x : Int32) (hno : ¬ qin x (qt S)) : HC l yL_flush wsL_flush ({ frames := 9, cells := 1, slots := 6, locals := 146 } : Room) z [.ref (za z 0), .int x, .ref (za z 59)] 1 6 (va_up σ 0 S, M, f) (fun r u => r = 1 ∧ u = (va_up σ 0 S, M, f)) := by
  intro ct sz hn hq hat
  refine qh_entry (cc := cL_flush) (maxL := 4) (ret := (some .int)) (hh := [(0, 9, 12, 21)]) (by decide) rfl (Nat.le_of_ble_eq_true rfl) hn hq hat ?_
  intro p e s m below meth c ls C0 hK hT htab hsz h hl
  subst hsz
  obtain ⟨hx, hb, hr, hml, hown, hts, hlocks⟩ := id C0
  have hl : lv_has ls 4 [(0, .ref (za z 0)), (1, .int x), (2, .ref (za z 59))] := hl
  refine lv_aload_n hx hb dL_flush_0 rfl (lv_at hl 2 rfl) ?_
  refine lv_iconst (v := 0) hx hb dL_flush_1 (by decide) ?_
  refine lv_aload_n hx hb dL_flush_2 rfl (lv_at hl 0 rfl) ?_
  refine lv_iload_n hx hb dL_flush_3 rfl (lv_at hl 1 rfl) ?_
  refine H_catch C0 hK hT h (c_X1_flush_no l hlt z σ S hk x hno) (cwV 1 hts gL_flush_X1_flush rfl rfl rfl (by decide +kernel) ⟨Nat.le_of_ble_eq_true rfl, Nat.le_of_ble_eq_true rfl⟩) rfl hl.1 (rest := [.int 0, .ref (za z 59)]) rfl (Nat.le_of_ble_eq_true rfl) ⟨Nat.le_of_ble_eq_true rfl, Nat.le_of_ble_eq_true rfl⟩ dL_flush_4 [] ⟨0, 9, 12, 21⟩ [] htab (fun q hq => by cases hq) (by decide) (by decide) (name := eB) (hts (.classLink RL 21 eB) (by decide +kernel)) hK.2.2.2.2.2.2.2.1.2.2 (fun q9 H locs h => ?_)
  refine lv_astore_n (lv' := [(3, .ref q9), (0, .ref (za z 0)), (1, .int x), (2, .ref (za z 59))]) hx hb dL_flush_12 rfl hl (by decide) rfl (fun ls hl => ?_)
  refine lv_iconst (v := 1) hx hb dL_flush_13 (by decide) ?_
  exact vx_ret (G_iret C0 hK h ⟨rfl, rfl⟩ (Nat.le_of_ble_eq_true rfl) (Nat.le_of_ble_eq_true rfl) dL_flush_14)
set_option maxHeartbeats 4000000 in
set_option maxRecDepth 100000 in
theorem c_L_scrape_ok (l : Launch) (hlt : l.stackTraces = false) (z : QZ) (σ : Nat → QLs) (S : QLs) (M : QMs) (f : Nat → Int64) (hk : LOk S) (i : Nat) (hi : i < qp S) : HC l yL_scrape wsL_scrape ({ frames := 3, cells := 1, slots := 6, locals := 64 } : Room) z [.ref (za z 0), .int (nI i), .ref (za z 59)] 1 6 (va_up σ 0 S, M, f) (fun r u => r = 0 ∧ u = (va_up σ 0 (sP S i (upd (qP S i) 4 0)), M, vp_updL f 0 (qP S i 4).toInt64)) := by
  intro ct sz hn hq hat
  refine qh_entry (cc := cL_scrape) (maxL := 4) (ret := (some .int)) (hh := [(0, 9, 12, 21)]) (by decide) rfl (Nat.le_of_ble_eq_true rfl) hn hq hat ?_
  intro p e s m below meth c ls C0 hK hT htab hsz h hl
  subst hsz
  obtain ⟨hx, hb, hr, hml, hown, hts, hlocks⟩ := id C0
  have hl : lv_has ls 4 [(0, .ref (za z 0)), (1, .int (nI i)), (2, .ref (za z 59))] := hl
  refine lv_aload_n hx hb dL_scrape_0 rfl (lv_at hl 2 rfl) ?_
  refine lv_iconst (v := 0) hx hb dL_scrape_1 (by decide) ?_
  refine lv_aload_n hx hb dL_scrape_2 rfl (lv_at hl 0 rfl) ?_
  refine lv_iload_n hx hb dL_scrape_3 rfl (lv_at hl 1 rfl) ?_
  refine G_callVi C0 hK h (c_X1_scrape_ok l z σ S hk i hi) (fun _ h => h.1) (fun u => (u, M, f)) (fun ct ct2 u hA hX hF => hA.X hX hF) (Nat.le_refl _) (by decide) (cwV 1 hts gL_scrape_X1_scrape rfl rfl rfl (by decide +kernel) ⟨Nat.le_of_ble_eq_true rfl, Nat.le_of_ble_eq_true rfl⟩) (k := 0) (ci := 1) (by omega) (fun ct hA => hA.1.1) rfl rfl rfl hl.1 (rest := [.int 0, .ref (za z 59)]) rfl (Nat.le_of_ble_eq_true rfl) ⟨Nat.le_of_ble_eq_true rfl, Nat.le_of_ble_eq_true rfl⟩ dL_scrape_4 (fun r u H locs hp h => ?_)
  obtain ⟨rfl, rfl⟩ := hp
  refine lv_i2l hx hb dL_scrape_7 rfl ?_
  refine G_last C0 hK h (k := 59) (by omega) (fun ct hA => hA.2.2) (j := 0) rfl (by decide) (by decide) (fun ct hA => hA.F) dL_scrape_8 (fun H locs h => ?_)
  refine lv_goto (tgt := 15) hx hb dL_scrape_9 (by decide) ?_
  refine lv_iconst (v := 0) hx hb dL_scrape_15 (by decide) ?_
  exact vx_ret (G_iret C0 hK h ⟨rfl, rfl⟩ (Nat.le_of_ble_eq_true rfl) (Nat.le_of_ble_eq_true rfl) dL_scrape_16)
set_option maxHeartbeats 4000000 in
set_option maxRecDepth 100000 in
theorem c_L_scrape_no (l : Launch) (hlt : l.stackTraces = false) (z : QZ) (σ : Nat → QLs) (S : QLs) (M : QMs) (f : Nat → Int64) (hk : LOk S) (x : Int32) (hno : ¬ qin x (qp S)) : HC l yL_scrape wsL_scrape ({ frames := 9, cells := 1, slots := 6, locals := 146 } : Room) z [.ref (za z 0), .int x, .ref (za z 59)] 1 6 (va_up σ 0 S, M, f) (fun r u => r = 1 ∧ u = (va_up σ 0 S, M, f)) := by
  intro ct sz hn hq hat
  refine qh_entry (cc := cL_scrape) (maxL := 4) (ret := (some .int)) (hh := [(0, 9, 12, 21)]) (by decide) rfl (Nat.le_of_ble_eq_true rfl) hn hq hat ?_
  intro p e s m below meth c ls C0 hK hT htab hsz h hl
  subst hsz
  obtain ⟨hx, hb, hr, hml, hown, hts, hlocks⟩ := id C0
  have hl : lv_has ls 4 [(0, .ref (za z 0)), (1, .int x), (2, .ref (za z 59))] := hl
  refine lv_aload_n hx hb dL_scrape_0 rfl (lv_at hl 2 rfl) ?_
  refine lv_iconst (v := 0) hx hb dL_scrape_1 (by decide) ?_
  refine lv_aload_n hx hb dL_scrape_2 rfl (lv_at hl 0 rfl) ?_
  refine lv_iload_n hx hb dL_scrape_3 rfl (lv_at hl 1 rfl) ?_
  refine H_catch C0 hK hT h (c_X1_scrape_no l hlt z σ S hk x hno) (cwV 1 hts gL_scrape_X1_scrape rfl rfl rfl (by decide +kernel) ⟨Nat.le_of_ble_eq_true rfl, Nat.le_of_ble_eq_true rfl⟩) rfl hl.1 (rest := [.int 0, .ref (za z 59)]) rfl (Nat.le_of_ble_eq_true rfl) ⟨Nat.le_of_ble_eq_true rfl, Nat.le_of_ble_eq_true rfl⟩ dL_scrape_4 [] ⟨0, 9, 12, 21⟩ [] htab (fun q hq => by cases hq) (by decide) (by decide) (name := eB) (hts (.classLink RL 21 eB) (by decide +kernel)) hK.2.2.2.2.2.2.2.1.2.2 (fun q9 H locs h => ?_)
  refine lv_astore_n (lv' := [(3, .ref q9), (0, .ref (za z 0)), (1, .int x), (2, .ref (za z 59))]) hx hb dL_scrape_12 rfl hl (by decide) rfl (fun ls hl => ?_)
  refine lv_iconst (v := 1) hx hb dL_scrape_13 (by decide) ?_
  exact vx_ret (G_iret C0 hK h ⟨rfl, rfl⟩ (Nat.le_of_ble_eq_true rfl) (Nat.le_of_ble_eq_true rfl) dL_scrape_14)
set_option maxHeartbeats 4000000 in
set_option maxRecDepth 100000 in
theorem c_L_steal_ok (l : Launch) (hlt : l.stackTraces = false) (z : QZ) (σ : Nat → QLs) (S : QLs) (M : QMs) (f : Nat → Int64) (hk : LOk S) (i : Nat) (hi : i < qp S) (x : Int32) (h9 : 0 ≤ x ∧ x ≤ 9) : HC l yL_steal wsL_steal ({ frames := 3, cells := 1, slots := 6, locals := 65 } : Room) z [.ref (za z 0), .int (nI i), .int x, .ref (za z 59)] 1 6 (va_up σ 0 S, M, f) (fun r u => r = 0 ∧ u = (va_up σ 0 (sP S i (upd (qP S i) 9 x)), M, vp_updL f 0 (qP S i 9).toInt64)) := by
  intro ct sz hn hq hat
  refine qh_entry (cc := cL_steal) (maxL := 5) (ret := (some .int)) (hh := [(0, 10, 13, 21), (0, 10, 17, 13)]) (by decide) rfl (Nat.le_of_ble_eq_true rfl) hn hq hat ?_
  intro p e s m below meth c ls C0 hK hT htab hsz h hl
  subst hsz
  obtain ⟨hx, hb, hr, hml, hown, hts, hlocks⟩ := id C0
  have hl : lv_has ls 5 [(0, .ref (za z 0)), (1, .int (nI i)), (2, .int x), (3, .ref (za z 59))] := hl
  refine lv_aload_n hx hb dL_steal_0 rfl (lv_at hl 3 rfl) ?_
  refine lv_iconst (v := 0) hx hb dL_steal_1 (by decide) ?_
  refine lv_aload_n hx hb dL_steal_2 rfl (lv_at hl 0 rfl) ?_
  refine lv_iload_n hx hb dL_steal_3 rfl (lv_at hl 1 rfl) ?_
  refine lv_iload_n hx hb dL_steal_4 rfl (lv_at hl 2 rfl) ?_
  refine G_callVi C0 hK h (c_X1_steal_ok l z σ S hk i hi x h9) (fun _ h => h.1) (fun u => (u, M, f)) (fun ct ct2 u hA hX hF => hA.X hX hF) (Nat.le_refl _) (by decide) (cwV 2 hts gL_steal_X1_steal rfl rfl rfl (by decide +kernel) ⟨Nat.le_of_ble_eq_true rfl, Nat.le_of_ble_eq_true rfl⟩) (k := 0) (ci := 1) (by omega) (fun ct hA => hA.1.1) rfl rfl rfl hl.1 (rest := [.int 0, .ref (za z 59)]) rfl (Nat.le_of_ble_eq_true rfl) ⟨Nat.le_of_ble_eq_true rfl, Nat.le_of_ble_eq_true rfl⟩ dL_steal_5 (fun r u H locs hp h => ?_)
  obtain ⟨rfl, rfl⟩ := hp
  refine lv_i2l hx hb dL_steal_8 rfl ?_
  refine G_last C0 hK h (k := 59) (by omega) (fun ct hA => hA.2.2) (j := 0) rfl (by decide) (by decide) (fun ct hA => hA.F) dL_steal_9 (fun H locs h => ?_)
  refine lv_goto (tgt := 21) hx hb dL_steal_10 (by decide) ?_
  refine lv_iconst (v := 0) hx hb dL_steal_21 (by decide) ?_
  exact vx_ret (G_iret C0 hK h ⟨rfl, rfl⟩ (Nat.le_of_ble_eq_true rfl) (Nat.le_of_ble_eq_true rfl) dL_steal_22)
set_option maxHeartbeats 4000000 in
set_option maxRecDepth 100000 in
theorem c_L_steal_no (l : Launch) (hlt : l.stackTraces = false) (z : QZ) (σ : Nat → QLs) (S : QLs) (M : QMs) (f : Nat → Int64) (hk : LOk S) (x y : Int32) (hno : ¬ qin x (qp S)) : HC l yL_steal wsL_steal ({ frames := 9, cells := 1, slots := 6, locals := 147 } : Room) z [.ref (za z 0), .int x, .int y, .ref (za z 59)] 1 6 (va_up σ 0 S, M, f) (fun r u => r = 1 ∧ u = (va_up σ 0 S, M, f)) := by
  intro ct sz hn hq hat
  refine qh_entry (cc := cL_steal) (maxL := 5) (ret := (some .int)) (hh := [(0, 10, 13, 21), (0, 10, 17, 13)]) (by decide) rfl (Nat.le_of_ble_eq_true rfl) hn hq hat ?_
  intro p e s m below meth c ls C0 hK hT htab hsz h hl
  subst hsz
  obtain ⟨hx, hb, hr, hml, hown, hts, hlocks⟩ := id C0
  have hl : lv_has ls 5 [(0, .ref (za z 0)), (1, .int x), (2, .int y), (3, .ref (za z 59))] := hl
  refine lv_aload_n hx hb dL_steal_0 rfl (lv_at hl 3 rfl) ?_
  refine lv_iconst (v := 0) hx hb dL_steal_1 (by decide) ?_
  refine lv_aload_n hx hb dL_steal_2 rfl (lv_at hl 0 rfl) ?_
  refine lv_iload_n hx hb dL_steal_3 rfl (lv_at hl 1 rfl) ?_
  refine lv_iload_n hx hb dL_steal_4 rfl (lv_at hl 2 rfl) ?_
  refine H_catch C0 hK hT h (c_X1_steal_no l hlt z σ S hk x y hno) (cwV 2 hts gL_steal_X1_steal rfl rfl rfl (by decide +kernel) ⟨Nat.le_of_ble_eq_true rfl, Nat.le_of_ble_eq_true rfl⟩) rfl hl.1 (rest := [.int 0, .ref (za z 59)]) rfl (Nat.le_of_ble_eq_true rfl) ⟨Nat.le_of_ble_eq_true rfl, Nat.le_of_ble_eq_true rfl⟩ dL_steal_5 [] ⟨0, 10, 13, 21⟩ [⟨0, 10, 17, 13⟩] htab (fun q hq => by cases hq) (by decide) (by decide) (name := eB) (hts (.classLink RL 21 eB) (by decide +kernel)) hK.2.2.2.2.2.2.2.1.2.2 (fun q9 H locs h => ?_)
  refine lv_astore (lv' := [(4, .ref q9), (0, .ref (za z 0)), (1, .int x), (2, .int y), (3, .ref (za z 59))]) hx hb dL_steal_13 hl (by decide) rfl (fun ls hl => ?_)
  refine lv_iconst (v := 1) hx hb dL_steal_15 (by decide) ?_
  exact vx_ret (G_iret C0 hK h ⟨rfl, rfl⟩ (Nat.le_of_ble_eq_true rfl) (Nat.le_of_ble_eq_true rfl) dL_steal_16)
set_option maxHeartbeats 4000000 in
set_option maxRecDepth 100000 in
theorem c_L_steal_no2 (l : Launch) (hlt : l.stackTraces = false) (z : QZ) (σ : Nat → QLs) (S : QLs) (M : QMs) (f : Nat → Int64) (hk : LOk S) (i : Nat) (hi : i < qp S) (x : Int32) (hno : ¬ (0 ≤ x ∧ x ≤ 9)) : HC l yL_steal wsL_steal ({ frames := 8, cells := 1, slots := 6, locals := 126 } : Room) z [.ref (za z 0), .int (nI i), .int x, .ref (za z 59)] 1 6 (va_up σ 0 S, M, f) (fun r u => r = 2 ∧ u = (va_up σ 0 S, M, f)) := by
  intro ct sz hn hq hat
  refine qh_entry (cc := cL_steal) (maxL := 5) (ret := (some .int)) (hh := [(0, 10, 13, 21), (0, 10, 17, 13)]) (by decide) rfl (Nat.le_of_ble_eq_true rfl) hn hq hat ?_
  intro p e s m below meth c ls C0 hK hT htab hsz h hl
  subst hsz
  obtain ⟨hx, hb, hr, hml, hown, hts, hlocks⟩ := id C0
  have hl : lv_has ls 5 [(0, .ref (za z 0)), (1, .int (nI i)), (2, .int x), (3, .ref (za z 59))] := hl
  refine lv_aload_n hx hb dL_steal_0 rfl (lv_at hl 3 rfl) ?_
  refine lv_iconst (v := 0) hx hb dL_steal_1 (by decide) ?_
  refine lv_aload_n hx hb dL_steal_2 rfl (lv_at hl 0 rfl) ?_
  refine lv_iload_n hx hb dL_steal_3 rfl (lv_at hl 1 rfl) ?_
  refine lv_iload_n hx hb dL_steal_4 rfl (lv_at hl 2 rfl) ?_
  refine H_catch C0 hK hT h (c_X1_steal_no2 l hlt z σ S hk i hi x hno) (cwV 2 hts gL_steal_X1_steal rfl rfl rfl (by decide +kernel) ⟨Nat.le_of_ble_eq_true rfl, Nat.le_of_ble_eq_true rfl⟩) rfl hl.1 (rest := [.int 0, .ref (za z 59)]) rfl (Nat.le_of_ble_eq_true rfl) ⟨Nat.le_of_ble_eq_true rfl, Nat.le_of_ble_eq_true rfl⟩ dL_steal_5 [⟨0, 10, 13, 21⟩] ⟨0, 10, 17, 13⟩ [] htab (hp_one (Or.inr ⟨(by decide), _, hts (.classLink RL 21 eB) (by decide +kernel), hK.2.2.2.2.2.2.2.2.1⟩)) (by decide) (by decide) (name := eA) (hts (.classLink RL 13 eA) (by decide +kernel)) hK.2.2.2.2.2.2.2.1.1 (fun q9 H locs h => ?_)
  refine lv_astore (lv' := [(4, .ref q9), (0, .ref (za z 0)), (1, .int (nI i)), (2, .int x), (3, .ref (za z 59))]) hx hb dL_steal_17 hl (by decide) rfl (fun ls hl => ?_)
  refine lv_iconst (v := 2) hx hb dL_steal_19 (by decide) ?_
  exact vx_ret (G_iret C0 hK h ⟨rfl, rfl⟩ (Nat.le_of_ble_eq_true rfl) (Nat.le_of_ble_eq_true rfl) dL_steal_20)
set_option maxHeartbeats 4000000 in
set_option maxRecDepth 100000 in
theorem c_L_tank_ok (l : Launch) (hlt : l.stackTraces = false) (z : QZ) (σ : Nat → QLs) (S : QLs) (M : QMs) (f : Nat → Int64) (hk : LOk S) (i : Nat) (hi : i < qt S) (k : Nat) (hk9 : k < 8) : HC l yL_tank wsL_tank ({ frames := 3, cells := 1, slots := 6, locals := 63 } : Room) z [.ref (za z 0), .int (nI i), .int (nI k), .ref (za z 59)] 1 6 (va_up σ 0 S, M, f) (fun r u => r = 0 ∧ u = (va_up σ 0 (S), M, vp_updL f 0 (qT S i k).toInt64)) := by
  intro ct sz hn hq hat
  refine qh_entry (cc := cL_tank) (maxL := 5) (ret := (some .int)) (hh := [(0, 10, 13, 21)]) (by decide) rfl (Nat.le_of_ble_eq_true rfl) hn hq hat ?_
  intro p e s m below meth c ls C0 hK hT htab hsz h hl
  subst hsz
  obtain ⟨hx, hb, hr, hml, hown, hts, hlocks⟩ := id C0
  have hl : lv_has ls 5 [(0, .ref (za z 0)), (1, .int (nI i)), (2, .int (nI k)), (3, .ref (za z 59))] := hl
  refine lv_aload_n hx hb dL_tank_0 rfl (lv_at hl 3 rfl) ?_
  refine lv_iconst (v := 0) hx hb dL_tank_1 (by decide) ?_
  refine lv_aload_n hx hb dL_tank_2 rfl (lv_at hl 0 rfl) ?_
  refine lv_iload_n hx hb dL_tank_3 rfl (lv_at hl 1 rfl) ?_
  refine lv_iload_n hx hb dL_tank_4 rfl (lv_at hl 2 rfl) ?_
  refine G_callVi C0 hK h (c_X1_tank_ok l z σ S hk i hi k hk9) (fun _ h => h.1) (fun u => (u, M, f)) (fun ct ct2 u hA hX hF => hA.X hX hF) (Nat.le_refl _) (by decide) (cwV 2 hts gL_tank_X1_tank rfl rfl rfl (by decide +kernel) ⟨Nat.le_of_ble_eq_true rfl, Nat.le_of_ble_eq_true rfl⟩) (k := 0) (ci := 1) (by omega) (fun ct hA => hA.1.1) rfl rfl rfl hl.1 (rest := [.int 0, .ref (za z 59)]) rfl (Nat.le_of_ble_eq_true rfl) ⟨Nat.le_of_ble_eq_true rfl, Nat.le_of_ble_eq_true rfl⟩ dL_tank_5 (fun r u H locs hp h => ?_)
  obtain ⟨rfl, rfl⟩ := hp
  refine lv_i2l hx hb dL_tank_8 rfl ?_
  refine G_last C0 hK h (k := 59) (by omega) (fun ct hA => hA.2.2) (j := 0) rfl (by decide) (by decide) (fun ct hA => hA.F) dL_tank_9 (fun H locs h => ?_)
  refine lv_goto (tgt := 17) hx hb dL_tank_10 (by decide) ?_
  refine lv_iconst (v := 0) hx hb dL_tank_17 (by decide) ?_
  exact vx_ret (G_iret C0 hK h ⟨rfl, rfl⟩ (Nat.le_of_ble_eq_true rfl) (Nat.le_of_ble_eq_true rfl) dL_tank_18)
set_option maxHeartbeats 4000000 in
set_option maxRecDepth 100000 in
theorem c_L_tank_no (l : Launch) (hlt : l.stackTraces = false) (z : QZ) (σ : Nat → QLs) (S : QLs) (M : QMs) (f : Nat → Int64) (hk : LOk S) (x y : Int32) (hno : ¬ qin x (qt S)) : HC l yL_tank wsL_tank ({ frames := 9, cells := 1, slots := 6, locals := 145 } : Room) z [.ref (za z 0), .int x, .int y, .ref (za z 59)] 1 6 (va_up σ 0 S, M, f) (fun r u => r = 1 ∧ u = (va_up σ 0 S, M, f)) := by
  intro ct sz hn hq hat
  refine qh_entry (cc := cL_tank) (maxL := 5) (ret := (some .int)) (hh := [(0, 10, 13, 21)]) (by decide) rfl (Nat.le_of_ble_eq_true rfl) hn hq hat ?_
  intro p e s m below meth c ls C0 hK hT htab hsz h hl
  subst hsz
  obtain ⟨hx, hb, hr, hml, hown, hts, hlocks⟩ := id C0
  have hl : lv_has ls 5 [(0, .ref (za z 0)), (1, .int x), (2, .int y), (3, .ref (za z 59))] := hl
  refine lv_aload_n hx hb dL_tank_0 rfl (lv_at hl 3 rfl) ?_
  refine lv_iconst (v := 0) hx hb dL_tank_1 (by decide) ?_
  refine lv_aload_n hx hb dL_tank_2 rfl (lv_at hl 0 rfl) ?_
  refine lv_iload_n hx hb dL_tank_3 rfl (lv_at hl 1 rfl) ?_
  refine lv_iload_n hx hb dL_tank_4 rfl (lv_at hl 2 rfl) ?_
  refine H_catch C0 hK hT h (c_X1_tank_no l hlt z σ S hk x y hno) (cwV 2 hts gL_tank_X1_tank rfl rfl rfl (by decide +kernel) ⟨Nat.le_of_ble_eq_true rfl, Nat.le_of_ble_eq_true rfl⟩) rfl hl.1 (rest := [.int 0, .ref (za z 59)]) rfl (Nat.le_of_ble_eq_true rfl) ⟨Nat.le_of_ble_eq_true rfl, Nat.le_of_ble_eq_true rfl⟩ dL_tank_5 [] ⟨0, 10, 13, 21⟩ [] htab (fun q hq => by cases hq) (by decide) (by decide) (name := eB) (hts (.classLink RL 21 eB) (by decide +kernel)) hK.2.2.2.2.2.2.2.1.2.2 (fun q9 H locs h => ?_)
  refine lv_astore (lv' := [(4, .ref q9), (0, .ref (za z 0)), (1, .int x), (2, .int y), (3, .ref (za z 59))]) hx hb dL_tank_13 hl (by decide) rfl (fun ls hl => ?_)
  refine lv_iconst (v := 1) hx hb dL_tank_15 (by decide) ?_
  exact vx_ret (G_iret C0 hK h ⟨rfl, rfl⟩ (Nat.le_of_ble_eq_true rfl) (Nat.le_of_ble_eq_true rfl) dL_tank_16)
set_option maxHeartbeats 4000000 in
set_option maxRecDepth 100000 in
theorem c_L_tank_no2 (l : Launch) (hlt : l.stackTraces = false) (z : QZ) (σ : Nat → QLs) (S : QLs) (M : QMs) (f : Nat → Int64) (hk : LOk S) (i : Nat) (hi : i < qt S) (y : Int32) (hno : ¬ (0 ≤ y ∧ y ≤ 7)) : HC l yL_tank wsL_tank ({ frames := 8, cells := 1, slots := 6, locals := 124 } : Room) z [.ref (za z 0), .int (nI i), .int y, .ref (za z 59)] 1 6 (va_up σ 0 S, M, f) (fun r u => r = 1 ∧ u = (va_up σ 0 S, M, f)) := by
  intro ct sz hn hq hat
  refine qh_entry (cc := cL_tank) (maxL := 5) (ret := (some .int)) (hh := [(0, 10, 13, 21)]) (by decide) rfl (Nat.le_of_ble_eq_true rfl) hn hq hat ?_
  intro p e s m below meth c ls C0 hK hT htab hsz h hl
  subst hsz
  obtain ⟨hx, hb, hr, hml, hown, hts, hlocks⟩ := id C0
  have hl : lv_has ls 5 [(0, .ref (za z 0)), (1, .int (nI i)), (2, .int y), (3, .ref (za z 59))] := hl
  refine lv_aload_n hx hb dL_tank_0 rfl (lv_at hl 3 rfl) ?_
  refine lv_iconst (v := 0) hx hb dL_tank_1 (by decide) ?_
  refine lv_aload_n hx hb dL_tank_2 rfl (lv_at hl 0 rfl) ?_
  refine lv_iload_n hx hb dL_tank_3 rfl (lv_at hl 1 rfl) ?_
  refine lv_iload_n hx hb dL_tank_4 rfl (lv_at hl 2 rfl) ?_
  refine H_catch C0 hK hT h (c_X1_tank_no2 l hlt z σ S hk i hi y hno) (cwV 2 hts gL_tank_X1_tank rfl rfl rfl (by decide +kernel) ⟨Nat.le_of_ble_eq_true rfl, Nat.le_of_ble_eq_true rfl⟩) rfl hl.1 (rest := [.int 0, .ref (za z 59)]) rfl (Nat.le_of_ble_eq_true rfl) ⟨Nat.le_of_ble_eq_true rfl, Nat.le_of_ble_eq_true rfl⟩ dL_tank_5 [] ⟨0, 10, 13, 21⟩ [] htab (fun q hq => by cases hq) (by decide) (by decide) (name := eB) (hts (.classLink RL 21 eB) (by decide +kernel)) hK.2.2.2.2.2.2.2.1.2.2 (fun q9 H locs h => ?_)
  refine lv_astore (lv' := [(4, .ref q9), (0, .ref (za z 0)), (1, .int (nI i)), (2, .int y), (3, .ref (za z 59))]) hx hb dL_tank_13 hl (by decide) rfl (fun ls hl => ?_)
  refine lv_iconst (v := 1) hx hb dL_tank_15 (by decide) ?_
  exact vx_ret (G_iret C0 hK h ⟨rfl, rfl⟩ (Nat.le_of_ble_eq_true rfl) (Nat.le_of_ble_eq_true rfl) dL_tank_16)
set_option maxHeartbeats 4000000 in
set_option maxRecDepth 100000 in
theorem c_L_pipe_ok (l : Launch) (hlt : l.stackTraces = false) (z : QZ) (σ : Nat → QLs) (S : QLs) (M : QMs) (f : Nat → Int64) (hk : LOk S) (i : Nat) (hi : i < qp S) (k : Nat) (hk9 : k < 9) : HC l yL_pipe wsL_pipe ({ frames := 4, cells := 1, slots := 6, locals := 90 } : Room) z [.ref (za z 0), .int (nI i), .int (nI k), .ref (za z 59)] 1 6 (va_up σ 0 S, M, f) (fun r u => r = 0 ∧ u = (va_up σ 0 (S), M, vp_updL f 0 (ofPipeL S i k).toInt64)) := by
  intro ct sz hn hq hat
  refine qh_entry (cc := cL_pipe) (maxL := 5) (ret := (some .int)) (hh := [(0, 10, 13, 21)]) (by decide) rfl (Nat.le_of_ble_eq_true rfl) hn hq hat ?_
  intro p e s m below meth c ls C0 hK hT htab hsz h hl
  subst hsz
  obtain ⟨hx, hb, hr, hml, hown, hts, hlocks⟩ := id C0
  have hl : lv_has ls 5 [(0, .ref (za z 0)), (1, .int (nI i)), (2, .int (nI k)), (3, .ref (za z 59))] := hl
  refine lv_aload_n hx hb dL_pipe_0 rfl (lv_at hl 3 rfl) ?_
  refine lv_iconst (v := 0) hx hb dL_pipe_1 (by decide) ?_
  refine lv_aload_n hx hb dL_pipe_2 rfl (lv_at hl 0 rfl) ?_
  refine lv_iload_n hx hb dL_pipe_3 rfl (lv_at hl 1 rfl) ?_
  refine lv_iload_n hx hb dL_pipe_4 rfl (lv_at hl 2 rfl) ?_
  refine G_callVi C0 hK h (c_X1_pipe_ok l z σ S hk i hi k hk9) (fun _ h => h.1) (fun u => (u, M, f)) (fun ct ct2 u hA hX hF => hA.X hX hF) (Nat.le_refl _) (by decide) (cwV 2 hts gL_pipe_X1_pipe rfl rfl rfl (by decide +kernel) ⟨Nat.le_of_ble_eq_true rfl, Nat.le_of_ble_eq_true rfl⟩) (k := 0) (ci := 1) (by omega) (fun ct hA => hA.1.1) rfl rfl rfl hl.1 (rest := [.int 0, .ref (za z 59)]) rfl (Nat.le_of_ble_eq_true rfl) ⟨Nat.le_of_ble_eq_true rfl, Nat.le_of_ble_eq_true rfl⟩ dL_pipe_5 (fun r u H locs hp h => ?_)
  obtain ⟨rfl, rfl⟩ := hp
  refine lv_i2l hx hb dL_pipe_8 rfl ?_
  refine G_last C0 hK h (k := 59) (by omega) (fun ct hA => hA.2.2) (j := 0) rfl (by decide) (by decide) (fun ct hA => hA.F) dL_pipe_9 (fun H locs h => ?_)
  refine lv_goto (tgt := 17) hx hb dL_pipe_10 (by decide) ?_
  refine lv_iconst (v := 0) hx hb dL_pipe_17 (by decide) ?_
  exact vx_ret (G_iret C0 hK h ⟨rfl, rfl⟩ (Nat.le_of_ble_eq_true rfl) (Nat.le_of_ble_eq_true rfl) dL_pipe_18)
set_option maxHeartbeats 4000000 in
set_option maxRecDepth 100000 in
theorem c_L_pipe_no (l : Launch) (hlt : l.stackTraces = false) (z : QZ) (σ : Nat → QLs) (S : QLs) (M : QMs) (f : Nat → Int64) (hk : LOk S) (x y : Int32) (hno : ¬ qin x (qp S)) : HC l yL_pipe wsL_pipe ({ frames := 9, cells := 1, slots := 6, locals := 145 } : Room) z [.ref (za z 0), .int x, .int y, .ref (za z 59)] 1 6 (va_up σ 0 S, M, f) (fun r u => r = 1 ∧ u = (va_up σ 0 S, M, f)) := by
  intro ct sz hn hq hat
  refine qh_entry (cc := cL_pipe) (maxL := 5) (ret := (some .int)) (hh := [(0, 10, 13, 21)]) (by decide) rfl (Nat.le_of_ble_eq_true rfl) hn hq hat ?_
  intro p e s m below meth c ls C0 hK hT htab hsz h hl
  subst hsz
  obtain ⟨hx, hb, hr, hml, hown, hts, hlocks⟩ := id C0
  have hl : lv_has ls 5 [(0, .ref (za z 0)), (1, .int x), (2, .int y), (3, .ref (za z 59))] := hl
  refine lv_aload_n hx hb dL_pipe_0 rfl (lv_at hl 3 rfl) ?_
  refine lv_iconst (v := 0) hx hb dL_pipe_1 (by decide) ?_
  refine lv_aload_n hx hb dL_pipe_2 rfl (lv_at hl 0 rfl) ?_
  refine lv_iload_n hx hb dL_pipe_3 rfl (lv_at hl 1 rfl) ?_
  refine lv_iload_n hx hb dL_pipe_4 rfl (lv_at hl 2 rfl) ?_
  refine H_catch C0 hK hT h (c_X1_pipe_no l hlt z σ S hk x y hno) (cwV 2 hts gL_pipe_X1_pipe rfl rfl rfl (by decide +kernel) ⟨Nat.le_of_ble_eq_true rfl, Nat.le_of_ble_eq_true rfl⟩) rfl hl.1 (rest := [.int 0, .ref (za z 59)]) rfl (Nat.le_of_ble_eq_true rfl) ⟨Nat.le_of_ble_eq_true rfl, Nat.le_of_ble_eq_true rfl⟩ dL_pipe_5 [] ⟨0, 10, 13, 21⟩ [] htab (fun q hq => by cases hq) (by decide) (by decide) (name := eB) (hts (.classLink RL 21 eB) (by decide +kernel)) hK.2.2.2.2.2.2.2.1.2.2 (fun q9 H locs h => ?_)
  refine lv_astore (lv' := [(4, .ref q9), (0, .ref (za z 0)), (1, .int x), (2, .int y), (3, .ref (za z 59))]) hx hb dL_pipe_13 hl (by decide) rfl (fun ls hl => ?_)
  refine lv_iconst (v := 1) hx hb dL_pipe_15 (by decide) ?_
  exact vx_ret (G_iret C0 hK h ⟨rfl, rfl⟩ (Nat.le_of_ble_eq_true rfl) (Nat.le_of_ble_eq_true rfl) dL_pipe_16)
set_option maxHeartbeats 4000000 in
set_option maxRecDepth 100000 in
theorem c_L_pipe_no2 (l : Launch) (hlt : l.stackTraces = false) (z : QZ) (σ : Nat → QLs) (S : QLs) (M : QMs) (f : Nat → Int64) (hk : LOk S) (i : Nat) (hi : i < qp S) (y : Int32) (hno : ¬ (0 ≤ y ∧ y ≤ 8)) : HC l yL_pipe wsL_pipe ({ frames := 8, cells := 1, slots := 6, locals := 124 } : Room) z [.ref (za z 0), .int (nI i), .int y, .ref (za z 59)] 1 6 (va_up σ 0 S, M, f) (fun r u => r = 1 ∧ u = (va_up σ 0 S, M, f)) := by
  intro ct sz hn hq hat
  refine qh_entry (cc := cL_pipe) (maxL := 5) (ret := (some .int)) (hh := [(0, 10, 13, 21)]) (by decide) rfl (Nat.le_of_ble_eq_true rfl) hn hq hat ?_
  intro p e s m below meth c ls C0 hK hT htab hsz h hl
  subst hsz
  obtain ⟨hx, hb, hr, hml, hown, hts, hlocks⟩ := id C0
  have hl : lv_has ls 5 [(0, .ref (za z 0)), (1, .int (nI i)), (2, .int y), (3, .ref (za z 59))] := hl
  refine lv_aload_n hx hb dL_pipe_0 rfl (lv_at hl 3 rfl) ?_
  refine lv_iconst (v := 0) hx hb dL_pipe_1 (by decide) ?_
  refine lv_aload_n hx hb dL_pipe_2 rfl (lv_at hl 0 rfl) ?_
  refine lv_iload_n hx hb dL_pipe_3 rfl (lv_at hl 1 rfl) ?_
  refine lv_iload_n hx hb dL_pipe_4 rfl (lv_at hl 2 rfl) ?_
  refine H_catch C0 hK hT h (c_X1_pipe_no2 l hlt z σ S hk i hi y hno) (cwV 2 hts gL_pipe_X1_pipe rfl rfl rfl (by decide +kernel) ⟨Nat.le_of_ble_eq_true rfl, Nat.le_of_ble_eq_true rfl⟩) rfl hl.1 (rest := [.int 0, .ref (za z 59)]) rfl (Nat.le_of_ble_eq_true rfl) ⟨Nat.le_of_ble_eq_true rfl, Nat.le_of_ble_eq_true rfl⟩ dL_pipe_5 [] ⟨0, 10, 13, 21⟩ [] htab (fun q hq => by cases hq) (by decide) (by decide) (name := eB) (hts (.classLink RL 21 eB) (by decide +kernel)) hK.2.2.2.2.2.2.2.1.2.2 (fun q9 H locs h => ?_)
  refine lv_astore (lv' := [(4, .ref q9), (0, .ref (za z 0)), (1, .int (nI i)), (2, .int y), (3, .ref (za z 59))]) hx hb dL_pipe_13 hl (by decide) rfl (fun ls hl => ?_)
  refine lv_iconst (v := 1) hx hb dL_pipe_15 (by decide) ?_
  exact vx_ret (G_iret C0 hK h ⟨rfl, rfl⟩ (Nat.le_of_ble_eq_true rfl) (Nat.le_of_ble_eq_true rfl) dL_pipe_16)
set_option maxHeartbeats 4000000 in
set_option maxRecDepth 100000 in
theorem c_L_count_ok (l : Launch) (hlt : l.stackTraces = false) (z : QZ) (σ : Nat → QLs) (S : QLs) (M : QMs) (f : Nat → Int64) (hk : LOk S) (k : Nat) (hk9 : k ≤ 8) : HC l yL_count wsL_count ({ frames := 4, cells := 1, slots := 6, locals := 85 } : Room) z [.ref (za z 0), .int (nI k), .ref (za z 59)] 1 6 (va_up σ 0 S, M, f) (fun r u => r = 0 ∧ u = (va_up σ 0 (S), M, vp_updL f 0 (ofAllL S k).toInt64)) := by
  intro ct sz hn hq hat
  refine qh_entry (cc := cL_count) (maxL := 4) (ret := (some .int)) (hh := [(0, 9, 12, 21)]) (by decide) rfl (Nat.le_of_ble_eq_true rfl) hn hq hat ?_
  intro p e s m below meth c ls C0 hK hT htab hsz h hl
  subst hsz
  obtain ⟨hx, hb, hr, hml, hown, hts, hlocks⟩ := id C0
  have hl : lv_has ls 4 [(0, .ref (za z 0)), (1, .int (nI k)), (2, .ref (za z 59))] := hl
  refine lv_aload_n hx hb dL_count_0 rfl (lv_at hl 2 rfl) ?_
  refine lv_iconst (v := 0) hx hb dL_count_1 (by decide) ?_
  refine lv_aload_n hx hb dL_count_2 rfl (lv_at hl 0 rfl) ?_
  refine lv_iload_n hx hb dL_count_3 rfl (lv_at hl 1 rfl) ?_
  refine G_callVi C0 hK h (c_X1_count_ok l z σ S hk k hk9) (fun _ h => h.1) (fun u => (u, M, f)) (fun ct ct2 u hA hX hF => hA.X hX hF) (Nat.le_refl _) (by decide) (cwV 1 hts gL_count_X1_count rfl rfl rfl (by decide +kernel) ⟨Nat.le_of_ble_eq_true rfl, Nat.le_of_ble_eq_true rfl⟩) (k := 0) (ci := 1) (by omega) (fun ct hA => hA.1.1) rfl rfl rfl hl.1 (rest := [.int 0, .ref (za z 59)]) rfl (Nat.le_of_ble_eq_true rfl) ⟨Nat.le_of_ble_eq_true rfl, Nat.le_of_ble_eq_true rfl⟩ dL_count_4 (fun r u H locs hp h => ?_)
  obtain ⟨rfl, rfl⟩ := hp
  refine lv_i2l hx hb dL_count_7 rfl ?_
  refine G_last C0 hK h (k := 59) (by omega) (fun ct hA => hA.2.2) (j := 0) rfl (by decide) (by decide) (fun ct hA => hA.F) dL_count_8 (fun H locs h => ?_)
  refine lv_goto (tgt := 15) hx hb dL_count_9 (by decide) ?_
  refine lv_iconst (v := 0) hx hb dL_count_15 (by decide) ?_
  exact vx_ret (G_iret C0 hK h ⟨rfl, rfl⟩ (Nat.le_of_ble_eq_true rfl) (Nat.le_of_ble_eq_true rfl) dL_count_16)
set_option maxHeartbeats 4000000 in
set_option maxRecDepth 100000 in
theorem c_L_count_no (l : Launch) (hlt : l.stackTraces = false) (z : QZ) (σ : Nat → QLs) (S : QLs) (M : QMs) (f : Nat → Int64) (hk : LOk S) (x : Int32) (hno : ¬ (0 ≤ x ∧ x ≤ 8)) : HC l yL_count wsL_count ({ frames := 8, cells := 1, slots := 6, locals := 123 } : Room) z [.ref (za z 0), .int x, .ref (za z 59)] 1 6 (va_up σ 0 S, M, f) (fun r u => r = 1 ∧ u = (va_up σ 0 S, M, f)) := by
  intro ct sz hn hq hat
  refine qh_entry (cc := cL_count) (maxL := 4) (ret := (some .int)) (hh := [(0, 9, 12, 21)]) (by decide) rfl (Nat.le_of_ble_eq_true rfl) hn hq hat ?_
  intro p e s m below meth c ls C0 hK hT htab hsz h hl
  subst hsz
  obtain ⟨hx, hb, hr, hml, hown, hts, hlocks⟩ := id C0
  have hl : lv_has ls 4 [(0, .ref (za z 0)), (1, .int x), (2, .ref (za z 59))] := hl
  refine lv_aload_n hx hb dL_count_0 rfl (lv_at hl 2 rfl) ?_
  refine lv_iconst (v := 0) hx hb dL_count_1 (by decide) ?_
  refine lv_aload_n hx hb dL_count_2 rfl (lv_at hl 0 rfl) ?_
  refine lv_iload_n hx hb dL_count_3 rfl (lv_at hl 1 rfl) ?_
  refine H_catch C0 hK hT h (c_X1_count_no l hlt z σ S hk x hno) (cwV 1 hts gL_count_X1_count rfl rfl rfl (by decide +kernel) ⟨Nat.le_of_ble_eq_true rfl, Nat.le_of_ble_eq_true rfl⟩) rfl hl.1 (rest := [.int 0, .ref (za z 59)]) rfl (Nat.le_of_ble_eq_true rfl) ⟨Nat.le_of_ble_eq_true rfl, Nat.le_of_ble_eq_true rfl⟩ dL_count_4 [] ⟨0, 9, 12, 21⟩ [] htab (fun q hq => by cases hq) (by decide) (by decide) (name := eB) (hts (.classLink RL 21 eB) (by decide +kernel)) hK.2.2.2.2.2.2.2.1.2.2 (fun q9 H locs h => ?_)
  refine lv_astore_n (lv' := [(3, .ref q9), (0, .ref (za z 0)), (1, .int x), (2, .ref (za z 59))]) hx hb dL_count_12 rfl hl (by decide) rfl (fun ls hl => ?_)
  refine lv_iconst (v := 1) hx hb dL_count_13 (by decide) ?_
  exact vx_ret (G_iret C0 hK h ⟨rfl, rfl⟩ (Nat.le_of_ble_eq_true rfl) (Nat.le_of_ble_eq_true rfl) dL_count_14)
set_option maxHeartbeats 4000000 in
set_option maxRecDepth 100000 in
theorem c_L_reach_ok (l : Launch) (hlt : l.stackTraces = false) (z : QZ) (σ : Nat → QLs) (S : QLs) (M : QMs) (f : Nat → Int64) (hk : LOk S) (i : Nat) (hi : i < qt S) : HC l yL_reach wsL_reach ({ frames := 3, cells := 1, slots := 6, locals := 62 } : Room) z [.ref (za z 0), .int (nI i), .ref (za z 59)] 1 6 (va_up σ 0 S, M, f) (fun r u => r = 0 ∧ u = (va_up σ 0 (S), M, vp_updL f 0 (reachL S (nI i)).toInt64)) := by
  intro ct sz hn hq hat
  refine qh_entry (cc := cL_reach) (maxL := 4) (ret := (some .int)) (hh := [(0, 9, 12, 21)]) (by decide) rfl (Nat.le_of_ble_eq_true rfl) hn hq hat ?_
  intro p e s m below meth c ls C0 hK hT htab hsz h hl
  subst hsz
  obtain ⟨hx, hb, hr, hml, hown, hts, hlocks⟩ := id C0
  have hl : lv_has ls 4 [(0, .ref (za z 0)), (1, .int (nI i)), (2, .ref (za z 59))] := hl
  refine lv_aload_n hx hb dL_reach_0 rfl (lv_at hl 2 rfl) ?_
  refine lv_iconst (v := 0) hx hb dL_reach_1 (by decide) ?_
  refine lv_aload_n hx hb dL_reach_2 rfl (lv_at hl 0 rfl) ?_
  refine lv_iload_n hx hb dL_reach_3 rfl (lv_at hl 1 rfl) ?_
  refine G_callVi C0 hK h (c_X1_reach_ok l z σ S hk i hi) (fun _ h => h.1) (fun u => (u, M, f)) (fun ct ct2 u hA hX hF => hA.X hX hF) (Nat.le_refl _) (by decide) (cwV 1 hts gL_reach_X1_reach rfl rfl rfl (by decide +kernel) ⟨Nat.le_of_ble_eq_true rfl, Nat.le_of_ble_eq_true rfl⟩) (k := 0) (ci := 1) (by omega) (fun ct hA => hA.1.1) rfl rfl rfl hl.1 (rest := [.int 0, .ref (za z 59)]) rfl (Nat.le_of_ble_eq_true rfl) ⟨Nat.le_of_ble_eq_true rfl, Nat.le_of_ble_eq_true rfl⟩ dL_reach_4 (fun r u H locs hp h => ?_)
  obtain ⟨rfl, rfl⟩ := hp
  refine lv_i2l hx hb dL_reach_7 rfl ?_
  refine G_last C0 hK h (k := 59) (by omega) (fun ct hA => hA.2.2) (j := 0) rfl (by decide) (by decide) (fun ct hA => hA.F) dL_reach_8 (fun H locs h => ?_)
  refine lv_goto (tgt := 15) hx hb dL_reach_9 (by decide) ?_
  refine lv_iconst (v := 0) hx hb dL_reach_15 (by decide) ?_
  exact vx_ret (G_iret C0 hK h ⟨rfl, rfl⟩ (Nat.le_of_ble_eq_true rfl) (Nat.le_of_ble_eq_true rfl) dL_reach_16)
set_option maxHeartbeats 4000000 in
set_option maxRecDepth 100000 in
theorem c_L_reach_no (l : Launch) (hlt : l.stackTraces = false) (z : QZ) (σ : Nat → QLs) (S : QLs) (M : QMs) (f : Nat → Int64) (hk : LOk S) (x : Int32) (hno : ¬ qin x (qt S)) : HC l yL_reach wsL_reach ({ frames := 9, cells := 1, slots := 6, locals := 144 } : Room) z [.ref (za z 0), .int x, .ref (za z 59)] 1 6 (va_up σ 0 S, M, f) (fun r u => r = 1 ∧ u = (va_up σ 0 S, M, f)) := by
  intro ct sz hn hq hat
  refine qh_entry (cc := cL_reach) (maxL := 4) (ret := (some .int)) (hh := [(0, 9, 12, 21)]) (by decide) rfl (Nat.le_of_ble_eq_true rfl) hn hq hat ?_
  intro p e s m below meth c ls C0 hK hT htab hsz h hl
  subst hsz
  obtain ⟨hx, hb, hr, hml, hown, hts, hlocks⟩ := id C0
  have hl : lv_has ls 4 [(0, .ref (za z 0)), (1, .int x), (2, .ref (za z 59))] := hl
  refine lv_aload_n hx hb dL_reach_0 rfl (lv_at hl 2 rfl) ?_
  refine lv_iconst (v := 0) hx hb dL_reach_1 (by decide) ?_
  refine lv_aload_n hx hb dL_reach_2 rfl (lv_at hl 0 rfl) ?_
  refine lv_iload_n hx hb dL_reach_3 rfl (lv_at hl 1 rfl) ?_
  refine H_catch C0 hK hT h (c_X1_reach_no l hlt z σ S hk x hno) (cwV 1 hts gL_reach_X1_reach rfl rfl rfl (by decide +kernel) ⟨Nat.le_of_ble_eq_true rfl, Nat.le_of_ble_eq_true rfl⟩) rfl hl.1 (rest := [.int 0, .ref (za z 59)]) rfl (Nat.le_of_ble_eq_true rfl) ⟨Nat.le_of_ble_eq_true rfl, Nat.le_of_ble_eq_true rfl⟩ dL_reach_4 [] ⟨0, 9, 12, 21⟩ [] htab (fun q hq => by cases hq) (by decide) (by decide) (name := eB) (hts (.classLink RL 21 eB) (by decide +kernel)) hK.2.2.2.2.2.2.2.1.2.2 (fun q9 H locs h => ?_)
  refine lv_astore_n (lv' := [(3, .ref q9), (0, .ref (za z 0)), (1, .int x), (2, .ref (za z 59))]) hx hb dL_reach_12 rfl hl (by decide) rfl (fun ls hl => ?_)
  refine lv_iconst (v := 1) hx hb dL_reach_13 (by decide) ?_
  exact vx_ret (G_iret C0 hK h ⟨rfl, rfl⟩ (Nat.le_of_ble_eq_true rfl) (Nat.le_of_ble_eq_true rfl) dL_reach_14)
set_option maxHeartbeats 4000000 in
set_option maxRecDepth 100000 in
theorem c_L_pass_ok (l : Launch) (hlt : l.stackTraces = false) (z : QZ) (σ : Nat → QLs) (S : QLs) (M : QMs) (f : Nat → Int64) (hk : LOk S) (n : Nat) (h1 : 1 ≤ n) (h2 : n ≤ 100) : HC l yL_pass wsL_pass ({ frames := 7, cells := 1, slots := 6, locals := 150 } : Room) z [.ref (za z 0), .int (nI n), .ref (za z 59)] 1 6 (va_up σ 0 S, M, f) (fun r u => r = 0 ∧ u = (va_up σ 0 (itN dayF n S), M, vp_updL f 0 (sumT (itN dayF n S) 6 - sumT S 6).toInt64)) := by
  intro ct sz hn hq hat
  refine qh_entry (cc := cL_pass) (maxL := 4) (ret := (some .int)) (hh := [(0, 9, 12, 13)]) (by decide) rfl (Nat.le_of_ble_eq_true rfl) hn hq hat ?_
  intro p e s m below meth c ls C0 hK hT htab hsz h hl
  subst hsz
  obtain ⟨hx, hb, hr, hml, hown, hts, hlocks⟩ := id C0
  have hl : lv_has ls 4 [(0, .ref (za z 0)), (1, .int (nI n)), (2, .ref (za z 59))] := hl
  refine lv_aload_n hx hb dL_pass_0 rfl (lv_at hl 2 rfl) ?_
  refine lv_iconst (v := 0) hx hb dL_pass_1 (by decide) ?_
  refine lv_aload_n hx hb dL_pass_2 rfl (lv_at hl 0 rfl) ?_
  refine lv_iload_n hx hb dL_pass_3 rfl (lv_at hl 1 rfl) ?_
  refine G_callVi C0 hK h (c_X1_pass_ok l z σ S hk n h1 h2) (fun _ h => h.1) (fun u => (u, M, f)) (fun ct ct2 u hA hX hF => hA.X hX hF) (Nat.le_refl _) (by decide) (cwV 1 hts gL_pass_X1_pass rfl rfl rfl (by decide +kernel) ⟨Nat.le_of_ble_eq_true rfl, Nat.le_of_ble_eq_true rfl⟩) (k := 0) (ci := 1) (by omega) (fun ct hA => hA.1.1) rfl rfl rfl hl.1 (rest := [.int 0, .ref (za z 59)]) rfl (Nat.le_of_ble_eq_true rfl) ⟨Nat.le_of_ble_eq_true rfl, Nat.le_of_ble_eq_true rfl⟩ dL_pass_4 (fun r u H locs hp h => ?_)
  obtain ⟨rfl, rfl⟩ := hp
  refine lv_i2l hx hb dL_pass_7 rfl ?_
  refine G_last C0 hK h (k := 59) (by omega) (fun ct hA => hA.2.2) (j := 0) rfl (by decide) (by decide) (fun ct hA => hA.F) dL_pass_8 (fun H locs h => ?_)
  refine lv_goto (tgt := 15) hx hb dL_pass_9 (by decide) ?_
  refine lv_iconst (v := 0) hx hb dL_pass_15 (by decide) ?_
  exact vx_ret (G_iret C0 hK h ⟨rfl, rfl⟩ (Nat.le_of_ble_eq_true rfl) (Nat.le_of_ble_eq_true rfl) dL_pass_16)
set_option maxHeartbeats 4000000 in
set_option maxRecDepth 100000 in
theorem c_L_pass_no (l : Launch) (hlt : l.stackTraces = false) (z : QZ) (σ : Nat → QLs) (S : QLs) (M : QMs) (f : Nat → Int64) (hk : LOk S) (x : Int32) (hno : ¬ (1 ≤ x ∧ x ≤ 100)) : HC l yL_pass wsL_pass ({ frames := 8, cells := 1, slots := 6, locals := 123 } : Room) z [.ref (za z 0), .int x, .ref (za z 59)] 1 6 (va_up σ 0 S, M, f) (fun r u => r = 1 ∧ u = (va_up σ 0 S, M, f)) := by
  intro ct sz hn hq hat
  refine qh_entry (cc := cL_pass) (maxL := 4) (ret := (some .int)) (hh := [(0, 9, 12, 13)]) (by decide) rfl (Nat.le_of_ble_eq_true rfl) hn hq hat ?_
  intro p e s m below meth c ls C0 hK hT htab hsz h hl
  subst hsz
  obtain ⟨hx, hb, hr, hml, hown, hts, hlocks⟩ := id C0
  have hl : lv_has ls 4 [(0, .ref (za z 0)), (1, .int x), (2, .ref (za z 59))] := hl
  refine lv_aload_n hx hb dL_pass_0 rfl (lv_at hl 2 rfl) ?_
  refine lv_iconst (v := 0) hx hb dL_pass_1 (by decide) ?_
  refine lv_aload_n hx hb dL_pass_2 rfl (lv_at hl 0 rfl) ?_
  refine lv_iload_n hx hb dL_pass_3 rfl (lv_at hl 1 rfl) ?_
  refine H_catch C0 hK hT h (c_X1_pass_no l hlt z σ S hk x hno) (cwV 1 hts gL_pass_X1_pass rfl rfl rfl (by decide +kernel) ⟨Nat.le_of_ble_eq_true rfl, Nat.le_of_ble_eq_true rfl⟩) rfl hl.1 (rest := [.int 0, .ref (za z 59)]) rfl (Nat.le_of_ble_eq_true rfl) ⟨Nat.le_of_ble_eq_true rfl, Nat.le_of_ble_eq_true rfl⟩ dL_pass_4 [] ⟨0, 9, 12, 13⟩ [] htab (fun q hq => by cases hq) (by decide) (by decide) (name := eA) (hts (.classLink RL 13 eA) (by decide +kernel)) hK.2.2.2.2.2.2.2.1.1 (fun q9 H locs h => ?_)
  refine lv_astore_n (lv' := [(3, .ref q9), (0, .ref (za z 0)), (1, .int x), (2, .ref (za z 59))]) hx hb dL_pass_12 rfl hl (by decide) rfl (fun ls hl => ?_)
  refine lv_iconst (v := 1) hx hb dL_pass_13 (by decide) ?_
  exact vx_ret (G_iret C0 hK h ⟨rfl, rfl⟩ (Nat.le_of_ble_eq_true rfl) (Nat.le_of_ble_eq_true rfl) dL_pass_14)
set_option maxHeartbeats 4000000 in
set_option maxRecDepth 100000 in
theorem c_L_foresee_ok (l : Launch) (hlt : l.stackTraces = false) (z : QZ) (σ : Nat → QLs) (S : QLs) (M : QMs) (f : Nat → Int64) (hk : LOk S) (n : Nat) (h1 : 1 ≤ n) (h2 : n ≤ 100) (k : Nat) (hk9 : k ≤ 3) : HC l yL_foresee wsL_foresee ({ frames := 7, cells := 1, slots := 6, locals := 152 } : Room) z [.ref (za z 0), .int (nI n), .int (nI k), .ref (za z 59)] 1 6 (va_up σ 0 S, M, f) (fun r u => r = 0 ∧ ∃ S2, u = (va_up (va_up σ 0 S) 1 S2, M, vp_updL f 0 (qfore S (copyL S (σ 1)) n k).toInt64)) := by
  intro ct sz hn hq hat
  refine qh_entry (cc := cL_foresee) (maxL := 5) (ret := (some .int)) (hh := [(0, 10, 13, 13), (0, 10, 17, 21)]) (by decide) rfl (Nat.le_of_ble_eq_true rfl) hn hq hat ?_
  intro p e s m below meth c ls C0 hK hT htab hsz h hl
  subst hsz
  obtain ⟨hx, hb, hr, hml, hown, hts, hlocks⟩ := id C0
  have hl : lv_has ls 5 [(0, .ref (za z 0)), (1, .int (nI n)), (2, .int (nI k)), (3, .ref (za z 59))] := hl
  refine lv_aload_n hx hb dL_foresee_0 rfl (lv_at hl 3 rfl) ?_
  refine lv_iconst (v := 0) hx hb dL_foresee_1 (by decide) ?_
  refine lv_aload_n hx hb dL_foresee_2 rfl (lv_at hl 0 rfl) ?_
  refine lv_iload_n hx hb dL_foresee_3 rfl (lv_at hl 1 rfl) ?_
  refine lv_iload_n hx hb dL_foresee_4 rfl (lv_at hl 2 rfl) ?_
  refine G_callVi C0 hK h (c_X1_foresee_ok l z σ S hk n h1 h2 k hk9) (fun _ h => h.1) (fun u => (u, M, f)) (fun ct ct2 u hA hX hF => hA.X hX hF) (Nat.le_refl _) (by decide) (cwV 2 hts gL_foresee_X1_foresee rfl rfl rfl (by decide +kernel) ⟨Nat.le_of_ble_eq_true rfl, Nat.le_of_ble_eq_true rfl⟩) (k := 0) (ci := 1) (by omega) (fun ct hA => hA.1.1) rfl rfl rfl hl.1 (rest := [.int 0, .ref (za z 59)]) rfl (Nat.le_of_ble_eq_true rfl) ⟨Nat.le_of_ble_eq_true rfl, Nat.le_of_ble_eq_true rfl⟩ dL_foresee_5 (fun r u H locs hp h => ?_)
  obtain ⟨rfl, S2, rfl⟩ := hp
  refine lv_i2l hx hb dL_foresee_8 rfl ?_
  refine G_last C0 hK h (k := 59) (by omega) (fun ct hA => hA.2.2) (j := 0) rfl (by decide) (by decide) (fun ct hA => hA.F) dL_foresee_9 (fun H locs h => ?_)
  refine lv_goto (tgt := 21) hx hb dL_foresee_10 (by decide) ?_
  refine lv_iconst (v := 0) hx hb dL_foresee_21 (by decide) ?_
  exact vx_ret (G_iret C0 hK h ⟨rfl, _, rfl⟩ (Nat.le_of_ble_eq_true rfl) (Nat.le_of_ble_eq_true rfl) dL_foresee_22)
set_option maxHeartbeats 4000000 in
set_option maxRecDepth 100000 in
theorem c_L_foresee_no (l : Launch) (hlt : l.stackTraces = false) (z : QZ) (σ : Nat → QLs) (S : QLs) (M : QMs) (f : Nat → Int64) (hk : LOk S) (x y : Int32) (hno : ¬ (1 ≤ x ∧ x ≤ 100)) : HC l yL_foresee wsL_foresee ({ frames := 8, cells := 1, slots := 6, locals := 125 } : Room) z [.ref (za z 0), .int x, .int y, .ref (za z 59)] 1 6 (va_up σ 0 S, M, f) (fun r u => r = 1 ∧ u = (va_up σ 0 S, M, f)) := by
  intro ct sz hn hq hat
  refine qh_entry (cc := cL_foresee) (maxL := 5) (ret := (some .int)) (hh := [(0, 10, 13, 13), (0, 10, 17, 21)]) (by decide) rfl (Nat.le_of_ble_eq_true rfl) hn hq hat ?_
  intro p e s m below meth c ls C0 hK hT htab hsz h hl
  subst hsz
  obtain ⟨hx, hb, hr, hml, hown, hts, hlocks⟩ := id C0
  have hl : lv_has ls 5 [(0, .ref (za z 0)), (1, .int x), (2, .int y), (3, .ref (za z 59))] := hl
  refine lv_aload_n hx hb dL_foresee_0 rfl (lv_at hl 3 rfl) ?_
  refine lv_iconst (v := 0) hx hb dL_foresee_1 (by decide) ?_
  refine lv_aload_n hx hb dL_foresee_2 rfl (lv_at hl 0 rfl) ?_
  refine lv_iload_n hx hb dL_foresee_3 rfl (lv_at hl 1 rfl) ?_
  refine lv_iload_n hx hb dL_foresee_4 rfl (lv_at hl 2 rfl) ?_
  refine H_catch C0 hK hT h (c_X1_foresee_no l hlt z σ S hk x y hno) (cwV 2 hts gL_foresee_X1_foresee rfl rfl rfl (by decide +kernel) ⟨Nat.le_of_ble_eq_true rfl, Nat.le_of_ble_eq_true rfl⟩) rfl hl.1 (rest := [.int 0, .ref (za z 59)]) rfl (Nat.le_of_ble_eq_true rfl) ⟨Nat.le_of_ble_eq_true rfl, Nat.le_of_ble_eq_true rfl⟩ dL_foresee_5 [] ⟨0, 10, 13, 13⟩ [⟨0, 10, 17, 21⟩] htab (fun q hq => by cases hq) (by decide) (by decide) (name := eA) (hts (.classLink RL 13 eA) (by decide +kernel)) hK.2.2.2.2.2.2.2.1.1 (fun q9 H locs h => ?_)
  refine lv_astore (lv' := [(4, .ref q9), (0, .ref (za z 0)), (1, .int x), (2, .int y), (3, .ref (za z 59))]) hx hb dL_foresee_13 hl (by decide) rfl (fun ls hl => ?_)
  refine lv_iconst (v := 1) hx hb dL_foresee_15 (by decide) ?_
  exact vx_ret (G_iret C0 hK h ⟨rfl, rfl⟩ (Nat.le_of_ble_eq_true rfl) (Nat.le_of_ble_eq_true rfl) dL_foresee_16)
set_option maxHeartbeats 4000000 in
set_option maxRecDepth 100000 in
theorem c_L_foresee_no2 (l : Launch) (hlt : l.stackTraces = false) (z : QZ) (σ : Nat → QLs) (S : QLs) (M : QMs) (f : Nat → Int64) (hk : LOk S) (x y : Int32) (h9 : 1 ≤ x ∧ x ≤ 100) (hno : ¬ (0 ≤ y ∧ y ≤ 3)) : HC l yL_foresee wsL_foresee ({ frames := 8, cells := 1, slots := 6, locals := 125 } : Room) z [.ref (za z 0), .int x, .int y, .ref (za z 59)] 1 6 (va_up σ 0 S, M, f) (fun r u => r = 2 ∧ u = (va_up σ 0 S, M, f)) := by
  intro ct sz hn hq hat
  refine qh_entry (cc := cL_foresee) (maxL := 5) (ret := (some .int)) (hh := [(0, 10, 13, 13), (0, 10, 17, 21)]) (by decide) rfl (Nat.le_of_ble_eq_true rfl) hn hq hat ?_
  intro p e s m below meth c ls C0 hK hT htab hsz h hl
  subst hsz
  obtain ⟨hx, hb, hr, hml, hown, hts, hlocks⟩ := id C0
  have hl : lv_has ls 5 [(0, .ref (za z 0)), (1, .int x), (2, .int y), (3, .ref (za z 59))] := hl
  refine lv_aload_n hx hb dL_foresee_0 rfl (lv_at hl 3 rfl) ?_
  refine lv_iconst (v := 0) hx hb dL_foresee_1 (by decide) ?_
  refine lv_aload_n hx hb dL_foresee_2 rfl (lv_at hl 0 rfl) ?_
  refine lv_iload_n hx hb dL_foresee_3 rfl (lv_at hl 1 rfl) ?_
  refine lv_iload_n hx hb dL_foresee_4 rfl (lv_at hl 2 rfl) ?_
  refine H_catch C0 hK hT h (c_X1_foresee_no2 l hlt z σ S hk x y h9 hno) (cwV 2 hts gL_foresee_X1_foresee rfl rfl rfl (by decide +kernel) ⟨Nat.le_of_ble_eq_true rfl, Nat.le_of_ble_eq_true rfl⟩) rfl hl.1 (rest := [.int 0, .ref (za z 59)]) rfl (Nat.le_of_ble_eq_true rfl) ⟨Nat.le_of_ble_eq_true rfl, Nat.le_of_ble_eq_true rfl⟩ dL_foresee_5 [⟨0, 10, 13, 13⟩] ⟨0, 10, 17, 21⟩ [] htab (hp_one (Or.inr ⟨(by decide), _, hts (.classLink RL 13 eA) (by decide +kernel), hK.2.2.2.2.2.2.2.2.2.2.2⟩)) (by decide) (by decide) (name := eB) (hts (.classLink RL 21 eB) (by decide +kernel)) hK.2.2.2.2.2.2.2.1.2.2 (fun q9 H locs h => ?_)
  refine lv_astore (lv' := [(4, .ref q9), (0, .ref (za z 0)), (1, .int x), (2, .int y), (3, .ref (za z 59))]) hx hb dL_foresee_17 hl (by decide) rfl (fun ls hl => ?_)
  refine lv_iconst (v := 2) hx hb dL_foresee_19 (by decide) ?_
  exact vx_ret (G_iret C0 hK h ⟨rfl, rfl⟩ (Nat.le_of_ble_eq_true rfl) (Nat.le_of_ble_eq_true rfl) dL_foresee_20)
set_option maxHeartbeats 4000000 in
set_option maxRecDepth 100000 in
theorem c_L_advise_ok (l : Launch) (hlt : l.stackTraces = false) (z : QZ) (σ : Nat → QLs) (S : QLs) (M : QMs) (f : Nat → Int64) (hk : LOk S) (n : Nat) (h1 : 1 ≤ n) (h2 : n ≤ 60) : HC l yL_advise wsL_advise ({ frames := 7, cells := 1, slots := 6, locals := 154 } : Room) z [.ref (za z 0), .int (nI n), .ref (za z 59)] 1 6 (va_up σ 0 S, M, f) (fun r u => r = 0 ∧ ∃ S2, u = (va_up (va_up σ 0 S) 1 S2, M, vp_updL f 0 ((qadvF S n (σ 1) (qp S)).1).toInt64)) := by
  intro ct sz hn hq hat
  refine qh_entry (cc := cL_advise) (maxL := 4) (ret := (some .int)) (hh := [(0, 9, 12, 13)]) (by decide) rfl (Nat.le_of_ble_eq_true rfl) hn hq hat ?_
  intro p e s m below meth c ls C0 hK hT htab hsz h hl
  subst hsz
  obtain ⟨hx, hb, hr, hml, hown, hts, hlocks⟩ := id C0
  have hl : lv_has ls 4 [(0, .ref (za z 0)), (1, .int (nI n)), (2, .ref (za z 59))] := hl
  refine lv_aload_n hx hb dL_advise_0 rfl (lv_at hl 2 rfl) ?_
  refine lv_iconst (v := 0) hx hb dL_advise_1 (by decide) ?_
  refine lv_aload_n hx hb dL_advise_2 rfl (lv_at hl 0 rfl) ?_
  refine lv_iload_n hx hb dL_advise_3 rfl (lv_at hl 1 rfl) ?_
  refine G_callVi C0 hK h (c_X1_advise_ok l z σ S hk n h1 h2) (fun _ h => h.1) (fun u => (u, M, f)) (fun ct ct2 u hA hX hF => hA.X hX hF) (Nat.le_refl _) (by decide) (cwV 1 hts gL_advise_X1_advise rfl rfl rfl (by decide +kernel) ⟨Nat.le_of_ble_eq_true rfl, Nat.le_of_ble_eq_true rfl⟩) (k := 0) (ci := 1) (by omega) (fun ct hA => hA.1.1) rfl rfl rfl hl.1 (rest := [.int 0, .ref (za z 59)]) rfl (Nat.le_of_ble_eq_true rfl) ⟨Nat.le_of_ble_eq_true rfl, Nat.le_of_ble_eq_true rfl⟩ dL_advise_4 (fun r u H locs hp h => ?_)
  obtain ⟨rfl, S2, rfl⟩ := hp
  refine lv_i2l hx hb dL_advise_7 rfl ?_
  refine G_last C0 hK h (k := 59) (by omega) (fun ct hA => hA.2.2) (j := 0) rfl (by decide) (by decide) (fun ct hA => hA.F) dL_advise_8 (fun H locs h => ?_)
  refine lv_goto (tgt := 15) hx hb dL_advise_9 (by decide) ?_
  refine lv_iconst (v := 0) hx hb dL_advise_15 (by decide) ?_
  exact vx_ret (G_iret C0 hK h ⟨rfl, _, rfl⟩ (Nat.le_of_ble_eq_true rfl) (Nat.le_of_ble_eq_true rfl) dL_advise_16)
set_option maxHeartbeats 4000000 in
set_option maxRecDepth 100000 in
theorem c_L_advise_no (l : Launch) (hlt : l.stackTraces = false) (z : QZ) (σ : Nat → QLs) (S : QLs) (M : QMs) (f : Nat → Int64) (hk : LOk S) (x : Int32) (hno : ¬ (1 ≤ x ∧ x ≤ 60)) : HC l yL_advise wsL_advise ({ frames := 8, cells := 1, slots := 6, locals := 127 } : Room) z [.ref (za z 0), .int x, .ref (za z 59)] 1 6 (va_up σ 0 S, M, f) (fun r u => r = 1 ∧ u = (va_up σ 0 S, M, f)) := by
  intro ct sz hn hq hat
  refine qh_entry (cc := cL_advise) (maxL := 4) (ret := (some .int)) (hh := [(0, 9, 12, 13)]) (by decide) rfl (Nat.le_of_ble_eq_true rfl) hn hq hat ?_
  intro p e s m below meth c ls C0 hK hT htab hsz h hl
  subst hsz
  obtain ⟨hx, hb, hr, hml, hown, hts, hlocks⟩ := id C0
  have hl : lv_has ls 4 [(0, .ref (za z 0)), (1, .int x), (2, .ref (za z 59))] := hl
  refine lv_aload_n hx hb dL_advise_0 rfl (lv_at hl 2 rfl) ?_
  refine lv_iconst (v := 0) hx hb dL_advise_1 (by decide) ?_
  refine lv_aload_n hx hb dL_advise_2 rfl (lv_at hl 0 rfl) ?_
  refine lv_iload_n hx hb dL_advise_3 rfl (lv_at hl 1 rfl) ?_
  refine H_catch C0 hK hT h (c_X1_advise_no l hlt z σ S hk x hno) (cwV 1 hts gL_advise_X1_advise rfl rfl rfl (by decide +kernel) ⟨Nat.le_of_ble_eq_true rfl, Nat.le_of_ble_eq_true rfl⟩) rfl hl.1 (rest := [.int 0, .ref (za z 59)]) rfl (Nat.le_of_ble_eq_true rfl) ⟨Nat.le_of_ble_eq_true rfl, Nat.le_of_ble_eq_true rfl⟩ dL_advise_4 [] ⟨0, 9, 12, 13⟩ [] htab (fun q hq => by cases hq) (by decide) (by decide) (name := eA) (hts (.classLink RL 13 eA) (by decide +kernel)) hK.2.2.2.2.2.2.2.1.1 (fun q9 H locs h => ?_)
  refine lv_astore_n (lv' := [(3, .ref q9), (0, .ref (za z 0)), (1, .int x), (2, .ref (za z 59))]) hx hb dL_advise_12 rfl hl (by decide) rfl (fun ls hl => ?_)
  refine lv_iconst (v := 1) hx hb dL_advise_13 (by decide) ?_
  exact vx_ret (G_iret C0 hK h ⟨rfl, rfl⟩ (Nat.le_of_ble_eq_true rfl) (Nat.le_of_ble_eq_true rfl) dL_advise_14)
set_option maxHeartbeats 4000000 in
set_option maxRecDepth 100000 in
theorem c_L_sated_ok (l : Launch) (hlt : l.stackTraces = false) (z : QZ) (σ : Nat → QLs) (S : QLs) (M : QMs) (f : Nat → Int64) (hk : LOk S) (t : Nat) (ht : t < qt S) : HC l yL_sated wsL_sated ({ frames := 6, cells := 1, slots := 6, locals := 128 } : Room) z [.ref (za z 0), .int (nI t), .ref (za z 59)] 1 6 (va_up σ 0 S, M, f) (fun r u => r = 0 ∧ ∃ S2, u = (va_up (va_up σ 0 S) 1 S2, M, vp_updL f 0 (qsatF (copyL S (σ 1)) t 100 0).toInt64)) := by
  intro ct sz hn hq hat
  refine qh_entry (cc := cL_sated) (maxL := 4) (ret := (some .int)) (hh := [(0, 9, 12, 21)]) (by decide) rfl (Nat.le_of_ble_eq_true rfl) hn hq hat ?_
  intro p e s m below meth c ls C0 hK hT htab hsz h hl
  subst hsz
  obtain ⟨hx, hb, hr, hml, hown, hts, hlocks⟩ := id C0
  have hl : lv_has ls 4 [(0, .ref (za z 0)), (1, .int (nI t)), (2, .ref (za z 59))] := hl
  refine lv_aload_n hx hb dL_sated_0 rfl (lv_at hl 2 rfl) ?_
  refine lv_iconst (v := 0) hx hb dL_sated_1 (by decide) ?_
  refine lv_aload_n hx hb dL_sated_2 rfl (lv_at hl 0 rfl) ?_
  refine lv_iload_n hx hb dL_sated_3 rfl (lv_at hl 1 rfl) ?_
  refine G_callVi C0 hK h (c_X1_sated_ok l z σ S hk t ht) (fun _ h => h.1) (fun u => (u, M, f)) (fun ct ct2 u hA hX hF => hA.X hX hF) (Nat.le_refl _) (by decide) (cwV 1 hts gL_sated_X1_sated rfl rfl rfl (by decide +kernel) ⟨Nat.le_of_ble_eq_true rfl, Nat.le_of_ble_eq_true rfl⟩) (k := 0) (ci := 1) (by omega) (fun ct hA => hA.1.1) rfl rfl rfl hl.1 (rest := [.int 0, .ref (za z 59)]) rfl (Nat.le_of_ble_eq_true rfl) ⟨Nat.le_of_ble_eq_true rfl, Nat.le_of_ble_eq_true rfl⟩ dL_sated_4 (fun r u H locs hp h => ?_)
  obtain ⟨rfl, S2, rfl⟩ := hp
  refine lv_i2l hx hb dL_sated_7 rfl ?_
  refine G_last C0 hK h (k := 59) (by omega) (fun ct hA => hA.2.2) (j := 0) rfl (by decide) (by decide) (fun ct hA => hA.F) dL_sated_8 (fun H locs h => ?_)
  refine lv_goto (tgt := 15) hx hb dL_sated_9 (by decide) ?_
  refine lv_iconst (v := 0) hx hb dL_sated_15 (by decide) ?_
  exact vx_ret (G_iret C0 hK h ⟨rfl, _, rfl⟩ (Nat.le_of_ble_eq_true rfl) (Nat.le_of_ble_eq_true rfl) dL_sated_16)
set_option maxHeartbeats 4000000 in
set_option maxRecDepth 100000 in
theorem c_L_sated_no (l : Launch) (hlt : l.stackTraces = false) (z : QZ) (σ : Nat → QLs) (S : QLs) (M : QMs) (f : Nat → Int64) (hk : LOk S) (x : Int32) (hno : ¬ qin x (qt S)) : HC l yL_sated wsL_sated ({ frames := 9, cells := 1, slots := 6, locals := 145 } : Room) z [.ref (za z 0), .int x, .ref (za z 59)] 1 6 (va_up σ 0 S, M, f) (fun r u => r = 1 ∧ u = (va_up σ 0 S, M, f)) := by
  intro ct sz hn hq hat
  refine qh_entry (cc := cL_sated) (maxL := 4) (ret := (some .int)) (hh := [(0, 9, 12, 21)]) (by decide) rfl (Nat.le_of_ble_eq_true rfl) hn hq hat ?_
  intro p e s m below meth c ls C0 hK hT htab hsz h hl
  subst hsz
  obtain ⟨hx, hb, hr, hml, hown, hts, hlocks⟩ := id C0
  have hl : lv_has ls 4 [(0, .ref (za z 0)), (1, .int x), (2, .ref (za z 59))] := hl
  refine lv_aload_n hx hb dL_sated_0 rfl (lv_at hl 2 rfl) ?_
  refine lv_iconst (v := 0) hx hb dL_sated_1 (by decide) ?_
  refine lv_aload_n hx hb dL_sated_2 rfl (lv_at hl 0 rfl) ?_
  refine lv_iload_n hx hb dL_sated_3 rfl (lv_at hl 1 rfl) ?_
  refine H_catch C0 hK hT h (c_X1_sated_no l hlt z σ S hk x hno) (cwV 1 hts gL_sated_X1_sated rfl rfl rfl (by decide +kernel) ⟨Nat.le_of_ble_eq_true rfl, Nat.le_of_ble_eq_true rfl⟩) rfl hl.1 (rest := [.int 0, .ref (za z 59)]) rfl (Nat.le_of_ble_eq_true rfl) ⟨Nat.le_of_ble_eq_true rfl, Nat.le_of_ble_eq_true rfl⟩ dL_sated_4 [] ⟨0, 9, 12, 21⟩ [] htab (fun q hq => by cases hq) (by decide) (by decide) (name := eB) (hts (.classLink RL 21 eB) (by decide +kernel)) hK.2.2.2.2.2.2.2.1.2.2 (fun q9 H locs h => ?_)
  refine lv_astore_n (lv' := [(3, .ref q9), (0, .ref (za z 0)), (1, .int x), (2, .ref (za z 59))]) hx hb dL_sated_12 rfl hl (by decide) rfl (fun ls hl => ?_)
  refine lv_iconst (v := 1) hx hb dL_sated_13 (by decide) ?_
  exact vx_ret (G_iret C0 hK h ⟨rfl, rfl⟩ (Nat.le_of_ble_eq_true rfl) (Nat.le_of_ble_eq_true rfl) dL_sated_14)
