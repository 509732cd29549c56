/-! PART 89: the law, the last checks -/
set_option maxHeartbeats 8000000 in
set_option maxRecDepth 100000 in
theorem law_F {p : Program} {l : Launch} {e : Env} {s : State} {m : MethodId} {below : List Frame} {meth : Method} {c : Code} {Q : State → Prop} {a0 i cl sl : Nat} {z : QZ} {ix : Nat → Nat} {b : Nat} {c1 : Nat → va_E} {X : QLs} (C0 : Cx p s m ([Value.ref a0] : List Value).toArray meth c cL_law 32 (some .boolean) RL wsL_law) (hK : QK z s) (hrm : cl ≤ room_1.cells ∧ sl ≤ room_1.slots) (hI : Inv i X) (hi : i < 40) (hb9 : 56 ≤ b) {X2 : QLs} (e2 : X2 = dayL X) {f : Nat → Nat × (Nat → Int32)} {Y : QLs} (hzn : zn z = b + 3) (kk : ∀ (H : Heap) (locs : List Loc) (ls : Array Slot), GN z ix s.heap c1 (X2, Y, X2, f) H locs → lv_has ls 32 [(3, .int (nI (i + 1))), (2, .ref (za z 55)), (1, .ref (za z 0)), (0, .ref a0)] → W p l e room_1 s m ([Value.ref a0] : List Value).toArray below meth c H locs cl sl Q (F0 m 22 ls [])) {H : Heap} {locs : List Loc} {ls : Array Slot} (h : GW z (UAt z ix (qt X) (qp X) b 3) 0 (b + 3) s.heap c1 (X2, Y, X2, f) H locs) (hl : lv_has ls 32 [(27, .int (qmx (fun j => qP X2 j 6) (qp X))), (26, .int (qsum (fun j => qP X2 j 4) (qp X))), (25, .int (qsum (fun j => qP X2 j 6) (qp X))), (24, .int (qsum (fun j => qT X2 j 3) (qt X))), (23, .int (qthc X2 (qt X))), (22, .int (qsum (fun j => qT X2 j 5) (qt X))), (18, .int (sumT X2 6 - sumT X 6)), (19, .int (sumP X2 7 - sumP X 7)), (20, .int (sumT X2 3)), (21, .int (sumP X2 4)), (15, .ref (za z (b + 2))), (14, .ref (za z (b + 1))), (13, .ref (za z (b + 0))), (5, .int (nI (qt X))), (6, .int (nI (qp X))), (7, .int (sumT X 3)), (8, .int (sumT X 4)), (9, .int (sumT X 6)), (10, .int (sumP X 7)), (11, .int (sumT X 7)), (12, .int (qD X)), (3, .int (nI i)), (2, .ref (za z 55)), (1, .ref (za z 0)), (0, .ref a0)]) : W p l e room_1 s m ([Value.ref a0] : List Value).toArray below meth c H locs cl sl Q (F0 m 1080 ls []) := by
  obtain ⟨hx, hb, hr, hml, hown, hts, hlocks⟩ := id C0
  have hk := hI.ok
  have hk1 := hk.1
  have hk0 := hk.2.1
  have hI2 : Inv (i + 1) X2 := by rw [e2]; exact hI.day (by omega)
  have hk2 := hI2.ok
  have et : qt X2 = qt X := by rw [e2]; exact (shp_day X).1
  have eq9 : qp X2 = qp X := by rw [e2]; exact (shp_day X).2.1
  have hls := law_sums hI (by omega)
  rw [← e2] at hls
  have em : qmx (fun j => qP X2 j 6) (qp X) = qmx (fun j => qP X2 j 6) (qp X2) := by rw [eq9]
  have hsm := (sus_mx X2 (qp X2) (by omega)).2
  refine lv_iload hx hb dL_law_1080 (lv_at hl 5 rfl) ?_
  refine lv_iload hx hb dL_law_1082 (lv_at hl 6 rfl) ?_
  refine lv_icmp_ne (tgt := 1164) hx hb dL_law_1084 (by decide) (fun q9 => absurd hls.1 q9) (fun _ => ?_)
  refine lv_iload hx hb dL_law_1087 (lv_at hl 2 rfl) ?_
  refine lv_iload hx hb dL_law_1089 (lv_at hl 7 rfl) ?_
  refine lv_icmp_ne (tgt := 1164) hx hb dL_law_1091 (by decide) (fun q9 => absurd hls.2 q9) (fun _ => ?_)
  refine lv_iload hx hb dL_law_1094 (lv_at hl 1 rfl) ?_
  refine lv_iload hx hb dL_law_1096 (lv_at hl 9 rfl) ?_
  refine lv_icmp_ne (tgt := 1164) hx hb dL_law_1098 (by decide) (fun q9 => absurd (by rw [← eq9]; rfl) q9) (fun _ => ?_)
  refine lv_iload hx hb dL_law_1101 (lv_at hl 3 rfl) ?_
  refine lv_iload hx hb dL_law_1103 (lv_at hl 8 rfl) ?_
  refine lv_icmp_ne (tgt := 1164) hx hb dL_law_1105 (by decide) (fun q9 => absurd (by rw [← et]; rfl) q9) (fun _ => ?_)
  refine lv_aload_n hx hb dL_law_1108 rfl (lv_at hl 23 rfl) ?_
  refine lv_bipush (v := 8) hx hb dL_law_1109 (by decide) ?_
  refine S_callVi C0 hK h (k_count hk2 8 (by omega)) (cwV 1 hts gL_law_X1_count rfl rfl rfl (by decide +kernel) ⟨Nat.le_of_ble_eq_true rfl, Nat.le_of_ble_eq_true rfl⟩) (k := 0) (ci := 1) (by omega) (fun ct hA => hA.1.1) rfl rfl rfl hl.1 (rest := []) rfl (Nat.le_of_ble_eq_true rfl) hrm dL_law_1111 (fun r u H locs hp h => ?_)
  obtain ⟨er9, hu9⟩ := hp
  rw [hu9] at h
  have er9 : r = qthc X2 (qt X2) := er9
  subst er9
  refine lv_iload hx hb dL_law_1114 (lv_at hl 4 rfl) ?_
  refine lv_icmp_ne (tgt := 1164) hx hb dL_law_1116 (by decide) (fun q9 => absurd (by rw [et]) q9) (fun _ => ?_)
  rcases hsm with ⟨hs1, hm1, -⟩ | ⟨j9, hj9, hs1, hm1, hp9, -, -⟩
  · refine lv_aload_n hx hb dL_law_1119 rfl (lv_at hl 23 rfl) ?_
    refine S_callVi C0 hK h (k_suspect hk2) (cwV 0 hts gL_law_X1_suspect rfl rfl rfl (by decide +kernel) ⟨Nat.le_of_ble_eq_true rfl, Nat.le_of_ble_eq_true rfl⟩) (k := 0) (ci := 1) (by omega) (fun ct hA => hA.1.1) rfl rfl rfl hl.1 (rest := []) rfl (Nat.le_of_ble_eq_true rfl) hrm dL_law_1120 (fun r u H locs hp h => ?_)
    obtain ⟨er9, hu9⟩ := hp
    rw [hu9] at h
    have er9 : r = (qsus X2 (qp X2)).1 := er9
    subst er9
    refine lv_if_lt (tgt := 1130) hx hb dL_law_1123 (by decide) (fun _ => ?_) (fun q9 => absurd (by rw [hs1]; decide) q9)
    refine lv_iconst (v := 0) hx hb dL_law_1130 (by decide) ?_
    refine lv_iload hx hb dL_law_1131 (lv_at hl 0 rfl) ?_
    refine lv_if_le (tgt := 1140) hx hb dL_law_1133 (by decide) (fun _ => ?_) (fun q9 => absurd (by rw [em, hm1]; decide) q9)
    refine lv_iconst (v := 0) hx hb dL_law_1140 (by decide) ?_
    refine lv_icmp_ne (tgt := 1164) hx hb dL_law_1141 (by decide) (fun q9 => absurd (by decide) q9) (fun _ => ?_)
    refine lv_iload hx hb dL_law_1144 (lv_at hl 0 rfl) ?_
    refine lv_if_le (tgt := 1166) hx hb dL_law_1146 (by decide) (fun _ => ?_) (fun q9 => absurd (by rw [em, hm1]; decide) q9)
    refine lv_iinc (v := nI (i + 1)) (lv' := [(3, .int (nI (i + 1))), (27, .int (qmx (fun j => qP X2 j 6) (qp X))), (26, .int (qsum (fun j => qP X2 j 4) (qp X))), (25, .int (qsum (fun j => qP X2 j 6) (qp X))), (24, .int (qsum (fun j => qT X2 j 3) (qt X))), (23, .int (qthc X2 (qt X))), (22, .int (qsum (fun j => qT X2 j 5) (qt X))), (18, .int (sumT X2 6 - sumT X 6)), (19, .int (sumP X2 7 - sumP X 7)), (20, .int (sumT X2 3)), (21, .int (sumP X2 4)), (15, .ref (za z (b + 2))), (14, .ref (za z (b + 1))), (13, .ref (za z (b + 0))), (5, .int (nI (qt X))), (6, .int (nI (qp X))), (7, .int (sumT X 3)), (8, .int (sumT X 4)), (9, .int (sumT X 6)), (10, .int (sumP X 7)), (11, .int (sumT X 7)), (12, .int (qD X)), (2, .ref (za z 55)), (1, .ref (za z 0)), (0, .ref a0)]) hx hb dL_law_1166 hl (k := 21) rfl (q_inc i 1) (by decide) rfl (fun ls hl => ?_)
    refine lv_goto (tgt := 22) hx hb dL_law_1169 (by decide) ?_
    have h : GN z ix s.heap c1 (X2, Y, X2, f) H locs := by show GW z (UAt z ix (qt X2) (qp X2) (zn z) 0) 0 (zn z + 0) _ _ _ _ _; rw [hzn, et, eq9]; exact h.imp (fun ct hA => hA.drop (b + 3) (by omega))
    exact kk _ _ _ h (lv_sub hl [0, 22, 23, 24] rfl)
  · refine lv_aload_n hx hb dL_law_1119 rfl (lv_at hl 23 rfl) ?_
    refine S_callVi C0 hK h (k_suspect hk2) (cwV 0 hts gL_law_X1_suspect rfl rfl rfl (by decide +kernel) ⟨Nat.le_of_ble_eq_true rfl, Nat.le_of_ble_eq_true rfl⟩) (k := 0) (ci := 1) (by omega) (fun ct hA => hA.1.1) rfl rfl rfl hl.1 (rest := []) rfl (Nat.le_of_ble_eq_true rfl) hrm dL_law_1120 (fun r u H locs hp h => ?_)
    obtain ⟨er9, hu9⟩ := hp
    rw [hu9] at h
    have er9 : r = (qsus X2 (qp X2)).1 := er9
    subst er9
    refine lv_if_lt (tgt := 1130) hx hb dL_law_1123 (by decide) (fun q9 => absurd q9 (by rw [hs1]; exact nI_pos (by omega))) (fun _ => ?_)
    refine lv_iconst (v := 1) hx hb dL_law_1126 (by decide) ?_
    refine lv_goto (tgt := 1131) hx hb dL_law_1127 (by decide) ?_
    refine lv_iload hx hb dL_law_1131 (lv_at hl 0 rfl) ?_
    refine lv_if_le (tgt := 1140) hx hb dL_law_1133 (by decide) (fun q9 => absurd q9 (by rw [em, ← hm1]; exact Int32.not_le.mpr hp9)) (fun _ => ?_)
    refine lv_iconst (v := 1) hx hb dL_law_1136 (by decide) ?_
    refine lv_goto (tgt := 1141) hx hb dL_law_1137 (by decide) ?_
    refine lv_icmp_ne (tgt := 1164) hx hb dL_law_1141 (by decide) (fun q9 => absurd (by decide) q9) (fun _ => ?_)
    refine lv_iload hx hb dL_law_1144 (lv_at hl 0 rfl) ?_
    refine lv_if_le (tgt := 1166) hx hb dL_law_1146 (by decide) (fun q9 => absurd q9 (by rw [em, ← hm1]; exact Int32.not_le.mpr hp9)) (fun _ => ?_)
    refine lv_aload_n hx hb dL_law_1149 rfl (lv_at hl 23 rfl) ?_
    refine lv_aload_n hx hb dL_law_1150 rfl (lv_at hl 23 rfl) ?_
    refine S_callVi C0 hK h (k_suspect hk2) (cwV 0 hts gL_law_X1_suspect rfl rfl rfl (by decide +kernel) ⟨Nat.le_of_ble_eq_true rfl, Nat.le_of_ble_eq_true rfl⟩) (k := 0) (ci := 1) (by omega) (fun ct hA => hA.1.1) rfl rfl rfl hl.1 (rest := [.ref (za z 0)]) rfl (Nat.le_of_ble_eq_true rfl) hrm dL_law_1151 (fun r u H locs hp h => ?_)
    obtain ⟨er9, hu9⟩ := hp
    rw [hu9] at h
    have er9 : r = (qsus X2 (qp X2)).1 := er9
    subst er9
    refine lv_bipush (v := 6) hx hb dL_law_1154 (by decide) ?_
    refine S_callVi C0 hK h (k_pipe hk2 j9 (by omega) 6 (by omega)) (cwV 2 hts gL_law_X1_pipe rfl rfl rfl (by decide +kernel) ⟨Nat.le_of_ble_eq_true rfl, Nat.le_of_ble_eq_true rfl⟩) (k := 0) (ci := 1) (by omega) (fun ct hA => hA.1.1) rfl rfl rfl hl.1 (rest := []) (by rw [hs1]; rfl) (Nat.le_of_ble_eq_true rfl) hrm dL_law_1156 (fun r u H locs hp h => ?_)
    obtain ⟨er9, hu9⟩ := hp
    rw [hu9] at h
    have er9 : r = qP X2 j9 6 := er9
    subst er9
    refine lv_iload hx hb dL_law_1159 (lv_at hl 0 rfl) ?_
    refine lv_icmp_eq (tgt := 1166) hx hb dL_law_1161 (by decide) (fun _ => ?_) (fun q9 => absurd (by rw [em]; exact hm1) q9)
    refine lv_iinc (v := nI (i + 1)) (lv' := [(3, .int (nI (i + 1))), (27, .int (qmx (fun j => qP X2 j 6) (qp X))), (26, .int (qsum (fun j => qP X2 j 4) (qp X))), (25, .int (qsum (fun j => qP X2 j 6) (qp X))), (24, .int (qsum (fun j => qT X2 j 3) (qt X))), (23, .int (qthc X2 (qt X))), (22, .int (qsum (fun j => qT X2 j 5) (qt X))), (18, .int (sumT X2 6 - sumT X 6)), (19, .int (sumP X2 7 - sumP X 7)), (20, .int (sumT X2 3)), (21, .int (sumP X2 4)), (15, .ref (za z (b + 2))), (14, .ref (za z (b + 1))), (13, .ref (za z (b + 0))), (5, .int (nI (qt X))), (6, .int (nI (qp X))), (7, .int (sumT X 3)), (8, .int (sumT X 4)), (9, .int (sumT X 6)), (10, .int (sumP X 7)), (11, .int (sumT X 7)), (12, .int (qD X)), (2, .ref (za z 55)), (1, .ref (za z 0)), (0, .ref a0)]) hx hb dL_law_1166 hl (k := 21) rfl (q_inc i 1) (by decide) rfl (fun ls hl => ?_)
    refine lv_goto (tgt := 22) hx hb dL_law_1169 (by decide) ?_
    have h : GN z ix s.heap c1 (X2, Y, X2, f) H locs := by show GW z (UAt z ix (qt X2) (qp X2) (zn z) 0) 0 (zn z + 0) _ _ _ _ _; rw [hzn, et, eq9]; exact h.imp (fun ct hA => hA.drop (b + 3) (by omega))
    exact kk _ _ _ h (lv_sub hl [0, 22, 23, 24] rfl)
