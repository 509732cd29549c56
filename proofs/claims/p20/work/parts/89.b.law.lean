/-! PART 89b: the law, what is done -/
set_option maxHeartbeats 8000000 in
set_option maxRecDepth 100000 in
theorem law_A {p : Program} {l : Launch} {e : Env} {s : State} {m : MethodId} {below : List Frame} {meth : Method} {c : Code} {Q : State → Prop} {a0 L i cl sl : Nat} {xs : Nat → Int32} {z z8 : QZ} {ix : Nat → Nat} {c1 : Nat → va_E} {X Y : QLs} {f : Nat → Nat × (Nat → Int32)} (C0 : Cx p s m ([Value.ref a0] : List Value).toArray meth c cL_law 32 (some .boolean) RL wsL_law) (hX : va_X a0 L xs s s.heap) (hbl : a0 < s.heap.size) (hnA : ¬ qA (zn z) (za z) s.heap.size a0) (hL : L ≤ 260) (hK : QK z s) (hcl : cl + 5 ≤ 600104) (hsl : sl + 58 ≤ 7301314) (hI : Inv i X) (hi : i < 40)  (kk : ∀ (z : QZ) (ix : Nat → Nat) (b : Nat) (X Y : QLs) (c1 : Nat → va_E) (f : Nat → Nat × (Nat → Int32)) (H : Heap) (locs : List Loc) (ls : Array Slot), XZ s.heap.size z8 z → QK z s → Inv i X → zn z = b + 3 → 56 ≤ b → f 0 = (qp X, fun _ => 0) → f 1 = (qt X, fun _ => 0) → f 2 = (qt X, fun _ => 0) → GW z (UAt z ix (qt X) (qp X) b 3) 0 (b + 3) s.heap c1 (X, Y, X, f) H locs → lv_has ls 32 [(18, .int 0), (17, .int 0), (16, .int 0), (15, .ref (za z (b + 2))), (14, .ref (za z (b + 1))), (13, .ref (za z (b + 0))), (5, .int (nI (qt X))), (6, .int (nI (qp X))), (7, .int (sumT X 3)), (8, .int (sumT X 4)), (9, .int (sumT X 6)), (10, .int (sumP X 7)), (11, .int (sumT X 7)), (12, .int (qD X)), (3, .int (nI i)), (2, .ref (za z 55)), (1, .ref (za z 0)), (0, .ref a0)] → W p l e room_1 s m ([Value.ref a0] : List Value).toArray below meth c H locs (cl + 5) (sl + 58) Q (F0 m 148 ls [])) (hz8 : z8 = z) {H : Heap} {locs : List Loc} {ls : Array Slot} (h : GN z ix s.heap c1 (X, Y, X, f) H locs) (hl : lv_has ls 32 [(3, .int (nI i)), (2, .ref (za z 55)), (1, .ref (za z 0)), (0, .ref a0)]) : W p l e room_1 s m ([Value.ref a0] : List Value).toArray below meth c H locs cl sl Q (F0 m 22 ls []) := by
  obtain ⟨hx, hb, hr, hml, hown, hts, hlocks⟩ := id C0
  subst hz8
  have h56 : 56 ≤ zn z8 := (gw_ix h).1.1.2.2
  refine lv_iload_n hx hb dL_law_22 rfl (lv_at hl 0 rfl) ?_
  refine lv_bipush (v := 40) hx hb dL_law_23 (by decide) ?_
  refine lv_icmp_ge (tgt := 1172) hx hb dL_law_25 (by decide) (fun q9 => absurd q9 (show ¬ (40 : Int32) ≤ nI i from nI_ge (a := i) (b := 40) (by omega) (by decide))) (fun _ => ?_)
  refine lv_aload_n hx hb dL_law_28 rfl (lv_at hl 3 rfl) ?_
  refine lv_iload_n hx hb dL_law_29 rfl (lv_at hl 0 rfl) ?_
  refine lv_bipush (v := 16) hx hb dL_law_30 (by decide) ?_
  refine lv_irem hx hb dL_law_32 (by decide) ?_
  refine lv_topi (fun y9 ey9 => ?_)
  have ey9 : y9 = nI (i % 16) := ey9.trans (rem_nn (n := 16) (by omega) (by decide) (by decide))
  subst ey9
  have hk16 : i % 16 < 16 := Nat.mod_lt _ (by decide)
  refine cell_call (k := i % 16) C0 hX hbl hnA h hL (by omega) (va_cwS 2 hts gL_law_L_cell rfl rfl rfl (by decide +kernel) ⟨Nat.le_of_ble_eq_true rfl, Nat.le_of_ble_eq_true rfl⟩) hl.1 (Nat.le_of_ble_eq_true rfl) ⟨by show _ ≤ 600104; omega, by show _ ≤ 7301314; omega⟩ dL_law_33 (fun r9 H locs h => ?_)
  refine lv_iload_n hx hb dL_law_36 rfl (lv_at hl 0 rfl) ?_
  refine lv_bipush (v := 16) hx hb dL_law_37 (by decide) ?_
  refine lv_idiv hx hb dL_law_39 (by decide) ?_
  refine lv_iconst (v := 3) hx hb dL_law_40 (by decide) ?_
  refine lv_imul hx hb dL_law_41 ?_
  refine lv_ishr hx hb dL_law_42 ?_
  refine lv_sipush (v := 149) hx hb dL_law_43 (by decide) ?_
  refine lv_iload_n hx hb dL_law_46 rfl (lv_at hl 0 rfl) ?_
  refine lv_imul hx hb dL_law_47 ?_
  refine lv_iadd hx hb dL_law_48 ?_
  refine lv_topi (fun x9 _ => ?_)
  refine lv_istore (lv' := [(4, .int x9), (3, .int (nI i)), (2, .ref (za z8 55)), (1, .ref (za z8 0)), (0, .ref a0)]) hx hb dL_law_49 hl (by decide) rfl (fun ls hl => ?_)
  refine lv_aload_n hx hb dL_law_51 rfl (lv_at hl 3 rfl) ?_
  refine lv_aload_n hx hb dL_law_52 rfl (lv_at hl 2 rfl) ?_
  refine lv_iload hx hb dL_law_53 (lv_at hl 0 rfl) ?_
  refine N_callSi C0 hK h (c_L_act hI x9) (va_cwS 3 hts gL_law_L_act rfl rfl rfl (by decide +kernel) ⟨Nat.le_of_ble_eq_true rfl, Nat.le_of_ble_eq_true rfl⟩) rfl hl.1 (rest := []) rfl (Nat.le_of_ble_eq_true rfl) ⟨by show _ + 2 ≤ 600104; omega, by show _ + 24 ≤ 7301314; omega⟩ dL_law_55 (fun r z3 ix3 u3 c3 H locs hp hX3 hK h => ?_)
  obtain ⟨rfl, X3, Y3, hu, hI3⟩ := hp
  have hu : u3 = (X3, Y3, X3, f) := hu
  subst hu
  rw [← hX3.2.2.1 0 (by omega), ← hX3.2.2.1 55 (by omega)] at hl
  have hk3 := hI3.ok
  have hk1 := hk3.1
  have hk0 := hk3.2.1
  have h563 : 56 ≤ zn z3 := (gw_ix h).1.1.2.2
  obtain ⟨b, hb9⟩ : ∃ b, b = zn z3 := ⟨_, rfl⟩
  have h : GW z3 (UAt z3 ix3 (qt X3) (qp X3) b 0) 0 (b + 0) s.heap c3 (X3, Y3, X3, f) H locs := by rw [hb9]; exact h
  refine lv_if_ne (tgt := 63) hx hb dL_law_58 (by decide) (fun _ => ?_) (fun q9 => absurd q9 (by decide))
  refine lv_aload_n hx hb dL_law_63 rfl (lv_at hl 3 rfl) ?_
  refine lv_iconst (v := 1) hx hb dL_law_64 (by decide) ?_
  refine S_callVi C0 hK h (k_count hk3 1 (by omega)) (cwV 1 hts gL_law_X1_count rfl rfl rfl (by decide +kernel) ⟨Nat.le_of_ble_eq_true rfl, Nat.le_of_ble_eq_true rfl⟩) (k := 0) (ci := 1) (by omega) (fun ct hA => hA.1.1) rfl rfl rfl hl.1 (rest := []) rfl (Nat.le_of_ble_eq_true rfl) ⟨by show _ ≤ 600104; omega, by show _ ≤ 7301314; omega⟩ dL_law_65 (fun r u H locs hp h => ?_)
  obtain ⟨er9, hu9⟩ := hp
  rw [hu9] at h
  have er9 : r = nI (qt X3) := er9
  subst er9
  refine lv_istore (lv' := [(5, .int (nI (qt X3))), (4, .int x9), (3, .int (nI i)), (2, .ref (za z3 55)), (1, .ref (za z3 0)), (0, .ref a0)]) hx hb dL_law_68 hl (by decide) rfl (fun ls hl => ?_)
  refine lv_aload_n hx hb dL_law_70 rfl (lv_at hl 4 rfl) ?_
  refine lv_iconst (v := 2) hx hb dL_law_71 (by decide) ?_
  refine S_callVi C0 hK h (k_count hk3 2 (by omega)) (cwV 1 hts gL_law_X1_count rfl rfl rfl (by decide +kernel) ⟨Nat.le_of_ble_eq_true rfl, Nat.le_of_ble_eq_true rfl⟩) (k := 0) (ci := 1) (by omega) (fun ct hA => hA.1.1) rfl rfl rfl hl.1 (rest := []) rfl (Nat.le_of_ble_eq_true rfl) ⟨by show _ ≤ 600104; omega, by show _ ≤ 7301314; omega⟩ dL_law_72 (fun r u H locs hp h => ?_)
  obtain ⟨er9, hu9⟩ := hp
  rw [hu9] at h
  have er9 : r = nI (qp X3) := er9
  subst er9
  refine lv_istore (lv' := [(6, .int (nI (qp X3))), (5, .int (nI (qt X3))), (4, .int x9), (3, .int (nI i)), (2, .ref (za z3 55)), (1, .ref (za z3 0)), (0, .ref a0)]) hx hb dL_law_75 hl (by decide) rfl (fun ls hl => ?_)
  refine lv_aload_n hx hb dL_law_77 rfl (lv_at hl 5 rfl) ?_
  refine lv_iconst (v := 3) hx hb dL_law_78 (by decide) ?_
  refine S_callVi C0 hK h (k_count hk3 3 (by omega)) (cwV 1 hts gL_law_X1_count rfl rfl rfl (by decide +kernel) ⟨Nat.le_of_ble_eq_true rfl, Nat.le_of_ble_eq_true rfl⟩) (k := 0) (ci := 1) (by omega) (fun ct hA => hA.1.1) rfl rfl rfl hl.1 (rest := []) rfl (Nat.le_of_ble_eq_true rfl) ⟨by show _ ≤ 600104; omega, by show _ ≤ 7301314; omega⟩ dL_law_79 (fun r u H locs hp h => ?_)
  obtain ⟨er9, hu9⟩ := hp
  rw [hu9] at h
  have er9 : r = sumT X3 3 := er9
  subst er9
  refine lv_istore (lv' := [(7, .int (sumT X3 3)), (6, .int (nI (qp X3))), (5, .int (nI (qt X3))), (4, .int x9), (3, .int (nI i)), (2, .ref (za z3 55)), (1, .ref (za z3 0)), (0, .ref a0)]) hx hb dL_law_82 hl (by decide) rfl (fun ls hl => ?_)
  refine lv_aload_n hx hb dL_law_84 rfl (lv_at hl 6 rfl) ?_
  refine lv_iconst (v := 4) hx hb dL_law_85 (by decide) ?_
  refine S_callVi C0 hK h (k_count hk3 4 (by omega)) (cwV 1 hts gL_law_X1_count rfl rfl rfl (by decide +kernel) ⟨Nat.le_of_ble_eq_true rfl, Nat.le_of_ble_eq_true rfl⟩) (k := 0) (ci := 1) (by omega) (fun ct hA => hA.1.1) rfl rfl rfl hl.1 (rest := []) rfl (Nat.le_of_ble_eq_true rfl) ⟨by show _ ≤ 600104; omega, by show _ ≤ 7301314; omega⟩ dL_law_86 (fun r u H locs hp h => ?_)
  obtain ⟨er9, hu9⟩ := hp
  rw [hu9] at h
  have er9 : r = sumT X3 4 := er9
  subst er9
  refine lv_istore (lv' := [(8, .int (sumT X3 4)), (7, .int (sumT X3 3)), (6, .int (nI (qp X3))), (5, .int (nI (qt X3))), (4, .int x9), (3, .int (nI i)), (2, .ref (za z3 55)), (1, .ref (za z3 0)), (0, .ref a0)]) hx hb dL_law_89 hl (by decide) rfl (fun ls hl => ?_)
  refine lv_aload_n hx hb dL_law_91 rfl (lv_at hl 7 rfl) ?_
  refine lv_iconst (v := 5) hx hb dL_law_92 (by decide) ?_
  refine S_callVi C0 hK h (k_count hk3 5 (by omega)) (cwV 1 hts gL_law_X1_count rfl rfl rfl (by decide +kernel) ⟨Nat.le_of_ble_eq_true rfl, Nat.le_of_ble_eq_true rfl⟩) (k := 0) (ci := 1) (by omega) (fun ct hA => hA.1.1) rfl rfl rfl hl.1 (rest := []) rfl (Nat.le_of_ble_eq_true rfl) ⟨by show _ ≤ 600104; omega, by show _ ≤ 7301314; omega⟩ dL_law_93 (fun r u H locs hp h => ?_)
  obtain ⟨er9, hu9⟩ := hp
  rw [hu9] at h
  have er9 : r = sumT X3 6 := er9
  subst er9
  refine lv_istore (lv' := [(9, .int (sumT X3 6)), (8, .int (sumT X3 4)), (7, .int (sumT X3 3)), (6, .int (nI (qp X3))), (5, .int (nI (qt X3))), (4, .int x9), (3, .int (nI i)), (2, .ref (za z3 55)), (1, .ref (za z3 0)), (0, .ref a0)]) hx hb dL_law_96 hl (by decide) rfl (fun ls hl => ?_)
  refine lv_aload_n hx hb dL_law_98 rfl (lv_at hl 8 rfl) ?_
  refine lv_bipush (v := 6) hx hb dL_law_99 (by decide) ?_
  refine S_callVi C0 hK h (k_count hk3 6 (by omega)) (cwV 1 hts gL_law_X1_count rfl rfl rfl (by decide +kernel) ⟨Nat.le_of_ble_eq_true rfl, Nat.le_of_ble_eq_true rfl⟩) (k := 0) (ci := 1) (by omega) (fun ct hA => hA.1.1) rfl rfl rfl hl.1 (rest := []) rfl (Nat.le_of_ble_eq_true rfl) ⟨by show _ ≤ 600104; omega, by show _ ≤ 7301314; omega⟩ dL_law_101 (fun r u H locs hp h => ?_)
  obtain ⟨er9, hu9⟩ := hp
  rw [hu9] at h
  have er9 : r = sumP X3 7 := er9
  subst er9
  refine lv_istore (lv' := [(10, .int (sumP X3 7)), (9, .int (sumT X3 6)), (8, .int (sumT X3 4)), (7, .int (sumT X3 3)), (6, .int (nI (qp X3))), (5, .int (nI (qt X3))), (4, .int x9), (3, .int (nI i)), (2, .ref (za z3 55)), (1, .ref (za z3 0)), (0, .ref a0)]) hx hb dL_law_104 hl (by decide) rfl (fun ls hl => ?_)
  refine lv_aload_n hx hb dL_law_106 rfl (lv_at hl 9 rfl) ?_
  refine lv_bipush (v := 7) hx hb dL_law_107 (by decide) ?_
  refine S_callVi C0 hK h (k_count hk3 7 (by omega)) (cwV 1 hts gL_law_X1_count rfl rfl rfl (by decide +kernel) ⟨Nat.le_of_ble_eq_true rfl, Nat.le_of_ble_eq_true rfl⟩) (k := 0) (ci := 1) (by omega) (fun ct hA => hA.1.1) rfl rfl rfl hl.1 (rest := []) rfl (Nat.le_of_ble_eq_true rfl) ⟨by show _ ≤ 600104; omega, by show _ ≤ 7301314; omega⟩ dL_law_109 (fun r u H locs hp h => ?_)
  obtain ⟨er9, hu9⟩ := hp
  rw [hu9] at h
  have er9 : r = sumT X3 7 := er9
  subst er9
  refine lv_istore (lv' := [(11, .int (sumT X3 7)), (10, .int (sumP X3 7)), (9, .int (sumT X3 6)), (8, .int (sumT X3 4)), (7, .int (sumT X3 3)), (6, .int (nI (qp X3))), (5, .int (nI (qt X3))), (4, .int x9), (3, .int (nI i)), (2, .ref (za z3 55)), (1, .ref (za z3 0)), (0, .ref a0)]) hx hb dL_law_112 hl (by decide) rfl (fun ls hl => ?_)
  refine lv_aload_n hx hb dL_law_114 rfl (lv_at hl 10 rfl) ?_
  refine lv_iconst (v := 0) hx hb dL_law_115 (by decide) ?_
  refine S_callVi C0 hK h (k_count hk3 0 (by omega)) (cwV 1 hts gL_law_X1_count rfl rfl rfl (by decide +kernel) ⟨Nat.le_of_ble_eq_true rfl, Nat.le_of_ble_eq_true rfl⟩) (k := 0) (ci := 1) (by omega) (fun ct hA => hA.1.1) rfl rfl rfl hl.1 (rest := []) rfl (Nat.le_of_ble_eq_true rfl) ⟨by show _ ≤ 600104; omega, by show _ ≤ 7301314; omega⟩ dL_law_116 (fun r u H locs hp h => ?_)
  obtain ⟨er9, hu9⟩ := hp
  rw [hu9] at h
  have er9 : r = qD X3 := er9
  subst er9
  refine lv_istore (lv' := [(12, .int (qD X3)), (11, .int (sumT X3 7)), (10, .int (sumP X3 7)), (9, .int (sumT X3 6)), (8, .int (sumT X3 4)), (7, .int (sumT X3 3)), (6, .int (nI (qp X3))), (5, .int (nI (qt X3))), (4, .int x9), (3, .int (nI i)), (2, .ref (za z3 55)), (1, .ref (za z3 0)), (0, .ref a0)]) hx hb dL_law_119 hl (by decide) rfl (fun ls hl => ?_)
  refine lv_iload hx hb dL_law_121 (lv_at hl 6 rfl) ?_
  refine U_ni2 C0 hK h (show zn z3 = b + 0 by omega) (by decide +kernel) (len := qp X3) rfl (by omega) (by show _ + 1 ≤ 600104; omega) (by show _ + qp X3 ≤ 7301314; omega) dL_law_123 (fun zq1 cq2 H fq3 hX9 hznzq1 hK hfq3 hofq3 h => ?_)
  have ea4 := hX9.2.2.1 55 (by omega)
  have ea5 := hX9.2.2.1 0 (by omega)
  rw [← ea4, ← ea5] at hl
  have hXzq1 := hX3.tr hX9 (Nat.le_refl _)
  refine lv_astore (lv' := [(13, .ref (za zq1 (b + 0))), (12, .int (qD X3)), (11, .int (sumT X3 7)), (10, .int (sumP X3 7)), (9, .int (sumT X3 6)), (8, .int (sumT X3 4)), (7, .int (sumT X3 3)), (6, .int (nI (qp X3))), (5, .int (nI (qt X3))), (4, .int x9), (3, .int (nI i)), (2, .ref (za zq1 55)), (1, .ref (za zq1 0)), (0, .ref a0)]) hx hb dL_law_125 hl (by decide) rfl (fun ls hl => ?_)
  refine lv_iload hx hb dL_law_127 (lv_at hl 8 rfl) ?_
  refine U_ni2 C0 hK h hznzq1 (by decide +kernel) (len := qt X3) rfl (by omega) (by show _ + 1 ≤ 600104; omega) (by show _ + qt X3 ≤ 7301314; omega) dL_law_129 (fun zq6 cq7 H fq8 hX9 hznzq6 hK hfq8 hofq8 h => ?_)
  have hf9 := (hofq8 0 (by omega)).trans hfq3
  have ea10 := hX9.2.2.1 (b + 0) (by omega)
  have ea11 := hX9.2.2.1 55 (by omega)
  have ea12 := hX9.2.2.1 0 (by omega)
  rw [← ea10, ← ea11, ← ea12] at hl
  have hXzq6 := hXzq1.tr hX9 (Nat.le_refl _)
  refine lv_astore (lv' := [(14, .ref (za zq6 (b + 1))), (13, .ref (za zq6 (b + 0))), (12, .int (qD X3)), (11, .int (sumT X3 7)), (10, .int (sumP X3 7)), (9, .int (sumT X3 6)), (8, .int (sumT X3 4)), (7, .int (sumT X3 3)), (6, .int (nI (qp X3))), (5, .int (nI (qt X3))), (4, .int x9), (3, .int (nI i)), (2, .ref (za zq6 55)), (1, .ref (za zq6 0)), (0, .ref a0)]) hx hb dL_law_131 hl (by decide) rfl (fun ls hl => ?_)
  refine lv_iload hx hb dL_law_133 (lv_at hl 9 rfl) ?_
  refine U_ni2 C0 hK h hznzq6 (by decide +kernel) (len := qt X3) rfl (by omega) (by show _ + 1 ≤ 600104; omega) (by show _ + qt X3 ≤ 7301314; omega) dL_law_135 (fun zq13 cq14 H fq15 hX9 hznzq13 hK hfq15 hofq15 h => ?_)
  have hf16 := (hofq15 0 (by omega)).trans hf9
  have hf17 := (hofq15 1 (by omega)).trans hfq8
  have ea18 := hX9.2.2.1 (b + 1) (by omega)
  have ea19 := hX9.2.2.1 (b + 0) (by omega)
  have ea20 := hX9.2.2.1 55 (by omega)
  have ea21 := hX9.2.2.1 0 (by omega)
  rw [← ea18, ← ea19, ← ea20, ← ea21] at hl
  have hXzq13 := hXzq6.tr hX9 (Nat.le_refl _)
  refine lv_astore (lv' := [(15, .ref (za zq13 (b + 2))), (14, .ref (za zq13 (b + 1))), (13, .ref (za zq13 (b + 0))), (12, .int (qD X3)), (11, .int (sumT X3 7)), (10, .int (sumP X3 7)), (9, .int (sumT X3 6)), (8, .int (sumT X3 4)), (7, .int (sumT X3 3)), (6, .int (nI (qp X3))), (5, .int (nI (qt X3))), (4, .int x9), (3, .int (nI i)), (2, .ref (za zq13 55)), (1, .ref (za zq13 0)), (0, .ref a0)]) hx hb dL_law_137 hl (by decide) rfl (fun ls hl => ?_)
  refine lv_iconst (v := 0) hx hb dL_law_139 (by decide) ?_
  refine lv_istore (lv' := [(16, .int 0), (15, .ref (za zq13 (b + 2))), (14, .ref (za zq13 (b + 1))), (13, .ref (za zq13 (b + 0))), (12, .int (qD X3)), (11, .int (sumT X3 7)), (10, .int (sumP X3 7)), (9, .int (sumT X3 6)), (8, .int (sumT X3 4)), (7, .int (sumT X3 3)), (6, .int (nI (qp X3))), (5, .int (nI (qt X3))), (4, .int x9), (3, .int (nI i)), (2, .ref (za zq13 55)), (1, .ref (za zq13 0)), (0, .ref a0)]) hx hb dL_law_140 hl (by decide) rfl (fun ls hl => ?_)
  refine lv_iconst (v := 0) hx hb dL_law_142 (by decide) ?_
  refine lv_istore (lv' := [(17, .int 0), (16, .int 0), (15, .ref (za zq13 (b + 2))), (14, .ref (za zq13 (b + 1))), (13, .ref (za zq13 (b + 0))), (12, .int (qD X3)), (11, .int (sumT X3 7)), (10, .int (sumP X3 7)), (9, .int (sumT X3 6)), (8, .int (sumT X3 4)), (7, .int (sumT X3 3)), (6, .int (nI (qp X3))), (5, .int (nI (qt X3))), (4, .int x9), (3, .int (nI i)), (2, .ref (za zq13 55)), (1, .ref (za zq13 0)), (0, .ref a0)]) hx hb dL_law_143 hl (by decide) rfl (fun ls hl => ?_)
  refine lv_iconst (v := 0) hx hb dL_law_145 (by decide) ?_
  refine lv_istore (lv' := [(18, .int 0), (17, .int 0), (16, .int 0), (15, .ref (za zq13 (b + 2))), (14, .ref (za zq13 (b + 1))), (13, .ref (za zq13 (b + 0))), (12, .int (qD X3)), (11, .int (sumT X3 7)), (10, .int (sumP X3 7)), (9, .int (sumT X3 6)), (8, .int (sumT X3 4)), (7, .int (sumT X3 3)), (6, .int (nI (qp X3))), (5, .int (nI (qt X3))), (4, .int x9), (3, .int (nI i)), (2, .ref (za zq13 55)), (1, .ref (za zq13 0)), (0, .ref a0)]) hx hb dL_law_146 hl (by decide) rfl (fun ls hl => ?_)
  refine W.widen (k := cl + 5) (n := sl + 58) (by omega) (by omega) ?_
  exact kk zq13 ix3 b X3 Y3 cq14 fq15 _ _ _ hXzq13 hK hI3 hznzq13 (by omega) hf16 hf17 hfq15 h (lv_sub hl [0, 1, 2, 3, 4, 5, 13, 12, 11, 10, 9, 8, 7, 6, 15, 16, 17, 18] rfl)
