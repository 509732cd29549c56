/-! PART 86: the law, the day -/
set_option maxHeartbeats 8000000 in
set_option maxRecDepth 100000 in
theorem law_C {p : Program} {l : Launch} {e : Env} {s : State} {m : MethodId} {below : List Frame} {meth : Method} {c : Code} {Q : State → Prop} {a0 i cl sl : Nat} {z : QZ} {ix : Nat → Nat} {b : Nat} {c1 : Nat → va_E} {X : QLs} (C0 : Cx p s m ([Value.ref a0] : List Value).toArray meth c cL_law 32 (some .boolean) RL wsL_law) (hK : QK z s) (hrm : cl ≤ room_1.cells ∧ sl ≤ room_1.slots) (hI : Inv i X) (hi : i < 40) (hb9 : 56 ≤ b) {X2 : QLs} (e2 : X2 = dayL X) {g0 g1 g2 : Nat → Int32} {f : Nat → Nat × (Nat → Int32)} {Y : QLs} (kk : ∀ (Y : QLs) (H : Heap) (locs : List Loc) (ls : Array Slot), GW z (UAt z ix (qt X) (qp X) b 3) 0 (b + 3) s.heap c1 (X2, Y, X2, f) H locs → lv_has ls 32 [(25, .int 0), (24, .int 0), (23, .int 0), (22, .int 0), (18, .int (sumT X2 6 - sumT X 6)), (19, .int (sumP X2 7 - sumP X 7)), (20, .int (sumT X2 3)), (21, .int (sumP X2 4)), (15, .ref (za z (b + 2))), (14, .ref (za z (b + 1))), (13, .ref (za z (b + 0))), (5, .int (nI (qt X))), (6, .int (nI (qp X))), (7, .int (sumT X 3)), (8, .int (sumT X 4)), (9, .int (sumT X 6)), (10, .int (sumP X 7)), (11, .int (sumT X 7)), (12, .int (qD X)), (3, .int (nI i)), (2, .ref (za z 55)), (1, .ref (za z 0)), (0, .ref a0)] → W p l e room_1 s m ([Value.ref a0] : List Value).toArray below meth c H locs cl sl Q (F0 m 414 ls [])) {H : Heap} {locs : List Loc} {ls : Array Slot} (h : GW z (UAt z ix (qt X) (qp X) b 3) 0 (b + 3) s.heap c1 (X, Y, X, f) H locs) (hl : lv_has ls 32 [(17, .int (qsum (fun j => qT X j 1 / 4) (qt X))), (16, .int (qsum (fun j => qT X j 1) (qt X))), (15, .ref (za z (b + 2))), (14, .ref (za z (b + 1))), (13, .ref (za z (b + 0))), (5, .int (nI (qt X))), (6, .int (nI (qp X))), (7, .int (sumT X 3)), (8, .int (sumT X 4)), (9, .int (sumT X 6)), (10, .int (sumP X 7)), (11, .int (sumT X 7)), (12, .int (qD X)), (3, .int (nI i)), (2, .ref (za z 55)), (1, .ref (za z 0)), (0, .ref a0)]) : W p l e room_1 s m ([Value.ref a0] : List Value).toArray below meth c H locs cl sl Q (F0 m 249 ls []) := by
  obtain ⟨hx, hb, hr, hml, hown, hts, hlocks⟩ := id C0
  have hk := hI.ok
  have hk1 := hk.1
  have hk0 := hk.2.1
  have hI2 : Inv (i + 1) X2 := by rw [e2]; exact hI.day (by omega)
  have hk2 := hI2.ok
  have et : qt X2 = qt X := by rw [e2]; exact (shp_day X).1
  have eq9 : qp X2 = qp X := by rw [e2]; exact (shp_day X).2.1
  have hfe0 : ∀ Y, qfore X (copyL X Y) 1 0 = sumT X2 6 - sumT X 6 := fun Y => by rw [e2]; exact (fore_eq hI (by omega)).1
  have hfe1 : ∀ Y, qfore X (copyL X Y) 1 1 = sumP X2 7 - sumP X 7 := fun Y => by rw [e2]; exact (fore_eq hI (by omega)).2.1
  have hfe2 : ∀ Y, qfore X (copyL X Y) 1 2 = sumT X2 3 := fun Y => by rw [e2]; exact (fore_eq hI (by omega)).2.2.1
  have hfe3 : ∀ Y, qfore X (copyL X Y) 1 3 = sumP X2 4 := fun Y => by rw [e2]; exact (fore_eq hI (by omega)).2.2.2
  have hlw := law_water hI (by omega)
  have hls := law_spilled hI (by omega)
  have hlm := law_mud hI (by omega)
  have hld := day_D hI (by omega)
  rw [← e2] at hlw hls hlm hld
  refine lv_aload_n hx hb dL_law_249 rfl (lv_at hl 15 rfl) ?_
  refine lv_iconst (v := 1) hx hb dL_law_250 (by decide) ?_
  refine lv_iconst (v := 0) hx hb dL_law_251 (by decide) ?_
  refine S_callVi C0 hK h (k_foresee hk 1 (by omega) (by omega) 0 (by omega)) (cwV 2 hts gL_law_X1_foresee rfl rfl rfl (by decide +kernel) ⟨Nat.le_of_ble_eq_true rfl, Nat.le_of_ble_eq_true rfl⟩) (k := 0) (ci := 1) (by omega) (fun ct hA => hA.1.1) rfl rfl rfl hl.1 (rest := []) rfl (Nat.le_of_ble_eq_true rfl) hrm dL_law_252 (fun r u H locs hp h => ?_)
  obtain ⟨er9, Y1, hu9⟩ := hp
  rw [hu9] at h
  have er9 : r = sumT X2 6 - sumT X 6 := er9.trans (hfe0 _)
  subst er9
  refine lv_istore (lv' := [(18, .int (sumT X2 6 - sumT X 6)), (17, .int (qsum (fun j => qT X j 1 / 4) (qt X))), (16, .int (qsum (fun j => qT X j 1) (qt X))), (15, .ref (za z (b + 2))), (14, .ref (za z (b + 1))), (13, .ref (za z (b + 0))), (5, .int (nI (qt X))), (6, .int (nI (qp X))), (7, .int (sumT X 3)), (8, .int (sumT X 4)), (9, .int (sumT X 6)), (10, .int (sumP X 7)), (11, .int (sumT X 7)), (12, .int (qD X)), (3, .int (nI i)), (2, .ref (za z 55)), (1, .ref (za z 0)), (0, .ref a0)]) hx hb dL_law_255 hl (by decide) rfl (fun ls hl => ?_)
  refine lv_aload_n hx hb dL_law_257 rfl (lv_at hl 16 rfl) ?_
  refine lv_iconst (v := 1) hx hb dL_law_258 (by decide) ?_
  refine lv_iconst (v := 1) hx hb dL_law_259 (by decide) ?_
  refine S_callVi C0 hK h (k_foresee hk 1 (by omega) (by omega) 1 (by omega)) (cwV 2 hts gL_law_X1_foresee rfl rfl rfl (by decide +kernel) ⟨Nat.le_of_ble_eq_true rfl, Nat.le_of_ble_eq_true rfl⟩) (k := 0) (ci := 1) (by omega) (fun ct hA => hA.1.1) rfl rfl rfl hl.1 (rest := []) rfl (Nat.le_of_ble_eq_true rfl) hrm dL_law_260 (fun r u H locs hp h => ?_)
  obtain ⟨er9, Y2, hu9⟩ := hp
  rw [hu9] at h
  have er9 : r = sumP X2 7 - sumP X 7 := er9.trans (hfe1 _)
  subst er9
  refine lv_istore (lv' := [(19, .int (sumP X2 7 - sumP X 7)), (18, .int (sumT X2 6 - sumT X 6)), (17, .int (qsum (fun j => qT X j 1 / 4) (qt X))), (16, .int (qsum (fun j => qT X j 1) (qt X))), (15, .ref (za z (b + 2))), (14, .ref (za z (b + 1))), (13, .ref (za z (b + 0))), (5, .int (nI (qt X))), (6, .int (nI (qp X))), (7, .int (sumT X 3)), (8, .int (sumT X 4)), (9, .int (sumT X 6)), (10, .int (sumP X 7)), (11, .int (sumT X 7)), (12, .int (qD X)), (3, .int (nI i)), (2, .ref (za z 55)), (1, .ref (za z 0)), (0, .ref a0)]) hx hb dL_law_263 hl (by decide) rfl (fun ls hl => ?_)
  refine lv_aload_n hx hb dL_law_265 rfl (lv_at hl 17 rfl) ?_
  refine lv_iconst (v := 1) hx hb dL_law_266 (by decide) ?_
  refine lv_iconst (v := 2) hx hb dL_law_267 (by decide) ?_
  refine S_callVi C0 hK h (k_foresee hk 1 (by omega) (by omega) 2 (by omega)) (cwV 2 hts gL_law_X1_foresee rfl rfl rfl (by decide +kernel) ⟨Nat.le_of_ble_eq_true rfl, Nat.le_of_ble_eq_true rfl⟩) (k := 0) (ci := 1) (by omega) (fun ct hA => hA.1.1) rfl rfl rfl hl.1 (rest := []) rfl (Nat.le_of_ble_eq_true rfl) hrm dL_law_268 (fun r u H locs hp h => ?_)
  obtain ⟨er9, Y3, hu9⟩ := hp
  rw [hu9] at h
  have er9 : r = sumT X2 3 := er9.trans (hfe2 _)
  subst er9
  refine lv_istore (lv' := [(20, .int (sumT X2 3)), (19, .int (sumP X2 7 - sumP X 7)), (18, .int (sumT X2 6 - sumT X 6)), (17, .int (qsum (fun j => qT X j 1 / 4) (qt X))), (16, .int (qsum (fun j => qT X j 1) (qt X))), (15, .ref (za z (b + 2))), (14, .ref (za z (b + 1))), (13, .ref (za z (b + 0))), (5, .int (nI (qt X))), (6, .int (nI (qp X))), (7, .int (sumT X 3)), (8, .int (sumT X 4)), (9, .int (sumT X 6)), (10, .int (sumP X 7)), (11, .int (sumT X 7)), (12, .int (qD X)), (3, .int (nI i)), (2, .ref (za z 55)), (1, .ref (za z 0)), (0, .ref a0)]) hx hb dL_law_271 hl (by decide) rfl (fun ls hl => ?_)
  refine lv_aload_n hx hb dL_law_273 rfl (lv_at hl 18 rfl) ?_
  refine lv_iconst (v := 1) hx hb dL_law_274 (by decide) ?_
  refine lv_iconst (v := 3) hx hb dL_law_275 (by decide) ?_
  refine S_callVi C0 hK h (k_foresee hk 1 (by omega) (by omega) 3 (by omega)) (cwV 2 hts gL_law_X1_foresee rfl rfl rfl (by decide +kernel) ⟨Nat.le_of_ble_eq_true rfl, Nat.le_of_ble_eq_true rfl⟩) (k := 0) (ci := 1) (by omega) (fun ct hA => hA.1.1) rfl rfl rfl hl.1 (rest := []) rfl (Nat.le_of_ble_eq_true rfl) hrm dL_law_276 (fun r u H locs hp h => ?_)
  obtain ⟨er9, Y4, hu9⟩ := hp
  rw [hu9] at h
  have er9 : r = sumP X2 4 := er9.trans (hfe3 _)
  subst er9
  refine lv_istore (lv' := [(21, .int (sumP X2 4)), (20, .int (sumT X2 3)), (19, .int (sumP X2 7 - sumP X 7)), (18, .int (sumT X2 6 - sumT X 6)), (17, .int (qsum (fun j => qT X j 1 / 4) (qt X))), (16, .int (qsum (fun j => qT X j 1) (qt X))), (15, .ref (za z (b + 2))), (14, .ref (za z (b + 1))), (13, .ref (za z (b + 0))), (5, .int (nI (qt X))), (6, .int (nI (qp X))), (7, .int (sumT X 3)), (8, .int (sumT X 4)), (9, .int (sumT X 6)), (10, .int (sumP X 7)), (11, .int (sumT X 7)), (12, .int (qD X)), (3, .int (nI i)), (2, .ref (za z 55)), (1, .ref (za z 0)), (0, .ref a0)]) hx hb dL_law_279 hl (by decide) rfl (fun ls hl => ?_)
  refine lv_aload_n hx hb dL_law_281 rfl (lv_at hl 19 rfl) ?_
  refine lv_iconst (v := 1) hx hb dL_law_282 (by decide) ?_
  refine S_callVi C0 hK h (k_pass hk 1 (by omega) (by omega)) (cwV 1 hts gL_law_X1_pass rfl rfl rfl (by decide +kernel) ⟨Nat.le_of_ble_eq_true rfl, Nat.le_of_ble_eq_true rfl⟩) (k := 0) (ci := 1) (by omega) (fun ct hA => hA.1.1) rfl rfl rfl hl.1 (rest := []) rfl (Nat.le_of_ble_eq_true rfl) hrm dL_law_283 (fun r u H locs hp h => ?_)
  obtain ⟨er9, hu9⟩ := hp
  have hu9 : u = (X2, Y4, X, f) := by rw [hu9, e2]; rfl
  rw [hu9] at h
  have er9 := er9.trans (show sumT (itN dayF 1 X) 6 - sumT X 6 = sumT X2 6 - sumT X 6 by rw [e2]; rfl)
  have er9 : r = sumT X2 6 - sumT X 6 := er9
  subst er9
  refine lv_iload hx hb dL_law_286 (lv_at hl 3 rfl) ?_
  refine lv_icmp_ne (tgt := 340) hx hb dL_law_288 (by decide) (fun q9 => absurd rfl q9) (fun _ => ?_)
  refine lv_aload_n hx hb dL_law_291 rfl (lv_at hl 19 rfl) ?_
  refine lv_iconst (v := 5) hx hb dL_law_292 (by decide) ?_
  refine S_callVi C0 hK h (k_count hk2 5 (by omega)) (cwV 1 hts gL_law_X1_count rfl rfl rfl (by decide +kernel) ⟨Nat.le_of_ble_eq_true rfl, Nat.le_of_ble_eq_true rfl⟩) (k := 0) (ci := 1) (by omega) (fun ct hA => hA.1.1) rfl rfl rfl hl.1 (rest := []) rfl (Nat.le_of_ble_eq_true rfl) hrm dL_law_293 (fun r u H locs hp h => ?_)
  obtain ⟨er9, hu9⟩ := hp
  rw [hu9] at h
  have er9 : r = sumT X2 6 := er9
  subst er9
  refine lv_iload hx hb dL_law_296 (lv_at hl 13 rfl) ?_
  refine lv_iload hx hb dL_law_298 (lv_at hl 3 rfl) ?_
  refine lv_iadd hx hb dL_law_300 ?_
  refine lv_icmp_ne (tgt := 340) hx hb dL_law_301 (by decide) (fun q9 => absurd (i_cancel _ _) q9) (fun _ => ?_)
  refine lv_aload_n hx hb dL_law_304 rfl (lv_at hl 19 rfl) ?_
  refine lv_bipush (v := 6) hx hb dL_law_305 (by decide) ?_
  refine S_callVi C0 hK h (k_count hk2 6 (by omega)) (cwV 1 hts gL_law_X1_count rfl rfl rfl (by decide +kernel) ⟨Nat.le_of_ble_eq_true rfl, Nat.le_of_ble_eq_true rfl⟩) (k := 0) (ci := 1) (by omega) (fun ct hA => hA.1.1) rfl rfl rfl hl.1 (rest := []) rfl (Nat.le_of_ble_eq_true rfl) hrm dL_law_307 (fun r u H locs hp h => ?_)
  obtain ⟨er9, hu9⟩ := hp
  rw [hu9] at h
  have er9 : r = sumP X2 7 := er9
  subst er9
  refine lv_iload hx hb dL_law_310 (lv_at hl 14 rfl) ?_
  refine lv_iload hx hb dL_law_312 (lv_at hl 2 rfl) ?_
  refine lv_iadd hx hb dL_law_314 ?_
  refine lv_icmp_ne (tgt := 340) hx hb dL_law_315 (by decide) (fun q9 => absurd (i_cancel _ _) q9) (fun _ => ?_)
  refine lv_aload_n hx hb dL_law_318 rfl (lv_at hl 19 rfl) ?_
  refine lv_iconst (v := 3) hx hb dL_law_319 (by decide) ?_
  refine S_callVi C0 hK h (k_count hk2 3 (by omega)) (cwV 1 hts gL_law_X1_count rfl rfl rfl (by decide +kernel) ⟨Nat.le_of_ble_eq_true rfl, Nat.le_of_ble_eq_true rfl⟩) (k := 0) (ci := 1) (by omega) (fun ct hA => hA.1.1) rfl rfl rfl hl.1 (rest := []) rfl (Nat.le_of_ble_eq_true rfl) hrm dL_law_320 (fun r u H locs hp h => ?_)
  obtain ⟨er9, hu9⟩ := hp
  rw [hu9] at h
  have er9 : r = sumT X2 3 := er9
  subst er9
  refine lv_iload hx hb dL_law_323 (lv_at hl 1 rfl) ?_
  refine lv_icmp_ne (tgt := 340) hx hb dL_law_325 (by decide) (fun q9 => absurd rfl q9) (fun _ => ?_)
  refine lv_aload_n hx hb dL_law_328 rfl (lv_at hl 19 rfl) ?_
  refine lv_iconst (v := 0) hx hb dL_law_329 (by decide) ?_
  refine S_callVi C0 hK h (k_count hk2 0 (by omega)) (cwV 1 hts gL_law_X1_count rfl rfl rfl (by decide +kernel) ⟨Nat.le_of_ble_eq_true rfl, Nat.le_of_ble_eq_true rfl⟩) (k := 0) (ci := 1) (by omega) (fun ct hA => hA.1.1) rfl rfl rfl hl.1 (rest := []) rfl (Nat.le_of_ble_eq_true rfl) hrm dL_law_330 (fun r u H locs hp h => ?_)
  obtain ⟨er9, hu9⟩ := hp
  rw [hu9] at h
  have er9 : r = qD X2 := er9
  subst er9
  refine lv_iload hx hb dL_law_333 (lv_at hl 16 rfl) ?_
  refine lv_iconst (v := 1) hx hb dL_law_335 (by decide) ?_
  refine lv_iadd hx hb dL_law_336 ?_
  refine lv_icmp_eq (tgt := 342) hx hb dL_law_337 (by decide) (fun _ => ?_) (fun q9 => absurd hld q9)
  refine lv_aload_n hx hb dL_law_342 rfl (lv_at hl 18 rfl) ?_
  refine S_callVi C0 hK h (c_X3_pass hk (pass_wet hI.bd)) (cwV 0 hts gL_law_X3_pass rfl rfl rfl (by decide +kernel) ⟨Nat.le_of_ble_eq_true rfl, Nat.le_of_ble_eq_true rfl⟩) (k := 55) (ci := 3) (by omega) (fun ct hA => hA.2.1.2.2.2.1) rfl rfl rfl hl.1 (rest := []) rfl (Nat.le_of_ble_eq_true rfl) hrm dL_law_343 (fun r u H locs hp h => ?_)
  have hp : u = (X2, Y4, X2, f) := hp.trans (by rw [spass_eq hI.bd, ← e2])
  rw [hp] at h
  refine lv_pop hx hb dL_law_346 rfl ?_
  refine lv_iload hx hb dL_law_347 (lv_at hl 11 rfl) ?_
  refine lv_iload hx hb dL_law_349 (lv_at hl 5 rfl) ?_
  refine lv_iadd hx hb dL_law_351 ?_
  refine lv_aload_n hx hb dL_law_352 rfl (lv_at hl 19 rfl) ?_
  refine lv_iconst (v := 3) hx hb dL_law_353 (by decide) ?_
  refine S_callVi C0 hK h (k_count hk2 3 (by omega)) (cwV 1 hts gL_law_X1_count rfl rfl rfl (by decide +kernel) ⟨Nat.le_of_ble_eq_true rfl, Nat.le_of_ble_eq_true rfl⟩) (k := 0) (ci := 1) (by omega) (fun ct hA => hA.1.1) rfl rfl rfl hl.1 (rest := [.int ((sumT X 3) + (qsum (fun j => qT X j 1) (qt X)))]) rfl (Nat.le_of_ble_eq_true rfl) hrm dL_law_354 (fun r u H locs hp h => ?_)
  obtain ⟨er9, hu9⟩ := hp
  rw [hu9] at h
  have er9 : r = sumT X2 3 := er9
  subst er9
  refine lv_iload hx hb dL_law_357 (lv_at hl 3 rfl) ?_
  refine lv_iadd hx hb dL_law_359 ?_
  refine lv_iload hx hb dL_law_360 (lv_at hl 2 rfl) ?_
  refine lv_iadd hx hb dL_law_362 ?_
  refine lv_aload_n hx hb dL_law_363 rfl (lv_at hl 19 rfl) ?_
  refine lv_bipush (v := 7) hx hb dL_law_364 (by decide) ?_
  refine S_callVi C0 hK h (k_count hk2 7 (by omega)) (cwV 1 hts gL_law_X1_count rfl rfl rfl (by decide +kernel) ⟨Nat.le_of_ble_eq_true rfl, Nat.le_of_ble_eq_true rfl⟩) (k := 0) (ci := 1) (by omega) (fun ct hA => hA.1.1) rfl rfl rfl hl.1 (rest := [.int (((sumT X2 3) + (sumT X2 6 - sumT X 6)) + (sumP X2 7 - sumP X 7)), .int ((sumT X 3) + (qsum (fun j => qT X j 1) (qt X)))]) rfl (Nat.le_of_ble_eq_true rfl) hrm dL_law_366 (fun r u H locs hp h => ?_)
  obtain ⟨er9, hu9⟩ := hp
  rw [hu9] at h
  have er9 : r = sumT X2 7 := er9
  subst er9
  refine lv_iadd hx hb dL_law_369 ?_
  refine lv_iload hx hb dL_law_370 (lv_at hl 15 rfl) ?_
  refine lv_isub hx hb dL_law_372 ?_
  refine lv_icmp_ne (tgt := 400) hx hb dL_law_373 (by decide) (fun q9 => absurd hlw q9) (fun _ => ?_)
  refine lv_aload_n hx hb dL_law_376 rfl (lv_at hl 19 rfl) ?_
  refine lv_bipush (v := 7) hx hb dL_law_377 (by decide) ?_
  refine S_callVi C0 hK h (k_count hk2 7 (by omega)) (cwV 1 hts gL_law_X1_count rfl rfl rfl (by decide +kernel) ⟨Nat.le_of_ble_eq_true rfl, Nat.le_of_ble_eq_true rfl⟩) (k := 0) (ci := 1) (by omega) (fun ct hA => hA.1.1) rfl rfl rfl hl.1 (rest := []) rfl (Nat.le_of_ble_eq_true rfl) hrm dL_law_379 (fun r u H locs hp h => ?_)
  obtain ⟨er9, hu9⟩ := hp
  rw [hu9] at h
  have er9 : r = sumT X2 7 := er9
  subst er9
  refine lv_iload hx hb dL_law_382 (lv_at hl 15 rfl) ?_
  refine lv_icmp_lt (tgt := 400) hx hb dL_law_384 (by decide) (fun q9 => absurd q9 hls) (fun _ => ?_)
  refine lv_aload_n hx hb dL_law_387 rfl (lv_at hl 19 rfl) ?_
  refine lv_iconst (v := 4) hx hb dL_law_388 (by decide) ?_
  refine S_callVi C0 hK h (k_count hk2 4 (by omega)) (cwV 1 hts gL_law_X1_count rfl rfl rfl (by decide +kernel) ⟨Nat.le_of_ble_eq_true rfl, Nat.le_of_ble_eq_true rfl⟩) (k := 0) (ci := 1) (by omega) (fun ct hA => hA.1.1) rfl rfl rfl hl.1 (rest := []) rfl (Nat.le_of_ble_eq_true rfl) hrm dL_law_389 (fun r u H locs hp h => ?_)
  obtain ⟨er9, hu9⟩ := hp
  rw [hu9] at h
  have er9 : r = sumT X2 4 := er9
  subst er9
  refine lv_iload hx hb dL_law_392 (lv_at hl 12 rfl) ?_
  refine lv_iload hx hb dL_law_394 (lv_at hl 4 rfl) ?_
  refine lv_iadd hx hb dL_law_396 ?_
  refine lv_icmp_le (tgt := 402) hx hb dL_law_397 (by decide) (fun _ => ?_) (fun q9 => absurd hlm q9)
  refine lv_iconst (v := 0) hx hb dL_law_402 (by decide) ?_
  refine lv_istore (lv' := [(22, .int 0), (21, .int (sumP X2 4)), (20, .int (sumT X2 3)), (19, .int (sumP X2 7 - sumP X 7)), (18, .int (sumT X2 6 - sumT X 6)), (17, .int (qsum (fun j => qT X j 1 / 4) (qt X))), (16, .int (qsum (fun j => qT X j 1) (qt X))), (15, .ref (za z (b + 2))), (14, .ref (za z (b + 1))), (13, .ref (za z (b + 0))), (5, .int (nI (qt X))), (6, .int (nI (qp X))), (7, .int (sumT X 3)), (8, .int (sumT X 4)), (9, .int (sumT X 6)), (10, .int (sumP X 7)), (11, .int (sumT X 7)), (12, .int (qD X)), (3, .int (nI i)), (2, .ref (za z 55)), (1, .ref (za z 0)), (0, .ref a0)]) hx hb dL_law_403 hl (by decide) rfl (fun ls hl => ?_)
  refine lv_iconst (v := 0) hx hb dL_law_405 (by decide) ?_
  refine lv_istore (lv' := [(23, .int 0), (22, .int 0), (21, .int (sumP X2 4)), (20, .int (sumT X2 3)), (19, .int (sumP X2 7 - sumP X 7)), (18, .int (sumT X2 6 - sumT X 6)), (17, .int (qsum (fun j => qT X j 1 / 4) (qt X))), (16, .int (qsum (fun j => qT X j 1) (qt X))), (15, .ref (za z (b + 2))), (14, .ref (za z (b + 1))), (13, .ref (za z (b + 0))), (5, .int (nI (qt X))), (6, .int (nI (qp X))), (7, .int (sumT X 3)), (8, .int (sumT X 4)), (9, .int (sumT X 6)), (10, .int (sumP X 7)), (11, .int (sumT X 7)), (12, .int (qD X)), (3, .int (nI i)), (2, .ref (za z 55)), (1, .ref (za z 0)), (0, .ref a0)]) hx hb dL_law_406 hl (by decide) rfl (fun ls hl => ?_)
  refine lv_iconst (v := 0) hx hb dL_law_408 (by decide) ?_
  refine lv_istore (lv' := [(24, .int 0), (23, .int 0), (22, .int 0), (21, .int (sumP X2 4)), (20, .int (sumT X2 3)), (19, .int (sumP X2 7 - sumP X 7)), (18, .int (sumT X2 6 - sumT X 6)), (17, .int (qsum (fun j => qT X j 1 / 4) (qt X))), (16, .int (qsum (fun j => qT X j 1) (qt X))), (15, .ref (za z (b + 2))), (14, .ref (za z (b + 1))), (13, .ref (za z (b + 0))), (5, .int (nI (qt X))), (6, .int (nI (qp X))), (7, .int (sumT X 3)), (8, .int (sumT X 4)), (9, .int (sumT X 6)), (10, .int (sumP X 7)), (11, .int (sumT X 7)), (12, .int (qD X)), (3, .int (nI i)), (2, .ref (za z 55)), (1, .ref (za z 0)), (0, .ref a0)]) hx hb dL_law_409 hl (by decide) rfl (fun ls hl => ?_)
  refine lv_iconst (v := 0) hx hb dL_law_411 (by decide) ?_
  refine lv_istore (lv' := [(25, .int 0), (24, .int 0), (23, .int 0), (22, .int 0), (21, .int (sumP X2 4)), (20, .int (sumT X2 3)), (19, .int (sumP X2 7 - sumP X 7)), (18, .int (sumT X2 6 - sumT X 6)), (17, .int (qsum (fun j => qT X j 1 / 4) (qt X))), (16, .int (qsum (fun j => qT X j 1) (qt X))), (15, .ref (za z (b + 2))), (14, .ref (za z (b + 1))), (13, .ref (za z (b + 0))), (5, .int (nI (qt X))), (6, .int (nI (qp X))), (7, .int (sumT X 3)), (8, .int (sumT X 4)), (9, .int (sumT X 6)), (10, .int (sumP X 7)), (11, .int (sumT X 7)), (12, .int (qD X)), (3, .int (nI i)), (2, .ref (za z 55)), (1, .ref (za z 0)), (0, .ref a0)]) hx hb dL_law_412 hl (by decide) rfl (fun ls hl => ?_)
  exact kk Y4 _ _ _ h (lv_sub hl [0, 1, 2, 3, 7, 6, 5, 4, 10, 11, 12, 13, 14, 15, 16, 17, 18, 19, 20, 21, 22, 23, 24] rfl)
