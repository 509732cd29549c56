/-! PART 66: the day of the hand-made land -/
theorem flow_fix0 {z : QZ} {ix : Nat → Nat} {t q b n i : Nat} {X Y S5 S8 Sb : QLs} {f : Nat → Nat × (Nat → Int32)} {H0 H : Heap} {c0 : Nat → va_E} {locs : List Loc} (e8 : S8 = sflow1 i S5) (c : qP S8 i 5 = 0) (e5 : S5 = itN sflowF i Sb) (h : GW z (UAt z ix t q b n) 0 (b + n) H0 c0 (X, Y, S8, f) H locs) : GW z (UAt z ix t q b n) 0 (b + n) H0 c0 (X, Y, itN sflowF (i + 1) Sb, f) H locs := by
  have e7 : S8 = sflowF i S5 := by
    rw [e8] at c ⊢
    exact (if_pos c).symm
  rw [e7, e5] at h
  exact h
theorem flow_fix {z : QZ} {ix : Nat → Nat} {t q b n i : Nat} {X Y S5 S8 S11 S12 Sb : QLs} {f : Nat → Nat × (Nat → Int32)} {H0 H : Heap} {c0 : Nat → va_E} {locs : List Loc} (e8 : S8 = sflow1 i S5) (e11 : S11 = sflow2 i (qf S5 i) (qo S5 i) S8) (c : ¬ qP S8 i 5 = 0) (e6 : S12 = sflow3 i S11) (e5 : S5 = itN sflowF i Sb) (h : GW z (UAt z ix t q b n) 0 (b + n) H0 c0 (X, Y, S12, f) H locs) : GW z (UAt z ix t q b n) 0 (b + n) H0 c0 (X, Y, itN sflowF (i + 1) Sb, f) H locs := by
  have e7 : S12 = sflowF i S5 := by
    rw [e6, e11, e8]
    rw [e8] at c
    exact (if_neg c).symm
  rw [e7, e5] at h
  exact h
set_option maxHeartbeats 4000000 in
set_option maxRecDepth 100000 in
theorem c_X3_pass {l : Launch} {z : QZ} {ix : Nat → Nat} {t q b n : Nat} {X Y S : QLs} {f : Nat → Nat × (Nat → Int32)} (hk : LOk S) (hw : ∀ k, k < q → ∀ S2, S2 = itN sflowF k (itN sfeedF t S) → ¬ simF S2 k = 0 → ¬ qT S2 (qf S2 k) 3 = 0) : GI l yX3_pass wsX3_pass ({ frames := 1, cells := 0, slots := 0, locals := 25 } : Room) z [.ref (za z 55)] 0 0 (UAt z ix t q b n) 0 (b + n) (X, Y, S, f) (fun r u => u = (X, Y, spass t q S, f)) := by
  intro ct sz hn hq9 hat
  refine q_entry (lo := 0) (cc := cX3_pass) (maxL := 8) (ret := (some .int)) (by decide) rfl (Nat.le_of_ble_eq_true rfl) hn hq9 hat ?_
  intro p e s m below meth c ls C0 hK hsz h hl
  subst hsz
  obtain ⟨hx, hb, hr, hml, hown, hts, hlocks⟩ := id C0
  obtain ⟨hix, hqt, hqp, hbn⟩ := gw_ix h
  obtain ⟨⟨h10, h14, h56⟩, -⟩ := id hix
  have hin2 : ∀ w ∈ u_ws RX2 TX2 9, w ∈ wsX3_pass := by decide +kernel
  have hin3 : ∀ w ∈ u_ws RX3 TX3 3, w ∈ wsX3_pass := by decide +kernel
  have hin4 : ∀ w ∈ u_ws RX4 TX4 8, w ∈ wsX3_pass := by decide +kernel
  have hl : lv_has ls 8 [(0, .ref (za z 55))] := hl
  have L270 : ∀ (Sb : QLs) (hq9 : Sb = itN sflowF q (itN sfeedF t S)) (d i : Nat), i + d = t → ∀ (H : Heap) (locs : List Loc) (ls : Array Slot), GW z (UAt z ix t q b n) 0 (b + n) s.heap ct (X, Y, (itN sdrinkF i Sb), f) H locs → lv_has ls 8 [(4, .int (nI i)), (3, .int (nI t)), (2, .ref (za z (ix 0))), (1, .int (sdr Sb i)), (0, .ref (za z 55))] → W p l e ({ frames := 1, cells := 0, slots := 0, locals := 25 } : Room) s m [.ref (za z 55)].toArray below meth c H locs 0 0 (EI z (UAt z ix t q b n) 0 (b + n) ct s below [.ref (za z 55)] 0 0 (fun r u => u = (X, Y, spass t q S, f))) (F0 m 270 ls []) := by
    intro Sb hq9 d
    induction d with
    | zero =>
      intro i hdi H locs ls h hl
      have hEi : i = t := by omega
      obtain ⟨S1, eS1⟩ : ∃ z9, z9 = itN sdrinkF i Sb := ⟨_, rfl⟩
      rw [← eS1] at h
      have hs9 : Shp Sb S1 := by rw [eS1]; exact shp_it (f := sdrinkF) (fun _ _ => shp_sdrink) Sb i
      refine lv_iload hx hb dX3_pass_270 (lv_at hl 0 rfl) ?_
      refine lv_iload_n hx hb dX3_pass_272 rfl (lv_at hl 1 rfl) ?_
      refine lv_icmp_ge (tgt := 379) hx hb dX3_pass_273 (by decide) (fun _ => ?_) (fun q9 => absurd (nI_le (by omega) (by omega)) q9)
      refine lv_aload_n hx hb dX3_pass_379 rfl (lv_at hl 4 rfl) ?_
      refine lv_dup hx hb dX3_pass_380 rfl ?_
      refine U_gO C0 hK h hin3 2 (by decide) (by decide +kernel) rfl dX3_pass_381 ?_
      refine lv_iconst (v := 1) hx hb dX3_pass_384 (by decide) ?_
      refine lv_iadd hx hb dX3_pass_385 ?_
      refine U_pD C0 hK h hin3 (by decide +kernel) dX3_pass_386 (fun H locs S2 eS2 h => ?_)
      refine lv_iload_n hx hb dX3_pass_389 rfl (lv_at hl 3 rfl) ?_
      exact G_iret C0 hK h (by subst eS2; rw [eS1, hEi, hq9]; rfl) (Nat.le_of_ble_eq_true rfl) (Nat.le_of_ble_eq_true rfl) dX3_pass_390
    | succ d ihL270 =>
      intro i hdi H locs ls h hl
      have hEi : i < t := by omega
      obtain ⟨S3, eS3⟩ : ∃ z9, z9 = itN sdrinkF i Sb := ⟨_, rfl⟩
      rw [← eS3] at h
      have hs9 : Shp Sb S3 := by rw [eS3]; exact shp_it (f := sdrinkF) (fun _ _ => shp_sdrink) Sb i
      refine lv_iload hx hb dX3_pass_270 (lv_at hl 0 rfl) ?_
      refine lv_iload_n hx hb dX3_pass_272 rfl (lv_at hl 1 rfl) ?_
      refine lv_icmp_ge (tgt := 379) hx hb dX3_pass_273 (by decide) (fun q9 => absurd q9 (nI_ge (by omega) (by omega))) (fun _ => ?_)
      refine lv_aload_n hx hb dX3_pass_276 rfl (lv_at hl 2 rfl) ?_
      refine lv_iload hx hb dX3_pass_277 (lv_at hl 0 rfl) ?_
      refine U_aT C0 hK h (i := i) rfl (by omega) dX3_pass_279 ?_
      refine lv_astore (lv' := [(5, .ref (za z (ix (2 + i)))), (4, .int (nI i)), (3, .int (nI t)), (2, .ref (za z (ix 0))), (1, .int (sdr Sb i)), (0, .ref (za z 55))]) hx hb dX3_pass_280 hl (by decide) rfl (fun ls hl => ?_)
      refine lv_aload hx hb dX3_pass_282 (lv_at hl 0 rfl) ?_
      refine lv_aload hx hb dX3_pass_284 (lv_at hl 0 rfl) ?_
      refine U_gT C0 hK h hin4 (by omega) 4 (by decide) (by decide +kernel) dX3_pass_286 ?_
      refine lv_bipush (v := 49) hx hb dX3_pass_289 (by decide) ?_
      refine lv_icmp_le (tgt := 304) hx hb dX3_pass_291 (by decide) (fun c_291 => ?_) (fun c_291 => ?_)
      · refine lv_aload hx hb dX3_pass_304 (lv_at hl 0 rfl) ?_
        refine U_gT C0 hK h hin4 (by omega) 2 (by decide) (by decide +kernel) dX3_pass_306 ?_
        refine U_pT C0 hK h hin4 (by omega) 5 (by decide) (by decide +kernel) dX3_pass_309 (fun H locs S4 eS4 h => ?_)
        refine lv_aload hx hb dX3_pass_312 (lv_at hl 0 rfl) ?_
        refine U_gT C0 hK h hin4 (by omega) 5 (by decide) (by decide +kernel) dX3_pass_314 ?_
        refine lv_aload hx hb dX3_pass_317 (lv_at hl 0 rfl) ?_
        refine U_gT C0 hK h hin4 (by omega) 3 (by decide) (by decide +kernel) dX3_pass_319 ?_
        refine lv_icmp_le (tgt := 335) hx hb dX3_pass_322 (by decide) (fun c_322 => ?_) (fun c_322 => ?_)
        · refine lv_aload hx hb dX3_pass_335 (lv_at hl 0 rfl) ?_
          refine lv_dup hx hb dX3_pass_337 rfl ?_
          refine U_gT C0 hK h hin4 (by omega) 3 (by decide) (by decide +kernel) dX3_pass_338 ?_
          refine lv_aload hx hb dX3_pass_341 (lv_at hl 0 rfl) ?_
          refine U_gT C0 hK h hin4 (by omega) 5 (by decide) (by decide +kernel) dX3_pass_343 ?_
          refine lv_isub hx hb dX3_pass_346 ?_
          refine U_pT C0 hK h hin4 (by omega) 3 (by decide) (by decide +kernel) dX3_pass_347 (fun H locs S5 eS5 h => ?_)
          refine lv_aload hx hb dX3_pass_350 (lv_at hl 0 rfl) ?_
          refine lv_dup hx hb dX3_pass_352 rfl ?_
          refine U_gT C0 hK h hin4 (by omega) 6 (by decide) (by decide +kernel) dX3_pass_353 ?_
          refine lv_aload hx hb dX3_pass_356 (lv_at hl 0 rfl) ?_
          refine U_gT C0 hK h hin4 (by omega) 5 (by decide) (by decide +kernel) dX3_pass_358 ?_
          refine lv_iadd hx hb dX3_pass_361 ?_
          refine U_pT C0 hK h hin4 (by omega) 6 (by decide) (by decide +kernel) dX3_pass_362 (fun H locs S6 eS6 h => ?_)
          refine lv_iload_n hx hb dX3_pass_365 rfl (lv_at hl 4 rfl) ?_
          refine lv_aload hx hb dX3_pass_366 (lv_at hl 0 rfl) ?_
          refine U_gT C0 hK h hin4 (by omega) 5 (by decide) (by decide +kernel) dX3_pass_368 ?_
          refine lv_iadd hx hb dX3_pass_371 ?_
          refine lv_istore_n (lv' := [(1, .int ((sdr Sb i) + (qT S6 i 5))), (5, .ref (za z (ix (2 + i)))), (4, .int (nI i)), (3, .int (nI t)), (2, .ref (za z (ix 0))), (0, .ref (za z 55))]) hx hb dX3_pass_372 rfl hl (by decide) rfl (fun ls hl => ?_)
          refine lv_iinc (v := nI (i + 1)) (lv' := [(4, .int (nI (i + 1))), (1, .int ((sdr Sb i) + (qT S6 i 5))), (5, .ref (za z (ix (2 + i)))), (3, .int (nI t)), (2, .ref (za z (ix 0))), (0, .ref (za z 55))]) hx hb dX3_pass_373 hl (k := 2) rfl (q_inc i 1) (by decide) rfl (fun ls hl => ?_)
          refine lv_goto (tgt := 270) hx hb dX3_pass_376 (by decide) ?_
          have e8 : S6 = sdrinkF i S3 := by subst eS6 eS5 eS4; unfold sdrinkF; simp only []; rw [if_pos c_291]; rw [if_pos c_322]
          have e9 : S6 = itN sdrinkF (i + 1) Sb := by rw [e8, eS3]; rfl
          have e7 : sdr Sb i + qT S6 i 5 = sdr Sb (i + 1) := by rw [e9]; rfl
          rw [e7] at hl
          rw [e9] at h
          exact ihL270 (i + 1) (by omega) _ _ _ h (lv_sub hl [0, 3, 4, 1, 5] rfl)
        · refine lv_aload hx hb dX3_pass_325 (lv_at hl 0 rfl) ?_
          refine lv_aload hx hb dX3_pass_327 (lv_at hl 0 rfl) ?_
          refine U_gT C0 hK h hin4 (by omega) 3 (by decide) (by decide +kernel) dX3_pass_329 ?_
          refine U_pT C0 hK h hin4 (by omega) 5 (by decide) (by decide +kernel) dX3_pass_332 (fun H locs S7 eS7 h => ?_)
          refine lv_aload hx hb dX3_pass_335 (lv_at hl 0 rfl) ?_
          refine lv_dup hx hb dX3_pass_337 rfl ?_
          refine U_gT C0 hK h hin4 (by omega) 3 (by decide) (by decide +kernel) dX3_pass_338 ?_
          refine lv_aload hx hb dX3_pass_341 (lv_at hl 0 rfl) ?_
          refine U_gT C0 hK h hin4 (by omega) 5 (by decide) (by decide +kernel) dX3_pass_343 ?_
          refine lv_isub hx hb dX3_pass_346 ?_
          refine U_pT C0 hK h hin4 (by omega) 3 (by decide) (by decide +kernel) dX3_pass_347 (fun H locs S8 eS8 h => ?_)
          refine lv_aload hx hb dX3_pass_350 (lv_at hl 0 rfl) ?_
          refine lv_dup hx hb dX3_pass_352 rfl ?_
          refine U_gT C0 hK h hin4 (by omega) 6 (by decide) (by decide +kernel) dX3_pass_353 ?_
          refine lv_aload hx hb dX3_pass_356 (lv_at hl 0 rfl) ?_
          refine U_gT C0 hK h hin4 (by omega) 5 (by decide) (by decide +kernel) dX3_pass_358 ?_
          refine lv_iadd hx hb dX3_pass_361 ?_
          refine U_pT C0 hK h hin4 (by omega) 6 (by decide) (by decide +kernel) dX3_pass_362 (fun H locs S9 eS9 h => ?_)
          refine lv_iload_n hx hb dX3_pass_365 rfl (lv_at hl 4 rfl) ?_
          refine lv_aload hx hb dX3_pass_366 (lv_at hl 0 rfl) ?_
          refine U_gT C0 hK h hin4 (by omega) 5 (by decide) (by decide +kernel) dX3_pass_368 ?_
          refine lv_iadd hx hb dX3_pass_371 ?_
          refine lv_istore_n (lv' := [(1, .int ((sdr Sb i) + (qT S9 i 5))), (5, .ref (za z (ix (2 + i)))), (4, .int (nI i)), (3, .int (nI t)), (2, .ref (za z (ix 0))), (0, .ref (za z 55))]) hx hb dX3_pass_372 rfl hl (by decide) rfl (fun ls hl => ?_)
          refine lv_iinc (v := nI (i + 1)) (lv' := [(4, .int (nI (i + 1))), (1, .int ((sdr Sb i) + (qT S9 i 5))), (5, .ref (za z (ix (2 + i)))), (3, .int (nI t)), (2, .ref (za z (ix 0))), (0, .ref (za z 55))]) hx hb dX3_pass_373 hl (k := 2) rfl (q_inc i 1) (by decide) rfl (fun ls hl => ?_)
          refine lv_goto (tgt := 270) hx hb dX3_pass_376 (by decide) ?_
          have e8 : S9 = sdrinkF i S3 := by subst eS9 eS8 eS7 eS4; unfold sdrinkF; simp only []; rw [if_pos c_291]; rw [if_neg c_322]
          have e9 : S9 = itN sdrinkF (i + 1) Sb := by rw [e8, eS3]; rfl
          have e7 : sdr Sb i + qT S9 i 5 = sdr Sb (i + 1) := by rw [e9]; rfl
          rw [e7] at hl
          rw [e9] at h
          exact ihL270 (i + 1) (by omega) _ _ _ h (lv_sub hl [0, 3, 4, 1, 5] rfl)
      · refine lv_aload hx hb dX3_pass_294 (lv_at hl 0 rfl) ?_
        refine U_gT C0 hK h hin4 (by omega) 2 (by decide) (by decide +kernel) dX3_pass_296 ?_
        refine lv_iconst (v := 2) hx hb dX3_pass_299 (by decide) ?_
        refine lv_idiv hx hb dX3_pass_300 (by decide) ?_
        refine lv_goto (tgt := 309) hx hb dX3_pass_301 (by decide) ?_
        refine U_pT C0 hK h hin4 (by omega) 5 (by decide) (by decide +kernel) dX3_pass_309 (fun H locs S10 eS10 h => ?_)
        refine lv_aload hx hb dX3_pass_312 (lv_at hl 0 rfl) ?_
        refine U_gT C0 hK h hin4 (by omega) 5 (by decide) (by decide +kernel) dX3_pass_314 ?_
        refine lv_aload hx hb dX3_pass_317 (lv_at hl 0 rfl) ?_
        refine U_gT C0 hK h hin4 (by omega) 3 (by decide) (by decide +kernel) dX3_pass_319 ?_
        refine lv_icmp_le (tgt := 335) hx hb dX3_pass_322 (by decide) (fun c_322 => ?_) (fun c_322 => ?_)
        · refine lv_aload hx hb dX3_pass_335 (lv_at hl 0 rfl) ?_
          refine lv_dup hx hb dX3_pass_337 rfl ?_
          refine U_gT C0 hK h hin4 (by omega) 3 (by decide) (by decide +kernel) dX3_pass_338 ?_
          refine lv_aload hx hb dX3_pass_341 (lv_at hl 0 rfl) ?_
          refine U_gT C0 hK h hin4 (by omega) 5 (by decide) (by decide +kernel) dX3_pass_343 ?_
          refine lv_isub hx hb dX3_pass_346 ?_
          refine U_pT C0 hK h hin4 (by omega) 3 (by decide) (by decide +kernel) dX3_pass_347 (fun H locs S11 eS11 h => ?_)
          refine lv_aload hx hb dX3_pass_350 (lv_at hl 0 rfl) ?_
          refine lv_dup hx hb dX3_pass_352 rfl ?_
          refine U_gT C0 hK h hin4 (by omega) 6 (by decide) (by decide +kernel) dX3_pass_353 ?_
          refine lv_aload hx hb dX3_pass_356 (lv_at hl 0 rfl) ?_
          refine U_gT C0 hK h hin4 (by omega) 5 (by decide) (by decide +kernel) dX3_pass_358 ?_
          refine lv_iadd hx hb dX3_pass_361 ?_
          refine U_pT C0 hK h hin4 (by omega) 6 (by decide) (by decide +kernel) dX3_pass_362 (fun H locs S12 eS12 h => ?_)
          refine lv_iload_n hx hb dX3_pass_365 rfl (lv_at hl 4 rfl) ?_
          refine lv_aload hx hb dX3_pass_366 (lv_at hl 0 rfl) ?_
          refine U_gT C0 hK h hin4 (by omega) 5 (by decide) (by decide +kernel) dX3_pass_368 ?_
          refine lv_iadd hx hb dX3_pass_371 ?_
          refine lv_istore_n (lv' := [(1, .int ((sdr Sb i) + (qT S12 i 5))), (5, .ref (za z (ix (2 + i)))), (4, .int (nI i)), (3, .int (nI t)), (2, .ref (za z (ix 0))), (0, .ref (za z 55))]) hx hb dX3_pass_372 rfl hl (by decide) rfl (fun ls hl => ?_)
          refine lv_iinc (v := nI (i + 1)) (lv' := [(4, .int (nI (i + 1))), (1, .int ((sdr Sb i) + (qT S12 i 5))), (5, .ref (za z (ix (2 + i)))), (3, .int (nI t)), (2, .ref (za z (ix 0))), (0, .ref (za z 55))]) hx hb dX3_pass_373 hl (k := 2) rfl (q_inc i 1) (by decide) rfl (fun ls hl => ?_)
          refine lv_goto (tgt := 270) hx hb dX3_pass_376 (by decide) ?_
          have e8 : S12 = sdrinkF i S3 := by subst eS12 eS11 eS10; unfold sdrinkF; simp only []; rw [if_neg c_291]; rw [if_pos c_322]
          have e9 : S12 = itN sdrinkF (i + 1) Sb := by rw [e8, eS3]; rfl
          have e7 : sdr Sb i + qT S12 i 5 = sdr Sb (i + 1) := by rw [e9]; rfl
          rw [e7] at hl
          rw [e9] at h
          exact ihL270 (i + 1) (by omega) _ _ _ h (lv_sub hl [0, 3, 4, 1, 5] rfl)
        · refine lv_aload hx hb dX3_pass_325 (lv_at hl 0 rfl) ?_
          refine lv_aload hx hb dX3_pass_327 (lv_at hl 0 rfl) ?_
          refine U_gT C0 hK h hin4 (by omega) 3 (by decide) (by decide +kernel) dX3_pass_329 ?_
          refine U_pT C0 hK h hin4 (by omega) 5 (by decide) (by decide +kernel) dX3_pass_332 (fun H locs S13 eS13 h => ?_)
          refine lv_aload hx hb dX3_pass_335 (lv_at hl 0 rfl) ?_
          refine lv_dup hx hb dX3_pass_337 rfl ?_
          refine U_gT C0 hK h hin4 (by omega) 3 (by decide) (by decide +kernel) dX3_pass_338 ?_
          refine lv_aload hx hb dX3_pass_341 (lv_at hl 0 rfl) ?_
          refine U_gT C0 hK h hin4 (by omega) 5 (by decide) (by decide +kernel) dX3_pass_343 ?_
          refine lv_isub hx hb dX3_pass_346 ?_
          refine U_pT C0 hK h hin4 (by omega) 3 (by decide) (by decide +kernel) dX3_pass_347 (fun H locs S14 eS14 h => ?_)
          refine lv_aload hx hb dX3_pass_350 (lv_at hl 0 rfl) ?_
          refine lv_dup hx hb dX3_pass_352 rfl ?_
          refine U_gT C0 hK h hin4 (by omega) 6 (by decide) (by decide +kernel) dX3_pass_353 ?_
          refine lv_aload hx hb dX3_pass_356 (lv_at hl 0 rfl) ?_
          refine U_gT C0 hK h hin4 (by omega) 5 (by decide) (by decide +kernel) dX3_pass_358 ?_
          refine lv_iadd hx hb dX3_pass_361 ?_
          refine U_pT C0 hK h hin4 (by omega) 6 (by decide) (by decide +kernel) dX3_pass_362 (fun H locs S15 eS15 h => ?_)
          refine lv_iload_n hx hb dX3_pass_365 rfl (lv_at hl 4 rfl) ?_
          refine lv_aload hx hb dX3_pass_366 (lv_at hl 0 rfl) ?_
          refine U_gT C0 hK h hin4 (by omega) 5 (by decide) (by decide +kernel) dX3_pass_368 ?_
          refine lv_iadd hx hb dX3_pass_371 ?_
          refine lv_istore_n (lv' := [(1, .int ((sdr Sb i) + (qT S15 i 5))), (5, .ref (za z (ix (2 + i)))), (4, .int (nI i)), (3, .int (nI t)), (2, .ref (za z (ix 0))), (0, .ref (za z 55))]) hx hb dX3_pass_372 rfl hl (by decide) rfl (fun ls hl => ?_)
          refine lv_iinc (v := nI (i + 1)) (lv' := [(4, .int (nI (i + 1))), (1, .int ((sdr Sb i) + (qT S15 i 5))), (5, .ref (za z (ix (2 + i)))), (3, .int (nI t)), (2, .ref (za z (ix 0))), (0, .ref (za z 55))]) hx hb dX3_pass_373 hl (k := 2) rfl (q_inc i 1) (by decide) rfl (fun ls hl => ?_)
          refine lv_goto (tgt := 270) hx hb dX3_pass_376 (by decide) ?_
          have e8 : S15 = sdrinkF i S3 := by subst eS15 eS14 eS13 eS10; unfold sdrinkF; simp only []; rw [if_neg c_291]; rw [if_neg c_322]
          have e9 : S15 = itN sdrinkF (i + 1) Sb := by rw [e8, eS3]; rfl
          have e7 : sdr Sb i + qT S15 i 5 = sdr Sb (i + 1) := by rw [e9]; rfl
          rw [e7] at hl
          rw [e9] at h
          exact ihL270 (i + 1) (by omega) _ _ _ h (lv_sub hl [0, 3, 4, 1, 5] rfl)
  have L59 : ∀ (Sb : QLs) (hkb : LOk Sb) (hqb : qt Sb = t ∧ qp Sb = q) (hS9 : Sb = itN sfeedF t S) (d i : Nat), i + d = q → ∀ (H : Heap) (locs : List Loc) (ls : Array Slot), GW z (UAt z ix t q b n) 0 (b + n) s.heap ct (X, Y, (itN sflowF i Sb), f) H locs → lv_has ls 8 [(4, .int (nI i)), (3, .int (nI q)), (2, .ref (za z (ix 1))), (1, .int 0), (0, .ref (za z 55))] → W p l e ({ frames := 1, cells := 0, slots := 0, locals := 25 } : Room) s m [.ref (za z 55)].toArray below meth c H locs 0 0 (EI z (UAt z ix t q b n) 0 (b + n) ct s below [.ref (za z 55)] 0 0 (fun r u => u = (X, Y, spass t q S, f))) (F0 m 59 ls []) := by
    intro Sb hkb hqb hS9 d
    induction d with
    | zero =>
      intro i hdi H locs ls h hl
      have hEi : i = q := by omega
      obtain ⟨S16, eS16⟩ : ∃ z9, z9 = itN sflowF i Sb := ⟨_, rfl⟩
      rw [← eS16] at h
      have hs9 : Shp Sb S16 := by rw [eS16]; exact shp_it (f := sflowF) (fun _ _ => shp_sflow) Sb i
      have hk9 := hs9.ok hkb
      have hqt9 : qt S16 = t := hs9.1.trans hqb.1
      have hqp9 : qp S16 = q := hs9.2.1.trans hqb.2
      refine lv_iload hx hb dX3_pass_59 (lv_at hl 0 rfl) ?_
      refine lv_iload_n hx hb dX3_pass_61 rfl (lv_at hl 1 rfl) ?_
      refine lv_icmp_ge (tgt := 259) hx hb dX3_pass_62 (by decide) (fun _ => ?_) (fun q9 => absurd (nI_le (by omega) (by omega)) q9)
      refine lv_aload_n hx hb dX3_pass_259 rfl (lv_at hl 4 rfl) ?_
      refine U_gO C0 hK h hin3 0 (by decide) (by decide +kernel) rfl dX3_pass_260 ?_
      refine lv_astore_n (lv' := [(2, .ref (za z (ix 0))), (4, .int (nI i)), (3, .int (nI q)), (1, .int 0), (0, .ref (za z 55))]) hx hb dX3_pass_263 rfl hl (by decide) rfl (fun ls hl => ?_)
      refine lv_aload_n hx hb dX3_pass_264 rfl (lv_at hl 0 rfl) ?_
      refine U_lT C0 hK h dX3_pass_265 ?_
      refine lv_istore_n (lv' := [(3, .int (nI t)), (2, .ref (za z (ix 0))), (4, .int (nI i)), (1, .int 0), (0, .ref (za z 55))]) hx hb dX3_pass_266 rfl hl (by decide) rfl (fun ls hl => ?_)
      refine lv_iconst (v := 0) hx hb dX3_pass_267 (by decide) ?_
      refine lv_istore (lv' := [(4, .int 0), (3, .int (nI t)), (2, .ref (za z (ix 0))), (1, .int 0), (0, .ref (za z 55))]) hx hb dX3_pass_268 hl (by decide) rfl (fun ls hl => ?_)
      exact L270 S16 (by rw [eS16, hEi, hS9]) (t) 0 (by omega) _ _ _ h (lv_sub hl [0, 1, 2, 3, 4] rfl)
    | succ d ihL59 =>
      intro i hdi H locs ls h hl
      have hEi : i < q := by omega
      obtain ⟨S17, eS17⟩ : ∃ z9, z9 = itN sflowF i Sb := ⟨_, rfl⟩
      rw [← eS17] at h
      have hs9 : Shp Sb S17 := by rw [eS17]; exact shp_it (f := sflowF) (fun _ _ => shp_sflow) Sb i
      have hk9 := hs9.ok hkb
      have hqt9 : qt S17 = t := hs9.1.trans hqb.1
      have hqp9 : qp S17 = q := hs9.2.1.trans hqb.2
      refine lv_iload hx hb dX3_pass_59 (lv_at hl 0 rfl) ?_
      refine lv_iload_n hx hb dX3_pass_61 rfl (lv_at hl 1 rfl) ?_
      refine lv_icmp_ge (tgt := 259) hx hb dX3_pass_62 (by decide) (fun q9 => absurd q9 (nI_ge (by omega) (by omega))) (fun _ => ?_)
      refine lv_aload_n hx hb dX3_pass_65 rfl (lv_at hl 2 rfl) ?_
      refine lv_iload hx hb dX3_pass_66 (lv_at hl 0 rfl) ?_
      refine U_aP C0 hK h (i := i) rfl (by omega) dX3_pass_68 ?_
      refine lv_astore (lv' := [(5, .ref (za z (ix (12 + i)))), (4, .int (nI i)), (3, .int (nI q)), (2, .ref (za z (ix 1))), (1, .int 0), (0, .ref (za z 55))]) hx hb dX3_pass_69 hl (by decide) rfl (fun ls hl => ?_)
      obtain ⟨hk3, hk4, hk5, hF0, hF1⟩ := hk9.2.2 i (by omega)
      rw [hqt9] at hk3 hk4
      refine lv_aload_n hx hb dX3_pass_71 rfl (lv_at hl 5 rfl) ?_
      refine U_gO C0 hK h hin3 0 (by decide) (by decide +kernel) rfl dX3_pass_72 ?_
      refine lv_aload hx hb dX3_pass_75 (lv_at hl 0 rfl) ?_
      refine U_gP C0 hK h hin2 (by omega) 0 (by decide) (k9 := 0) rfl (by decide +kernel) dX3_pass_77 ?_
      refine U_aT C0 hK h (i := qf S17 i) hF0 hk3 dX3_pass_80 ?_
      refine lv_astore (lv' := [(6, .ref (za z (ix (2 + (qf S17 i))))), (5, .ref (za z (ix (12 + i)))), (4, .int (nI i)), (3, .int (nI q)), (2, .ref (za z (ix 1))), (1, .int 0), (0, .ref (za z 55))]) hx hb dX3_pass_81 hl (by decide) rfl (fun ls hl => ?_)
      refine lv_aload hx hb dX3_pass_83 (lv_at hl 1 rfl) ?_
      refine lv_aload_n hx hb dX3_pass_85 rfl (lv_at hl 6 rfl) ?_
      refine lv_aload hx hb dX3_pass_86 (lv_at hl 1 rfl) ?_
      refine S_callVi C0 hK h (c_X3_flows hk9 i (by omega)) (cwV 1 hts gX3_pass_X3_flows rfl rfl rfl (by decide +kernel) ⟨Nat.le_of_ble_eq_true rfl, Nat.le_of_ble_eq_true rfl⟩) (k := 55) (ci := 3) (by omega) (fun ct hA => hA.2.1.2.2.2.1) rfl rfl rfl hl.1 (rest := [.ref (za z (ix (12 + i)))]) rfl (Nat.le_of_ble_eq_true rfl) ⟨Nat.le_of_ble_eq_true rfl, Nat.le_of_ble_eq_true rfl⟩ dX3_pass_88 (fun r u H locs hp h => ?_)
      obtain ⟨rfl, hu9⟩ := hp
      rw [hu9] at h
      refine U_pP C0 hK h hin2 (by omega) 6 (by decide) (k9 := 5) rfl (by decide +kernel) dX3_pass_91 (fun H locs S18 eS18 h => ?_)
      refine lv_aload hx hb dX3_pass_94 (lv_at hl 1 rfl) ?_
      refine lv_aload hx hb dX3_pass_96 (lv_at hl 1 rfl) ?_
      refine U_gP C0 hK h hin2 (by omega) 5 (by decide) (k9 := 9) rfl (by decide +kernel) dX3_pass_98 ?_
      refine lv_aload hx hb dX3_pass_101 (lv_at hl 1 rfl) ?_
      refine U_gP C0 hK h hin2 (by omega) 6 (by decide) (k9 := 5) rfl (by decide +kernel) dX3_pass_103 ?_
      refine lv_icmp_ge (tgt := 117) hx hb dX3_pass_106 (by decide) (fun c_106 => ?_) (fun c_106 => ?_)
      · refine lv_aload hx hb dX3_pass_117 (lv_at hl 1 rfl) ?_
        refine U_gP C0 hK h hin2 (by omega) 6 (by decide) (k9 := 5) rfl (by decide +kernel) dX3_pass_119 ?_
        refine U_pP C0 hK h hin2 (by omega) 7 (by decide) (k9 := 6) rfl (by decide +kernel) dX3_pass_122 (fun H locs S19 eS19 h => ?_)
        refine lv_aload hx hb dX3_pass_125 (lv_at hl 1 rfl) ?_
        refine lv_dup hx hb dX3_pass_127 rfl ?_
        refine U_gP C0 hK h hin2 (by omega) 8 (by decide) (k9 := 7) rfl (by decide +kernel) dX3_pass_128 ?_
        refine lv_aload hx hb dX3_pass_131 (lv_at hl 1 rfl) ?_
        refine U_gP C0 hK h hin2 (by omega) 7 (by decide) (k9 := 6) rfl (by decide +kernel) dX3_pass_133 ?_
        refine lv_iadd hx hb dX3_pass_136 ?_
        refine U_pP C0 hK h hin2 (by omega) 8 (by decide) (k9 := 7) rfl (by decide +kernel) dX3_pass_137 (fun H locs S20 eS20 h => ?_)
        have e8 : S20 = sflow1 i S17 := by subst eS20 eS19 eS18; unfold sflow1; simp only []; rw [if_pos c_106]
        refine lv_aload hx hb dX3_pass_140 (lv_at hl 1 rfl) ?_
        refine U_gP C0 hK h hin2 (by omega) 6 (by decide) (k9 := 5) rfl (by decide +kernel) dX3_pass_142 ?_
        refine lv_if_ne (tgt := 151) hx hb dX3_pass_145 (by decide) (fun c_145 => ?_) (fun c_145 => ?_)
        · have hne9 : ¬ qT S20 (qf S17 i) 3 = 0 := by intro q9; rw [e8] at q9 c_145; exact hw i (by omega) S17 (by rw [eS17, hS9]) (fun q8 => c_145 (by simp [sflow1, qP_sP, upd, q8])) q9
          refine lv_aload hx hb dX3_pass_151 (lv_at hl 0 rfl) ?_
          refine U_gT C0 hK h hin4 hk3 4 (by decide) (by decide +kernel) dX3_pass_153 ?_
          refine lv_aload hx hb dX3_pass_156 (lv_at hl 1 rfl) ?_
          refine U_gP C0 hK h hin2 (by omega) 6 (by decide) (k9 := 5) rfl (by decide +kernel) dX3_pass_158 ?_
          refine lv_imul hx hb dX3_pass_161 ?_
          refine lv_aload hx hb dX3_pass_162 (lv_at hl 0 rfl) ?_
          refine U_gT C0 hK h hin4 hk3 3 (by decide) (by decide +kernel) dX3_pass_164 ?_
          refine lv_idiv hx hb dX3_pass_167 hne9 ?_
          refine lv_istore (lv' := [(7, .int (((qT S20 (qf S17 i) 4) * (qP S20 i 5)) / (qT S20 (qf S17 i) 3))), (6, .ref (za z (ix (2 + (qf S17 i))))), (5, .ref (za z (ix (12 + i)))), (4, .int (nI i)), (3, .int (nI q)), (2, .ref (za z (ix 1))), (1, .int 0), (0, .ref (za z 55))]) hx hb dX3_pass_168 hl (by decide) rfl (fun ls hl => ?_)
          refine lv_aload hx hb dX3_pass_170 (lv_at hl 1 rfl) ?_
          refine lv_dup hx hb dX3_pass_172 rfl ?_
          refine U_gT C0 hK h hin4 hk3 3 (by decide) (by decide +kernel) dX3_pass_173 ?_
          refine lv_aload hx hb dX3_pass_176 (lv_at hl 2 rfl) ?_
          refine U_gP C0 hK h hin2 (by omega) 6 (by decide) (k9 := 5) rfl (by decide +kernel) dX3_pass_178 ?_
          refine lv_isub hx hb dX3_pass_181 ?_
          refine U_pT C0 hK h hin4 hk3 3 (by decide) (by decide +kernel) dX3_pass_182 (fun H locs S21 eS21 h => ?_)
          refine lv_aload hx hb dX3_pass_185 (lv_at hl 1 rfl) ?_
          refine lv_dup hx hb dX3_pass_187 rfl ?_
          refine U_gT C0 hK h hin4 hk3 4 (by decide) (by decide +kernel) dX3_pass_188 ?_
          refine lv_iload hx hb dX3_pass_191 (lv_at hl 0 rfl) ?_
          refine lv_isub hx hb dX3_pass_193 ?_
          refine U_pT C0 hK h hin4 hk3 4 (by decide) (by decide +kernel) dX3_pass_194 (fun H locs S22 eS22 h => ?_)
          have hF9 : qP S22 i 1 = nI (qo S17 i) := by subst eS22 eS21; rw [e8]; simp only [qP_sT, sflow1, qP_sP]; rw [pk_un (by decide), pk_un (by decide), pk_un (by decide)]; exact hF1
          refine lv_aload_n hx hb dX3_pass_197 rfl (lv_at hl 7 rfl) ?_
          refine U_gO C0 hK h hin3 0 (by decide) (by decide +kernel) rfl dX3_pass_198 ?_
          refine lv_aload hx hb dX3_pass_201 (lv_at hl 2 rfl) ?_
          refine U_gP C0 hK h hin2 (by omega) 1 (by decide) (k9 := 1) rfl (by decide +kernel) dX3_pass_203 ?_
          refine U_aT C0 hK h (i := qo S17 i) hF9 hk4 dX3_pass_206 ?_
          refine lv_aload hx hb dX3_pass_207 (lv_at hl 2 rfl) ?_
          refine U_gP C0 hK h hin2 (by omega) 6 (by decide) (k9 := 5) rfl (by decide +kernel) dX3_pass_209 ?_
          refine lv_aload hx hb dX3_pass_212 (lv_at hl 2 rfl) ?_
          refine U_gP C0 hK h hin2 (by omega) 7 (by decide) (k9 := 6) rfl (by decide +kernel) dX3_pass_214 ?_
          refine lv_isub hx hb dX3_pass_217 ?_
          refine lv_iload hx hb dX3_pass_218 (lv_at hl 0 rfl) ?_
          refine S_callVv C0 hK h (c_X4_comes (qo S17 i) hk4 ((qP S22 i 5) - (qP S22 i 6)) (((qT S20 (qf S17 i) 4) * (qP S20 i 5)) / (qT S20 (qf S17 i) 3))) (cwV 2 hts gX3_pass_X4_comes rfl rfl rfl (by decide +kernel) ⟨Nat.le_of_ble_eq_true rfl, Nat.le_of_ble_eq_true rfl⟩) (k := ix (2 + (qo S17 i))) (ci := 4) (u_ltT h hk4) (fun ct hA => (hA.2.1.2.2.2.2 _ (suT hk4)).trans (simV_T (by omega))) rfl rfl rfl hl.1 (rest := []) rfl (Nat.le_of_ble_eq_true rfl) ⟨Nat.le_of_ble_eq_true rfl, Nat.le_of_ble_eq_true rfl⟩ dX3_pass_220 (fun u H locs hp h => ?_)
          obtain ⟨S23, eS23⟩ : ∃ z9, z9 = sT S22 (qo S17 i) (comesR (qT S22 (qo S17 i)) ((qP S22 i 5) - (qP S22 i 6)) (((qT S20 (qf S17 i) 4) * (qP S20 i 5)) / (qT S20 (qf S17 i) 3))) := ⟨_, rfl⟩
          rw [hp, ← eS23] at h
          have e11 : S23 = sflow2 i (qf S17 i) (qo S17 i) S20 := by subst eS23 eS22 eS21; rfl
          refine lv_aload_n hx hb dX3_pass_223 rfl (lv_at hl 7 rfl) ?_
          refine U_gO C0 hK h hin3 2 (by decide) (by decide +kernel) rfl dX3_pass_224 ?_
          refine lv_iconst (v := 4) hx hb dX3_pass_227 (by decide) ?_
          refine lv_irem hx hb dX3_pass_228 (by decide) ?_
          refine lv_if_ne (tgt := 253) hx hb dX3_pass_229 (by decide) (fun c_229 => ?_) (fun c_229 => ?_)
          · refine lv_iinc (v := nI (i + 1)) (lv' := [(4, .int (nI (i + 1))), (7, .int (((qT S20 (qf S17 i) 4) * (qP S20 i 5)) / (qT S20 (qf S17 i) 3))), (6, .ref (za z (ix (2 + (qf S17 i))))), (5, .ref (za z (ix (12 + i)))), (3, .int (nI q)), (2, .ref (za z (ix 1))), (1, .int 0), (0, .ref (za z 55))]) hx hb dX3_pass_253 hl (k := 3) rfl (q_inc i 1) (by decide) rfl (fun ls hl => ?_)
            refine lv_goto (tgt := 59) hx hb dX3_pass_256 (by decide) ?_
            exact ihL59 (i + 1) (by omega) _ _ _ (flow_fix e8 e11 c_145 (by exact (if_neg c_229).symm) eS17 h) (lv_sub hl [0, 4, 5, 6, 7] rfl)
          · refine lv_aload hx hb dX3_pass_232 (lv_at hl 2 rfl) ?_
            refine U_gP C0 hK h hin2 (by omega) 4 (by decide) (k9 := 4) rfl (by decide +kernel) dX3_pass_234 ?_
            refine lv_bipush (v := 20) hx hb dX3_pass_237 (by decide) ?_
            refine lv_icmp_ge (tgt := 253) hx hb dX3_pass_239 (by decide) (fun c_239 => ?_) (fun c_239 => ?_)
            · refine lv_iinc (v := nI (i + 1)) (lv' := [(4, .int (nI (i + 1))), (7, .int (((qT S20 (qf S17 i) 4) * (qP S20 i 5)) / (qT S20 (qf S17 i) 3))), (6, .ref (za z (ix (2 + (qf S17 i))))), (5, .ref (za z (ix (12 + i)))), (3, .int (nI q)), (2, .ref (za z (ix 1))), (1, .int 0), (0, .ref (za z 55))]) hx hb dX3_pass_253 hl (k := 3) rfl (q_inc i 1) (by decide) rfl (fun ls hl => ?_)
              refine lv_goto (tgt := 59) hx hb dX3_pass_256 (by decide) ?_
              exact ihL59 (i + 1) (by omega) _ _ _ (flow_fix e8 e11 c_145 (by exact ((if_pos c_239).symm.trans (if_pos c_229).symm)) eS17 h) (lv_sub hl [0, 4, 5, 6, 7] rfl)
            · refine lv_aload hx hb dX3_pass_242 (lv_at hl 2 rfl) ?_
              refine lv_dup hx hb dX3_pass_244 rfl ?_
              refine U_gP C0 hK h hin2 (by omega) 4 (by decide) (k9 := 4) rfl (by decide +kernel) dX3_pass_245 ?_
              refine lv_iconst (v := 1) hx hb dX3_pass_248 (by decide) ?_
              refine lv_iadd hx hb dX3_pass_249 ?_
              refine U_pP C0 hK h hin2 (by omega) 4 (by decide) (k9 := 4) rfl (by decide +kernel) dX3_pass_250 (fun H locs S24 eS24 h => ?_)
              refine lv_iinc (v := nI (i + 1)) (lv' := [(4, .int (nI (i + 1))), (7, .int (((qT S20 (qf S17 i) 4) * (qP S20 i 5)) / (qT S20 (qf S17 i) 3))), (6, .ref (za z (ix (2 + (qf S17 i))))), (5, .ref (za z (ix (12 + i)))), (3, .int (nI q)), (2, .ref (za z (ix 1))), (1, .int 0), (0, .ref (za z 55))]) hx hb dX3_pass_253 hl (k := 3) rfl (q_inc i 1) (by decide) rfl (fun ls hl => ?_)
              refine lv_goto (tgt := 59) hx hb dX3_pass_256 (by decide) ?_
              exact ihL59 (i + 1) (by omega) _ _ _ (flow_fix e8 e11 c_145 (by subst eS24; exact ((if_neg c_239).symm.trans (if_pos c_229).symm)) eS17 h) (lv_sub hl [0, 4, 5, 6, 7] rfl)
        · refine lv_goto (tgt := 253) hx hb dX3_pass_148 (by decide) ?_
          refine lv_iinc (v := nI (i + 1)) (lv' := [(4, .int (nI (i + 1))), (6, .ref (za z (ix (2 + (qf S17 i))))), (5, .ref (za z (ix (12 + i)))), (3, .int (nI q)), (2, .ref (za z (ix 1))), (1, .int 0), (0, .ref (za z 55))]) hx hb dX3_pass_253 hl (k := 2) rfl (q_inc i 1) (by decide) rfl (fun ls hl => ?_)
          refine lv_goto (tgt := 59) hx hb dX3_pass_256 (by decide) ?_
          exact ihL59 (i + 1) (by omega) _ _ _ (flow_fix0 e8 c_145 eS17 h) (lv_sub hl [0, 3, 4, 5, 6] rfl)
      · refine lv_aload hx hb dX3_pass_109 (lv_at hl 1 rfl) ?_
        refine U_gP C0 hK h hin2 (by omega) 5 (by decide) (k9 := 9) rfl (by decide +kernel) dX3_pass_111 ?_
        refine lv_goto (tgt := 122) hx hb dX3_pass_114 (by decide) ?_
        refine U_pP C0 hK h hin2 (by omega) 7 (by decide) (k9 := 6) rfl (by decide +kernel) dX3_pass_122 (fun H locs S25 eS25 h => ?_)
        refine lv_aload hx hb dX3_pass_125 (lv_at hl 1 rfl) ?_
        refine lv_dup hx hb dX3_pass_127 rfl ?_
        refine U_gP C0 hK h hin2 (by omega) 8 (by decide) (k9 := 7) rfl (by decide +kernel) dX3_pass_128 ?_
        refine lv_aload hx hb dX3_pass_131 (lv_at hl 1 rfl) ?_
        refine U_gP C0 hK h hin2 (by omega) 7 (by decide) (k9 := 6) rfl (by decide +kernel) dX3_pass_133 ?_
        refine lv_iadd hx hb dX3_pass_136 ?_
        refine U_pP C0 hK h hin2 (by omega) 8 (by decide) (k9 := 7) rfl (by decide +kernel) dX3_pass_137 (fun H locs S26 eS26 h => ?_)
        have e8 : S26 = sflow1 i S17 := by subst eS26 eS25 eS18; unfold sflow1; simp only []; rw [if_neg c_106]
        refine lv_aload hx hb dX3_pass_140 (lv_at hl 1 rfl) ?_
        refine U_gP C0 hK h hin2 (by omega) 6 (by decide) (k9 := 5) rfl (by decide +kernel) dX3_pass_142 ?_
        refine lv_if_ne (tgt := 151) hx hb dX3_pass_145 (by decide) (fun c_145 => ?_) (fun c_145 => ?_)
        · have hne9 : ¬ qT S26 (qf S17 i) 3 = 0 := by intro q9; rw [e8] at q9 c_145; exact hw i (by omega) S17 (by rw [eS17, hS9]) (fun q8 => c_145 (by simp [sflow1, qP_sP, upd, q8])) q9
          refine lv_aload hx hb dX3_pass_151 (lv_at hl 0 rfl) ?_
          refine U_gT C0 hK h hin4 hk3 4 (by decide) (by decide +kernel) dX3_pass_153 ?_
          refine lv_aload hx hb dX3_pass_156 (lv_at hl 1 rfl) ?_
          refine U_gP C0 hK h hin2 (by omega) 6 (by decide) (k9 := 5) rfl (by decide +kernel) dX3_pass_158 ?_
          refine lv_imul hx hb dX3_pass_161 ?_
          refine lv_aload hx hb dX3_pass_162 (lv_at hl 0 rfl) ?_
          refine U_gT C0 hK h hin4 hk3 3 (by decide) (by decide +kernel) dX3_pass_164 ?_
          refine lv_idiv hx hb dX3_pass_167 hne9 ?_
          refine lv_istore (lv' := [(7, .int (((qT S26 (qf S17 i) 4) * (qP S26 i 5)) / (qT S26 (qf S17 i) 3))), (6, .ref (za z (ix (2 + (qf S17 i))))), (5, .ref (za z (ix (12 + i)))), (4, .int (nI i)), (3, .int (nI q)), (2, .ref (za z (ix 1))), (1, .int 0), (0, .ref (za z 55))]) hx hb dX3_pass_168 hl (by decide) rfl (fun ls hl => ?_)
          refine lv_aload hx hb dX3_pass_170 (lv_at hl 1 rfl) ?_
          refine lv_dup hx hb dX3_pass_172 rfl ?_
          refine U_gT C0 hK h hin4 hk3 3 (by decide) (by decide +kernel) dX3_pass_173 ?_
          refine lv_aload hx hb dX3_pass_176 (lv_at hl 2 rfl) ?_
          refine U_gP C0 hK h hin2 (by omega) 6 (by decide) (k9 := 5) rfl (by decide +kernel) dX3_pass_178 ?_
          refine lv_isub hx hb dX3_pass_181 ?_
          refine U_pT C0 hK h hin4 hk3 3 (by decide) (by decide +kernel) dX3_pass_182 (fun H locs S27 eS27 h => ?_)
          refine lv_aload hx hb dX3_pass_185 (lv_at hl 1 rfl) ?_
          refine lv_dup hx hb dX3_pass_187 rfl ?_
          refine U_gT C0 hK h hin4 hk3 4 (by decide) (by decide +kernel) dX3_pass_188 ?_
          refine lv_iload hx hb dX3_pass_191 (lv_at hl 0 rfl) ?_
          refine lv_isub hx hb dX3_pass_193 ?_
          refine U_pT C0 hK h hin4 hk3 4 (by decide) (by decide +kernel) dX3_pass_194 (fun H locs S28 eS28 h => ?_)
          have hF9 : qP S28 i 1 = nI (qo S17 i) := by subst eS28 eS27; rw [e8]; simp only [qP_sT, sflow1, qP_sP]; rw [pk_un (by decide), pk_un (by decide), pk_un (by decide)]; exact hF1
          refine lv_aload_n hx hb dX3_pass_197 rfl (lv_at hl 7 rfl) ?_
          refine U_gO C0 hK h hin3 0 (by decide) (by decide +kernel) rfl dX3_pass_198 ?_
          refine lv_aload hx hb dX3_pass_201 (lv_at hl 2 rfl) ?_
          refine U_gP C0 hK h hin2 (by omega) 1 (by decide) (k9 := 1) rfl (by decide +kernel) dX3_pass_203 ?_
          refine U_aT C0 hK h (i := qo S17 i) hF9 hk4 dX3_pass_206 ?_
          refine lv_aload hx hb dX3_pass_207 (lv_at hl 2 rfl) ?_
          refine U_gP C0 hK h hin2 (by omega) 6 (by decide) (k9 := 5) rfl (by decide +kernel) dX3_pass_209 ?_
          refine lv_aload hx hb dX3_pass_212 (lv_at hl 2 rfl) ?_
          refine U_gP C0 hK h hin2 (by omega) 7 (by decide) (k9 := 6) rfl (by decide +kernel) dX3_pass_214 ?_
          refine lv_isub hx hb dX3_pass_217 ?_
          refine lv_iload hx hb dX3_pass_218 (lv_at hl 0 rfl) ?_
          refine S_callVv C0 hK h (c_X4_comes (qo S17 i) hk4 ((qP S28 i 5) - (qP S28 i 6)) (((qT S26 (qf S17 i) 4) * (qP S26 i 5)) / (qT S26 (qf S17 i) 3))) (cwV 2 hts gX3_pass_X4_comes rfl rfl rfl (by decide +kernel) ⟨Nat.le_of_ble_eq_true rfl, Nat.le_of_ble_eq_true rfl⟩) (k := ix (2 + (qo S17 i))) (ci := 4) (u_ltT h hk4) (fun ct hA => (hA.2.1.2.2.2.2 _ (suT hk4)).trans (simV_T (by omega))) rfl rfl rfl hl.1 (rest := []) rfl (Nat.le_of_ble_eq_true rfl) ⟨Nat.le_of_ble_eq_true rfl, Nat.le_of_ble_eq_true rfl⟩ dX3_pass_220 (fun u H locs hp h => ?_)
          obtain ⟨S29, eS29⟩ : ∃ z9, z9 = sT S28 (qo S17 i) (comesR (qT S28 (qo S17 i)) ((qP S28 i 5) - (qP S28 i 6)) (((qT S26 (qf S17 i) 4) * (qP S26 i 5)) / (qT S26 (qf S17 i) 3))) := ⟨_, rfl⟩
          rw [hp, ← eS29] at h
          have e11 : S29 = sflow2 i (qf S17 i) (qo S17 i) S26 := by subst eS29 eS28 eS27; rfl
          refine lv_aload_n hx hb dX3_pass_223 rfl (lv_at hl 7 rfl) ?_
          refine U_gO C0 hK h hin3 2 (by decide) (by decide +kernel) rfl dX3_pass_224 ?_
          refine lv_iconst (v := 4) hx hb dX3_pass_227 (by decide) ?_
          refine lv_irem hx hb dX3_pass_228 (by decide) ?_
          refine lv_if_ne (tgt := 253) hx hb dX3_pass_229 (by decide) (fun c_229 => ?_) (fun c_229 => ?_)
          · refine lv_iinc (v := nI (i + 1)) (lv' := [(4, .int (nI (i + 1))), (7, .int (((qT S26 (qf S17 i) 4) * (qP S26 i 5)) / (qT S26 (qf S17 i) 3))), (6, .ref (za z (ix (2 + (qf S17 i))))), (5, .ref (za z (ix (12 + i)))), (3, .int (nI q)), (2, .ref (za z (ix 1))), (1, .int 0), (0, .ref (za z 55))]) hx hb dX3_pass_253 hl (k := 3) rfl (q_inc i 1) (by decide) rfl (fun ls hl => ?_)
            refine lv_goto (tgt := 59) hx hb dX3_pass_256 (by decide) ?_
            exact ihL59 (i + 1) (by omega) _ _ _ (flow_fix e8 e11 c_145 (by exact (if_neg c_229).symm) eS17 h) (lv_sub hl [0, 4, 5, 6, 7] rfl)
          · refine lv_aload hx hb dX3_pass_232 (lv_at hl 2 rfl) ?_
            refine U_gP C0 hK h hin2 (by omega) 4 (by decide) (k9 := 4) rfl (by decide +kernel) dX3_pass_234 ?_
            refine lv_bipush (v := 20) hx hb dX3_pass_237 (by decide) ?_
            refine lv_icmp_ge (tgt := 253) hx hb dX3_pass_239 (by decide) (fun c_239 => ?_) (fun c_239 => ?_)
            · refine lv_iinc (v := nI (i + 1)) (lv' := [(4, .int (nI (i + 1))), (7, .int (((qT S26 (qf S17 i) 4) * (qP S26 i 5)) / (qT S26 (qf S17 i) 3))), (6, .ref (za z (ix (2 + (qf S17 i))))), (5, .ref (za z (ix (12 + i)))), (3, .int (nI q)), (2, .ref (za z (ix 1))), (1, .int 0), (0, .ref (za z 55))]) hx hb dX3_pass_253 hl (k := 3) rfl (q_inc i 1) (by decide) rfl (fun ls hl => ?_)
              refine lv_goto (tgt := 59) hx hb dX3_pass_256 (by decide) ?_
              exact ihL59 (i + 1) (by omega) _ _ _ (flow_fix e8 e11 c_145 (by exact ((if_pos c_239).symm.trans (if_pos c_229).symm)) eS17 h) (lv_sub hl [0, 4, 5, 6, 7] rfl)
            · refine lv_aload hx hb dX3_pass_242 (lv_at hl 2 rfl) ?_
              refine lv_dup hx hb dX3_pass_244 rfl ?_
              refine U_gP C0 hK h hin2 (by omega) 4 (by decide) (k9 := 4) rfl (by decide +kernel) dX3_pass_245 ?_
              refine lv_iconst (v := 1) hx hb dX3_pass_248 (by decide) ?_
              refine lv_iadd hx hb dX3_pass_249 ?_
              refine U_pP C0 hK h hin2 (by omega) 4 (by decide) (k9 := 4) rfl (by decide +kernel) dX3_pass_250 (fun H locs S30 eS30 h => ?_)
              refine lv_iinc (v := nI (i + 1)) (lv' := [(4, .int (nI (i + 1))), (7, .int (((qT S26 (qf S17 i) 4) * (qP S26 i 5)) / (qT S26 (qf S17 i) 3))), (6, .ref (za z (ix (2 + (qf S17 i))))), (5, .ref (za z (ix (12 + i)))), (3, .int (nI q)), (2, .ref (za z (ix 1))), (1, .int 0), (0, .ref (za z 55))]) hx hb dX3_pass_253 hl (k := 3) rfl (q_inc i 1) (by decide) rfl (fun ls hl => ?_)
              refine lv_goto (tgt := 59) hx hb dX3_pass_256 (by decide) ?_
              exact ihL59 (i + 1) (by omega) _ _ _ (flow_fix e8 e11 c_145 (by subst eS30; exact ((if_neg c_239).symm.trans (if_pos c_229).symm)) eS17 h) (lv_sub hl [0, 4, 5, 6, 7] rfl)
        · refine lv_goto (tgt := 253) hx hb dX3_pass_148 (by decide) ?_
          refine lv_iinc (v := nI (i + 1)) (lv' := [(4, .int (nI (i + 1))), (6, .ref (za z (ix (2 + (qf S17 i))))), (5, .ref (za z (ix (12 + i)))), (3, .int (nI q)), (2, .ref (za z (ix 1))), (1, .int 0), (0, .ref (za z 55))]) hx hb dX3_pass_253 hl (k := 2) rfl (q_inc i 1) (by decide) rfl (fun ls hl => ?_)
          refine lv_goto (tgt := 59) hx hb dX3_pass_256 (by decide) ?_
          exact ihL59 (i + 1) (by omega) _ _ _ (flow_fix0 e8 c_145 eS17 h) (lv_sub hl [0, 3, 4, 5, 6] rfl)
  have L13 : ∀ (d i : Nat), i + d = t → ∀ (H : Heap) (locs : List Loc) (ls : Array Slot), GW z (UAt z ix t q b n) 0 (b + n) s.heap ct (X, Y, (itN sfeedF i S), f) H locs → lv_has ls 8 [(4, .int (nI i)), (3, .int (nI t)), (2, .ref (za z (ix 0))), (1, .int 0), (0, .ref (za z 55))] → W p l e ({ frames := 1, cells := 0, slots := 0, locals := 25 } : Room) s m [.ref (za z 55)].toArray below meth c H locs 0 0 (EI z (UAt z ix t q b n) 0 (b + n) ct s below [.ref (za z 55)] 0 0 (fun r u => u = (X, Y, spass t q S, f))) (F0 m 13 ls []) := by
    intro  d
    induction d with
    | zero =>
      intro i hdi H locs ls h hl
      have hEi : i = t := by omega
      obtain ⟨S31, eS31⟩ : ∃ z9, z9 = itN sfeedF i S := ⟨_, rfl⟩
      rw [← eS31] at h
      have hs9 : Shp S S31 := by rw [eS31]; exact shp_it (f := sfeedF) (fun _ _ => shp_sT) S i
      have hk9 := hs9.ok hk
      refine lv_iload hx hb dX3_pass_13 (lv_at hl 0 rfl) ?_
      refine lv_iload_n hx hb dX3_pass_15 rfl (lv_at hl 1 rfl) ?_
      refine lv_icmp_ge (tgt := 48) hx hb dX3_pass_16 (by decide) (fun _ => ?_) (fun q9 => absurd (nI_le (by omega) (by omega)) q9)
      refine lv_aload_n hx hb dX3_pass_48 rfl (lv_at hl 4 rfl) ?_
      refine U_gO C0 hK h hin3 1 (by decide) (by decide +kernel) rfl dX3_pass_49 ?_
      refine lv_astore_n (lv' := [(2, .ref (za z (ix 1))), (4, .int (nI i)), (3, .int (nI t)), (1, .int 0), (0, .ref (za z 55))]) hx hb dX3_pass_52 rfl hl (by decide) rfl (fun ls hl => ?_)
      refine lv_aload_n hx hb dX3_pass_53 rfl (lv_at hl 0 rfl) ?_
      refine U_lP C0 hK h dX3_pass_54 ?_
      refine lv_istore_n (lv' := [(3, .int (nI q)), (2, .ref (za z (ix 1))), (4, .int (nI i)), (1, .int 0), (0, .ref (za z 55))]) hx hb dX3_pass_55 rfl hl (by decide) rfl (fun ls hl => ?_)
      refine lv_iconst (v := 0) hx hb dX3_pass_56 (by decide) ?_
      refine lv_istore (lv' := [(4, .int 0), (3, .int (nI q)), (2, .ref (za z (ix 1))), (1, .int 0), (0, .ref (za z 55))]) hx hb dX3_pass_57 hl (by decide) rfl (fun ls hl => ?_)
      exact L59 S31 hk9 ⟨hs9.1.trans hqt, hs9.2.1.trans hqp⟩ (by rw [eS31, hEi]) (q) 0 (by omega) _ _ _ h (lv_sub hl [0, 1, 2, 3, 4] rfl)
    | succ d ihL13 =>
      intro i hdi H locs ls h hl
      have hEi : i < t := by omega
      obtain ⟨S32, eS32⟩ : ∃ z9, z9 = itN sfeedF i S := ⟨_, rfl⟩
      rw [← eS32] at h
      have hs9 : Shp S S32 := by rw [eS32]; exact shp_it (f := sfeedF) (fun _ _ => shp_sT) S i
      have hk9 := hs9.ok hk
      refine lv_iload hx hb dX3_pass_13 (lv_at hl 0 rfl) ?_
      refine lv_iload_n hx hb dX3_pass_15 rfl (lv_at hl 1 rfl) ?_
      refine lv_icmp_ge (tgt := 48) hx hb dX3_pass_16 (by decide) (fun q9 => absurd q9 (nI_ge (by omega) (by omega))) (fun _ => ?_)
      refine lv_aload_n hx hb dX3_pass_19 rfl (lv_at hl 2 rfl) ?_
      refine lv_iload hx hb dX3_pass_20 (lv_at hl 0 rfl) ?_
      refine U_aT C0 hK h (i := i) rfl (by omega) dX3_pass_22 ?_
      refine lv_astore (lv' := [(5, .ref (za z (ix (2 + i)))), (4, .int (nI i)), (3, .int (nI t)), (2, .ref (za z (ix 0))), (1, .int 0), (0, .ref (za z 55))]) hx hb dX3_pass_23 hl (by decide) rfl (fun ls hl => ?_)
      refine lv_aload hx hb dX3_pass_25 (lv_at hl 0 rfl) ?_
      refine lv_aload hx hb dX3_pass_27 (lv_at hl 0 rfl) ?_
      refine U_gT C0 hK h hin4 (by omega) 1 (by decide) (by decide +kernel) dX3_pass_29 ?_
      refine lv_aload hx hb dX3_pass_32 (lv_at hl 0 rfl) ?_
      refine U_gT C0 hK h hin4 (by omega) 1 (by decide) (by decide +kernel) dX3_pass_34 ?_
      refine lv_iconst (v := 4) hx hb dX3_pass_37 (by decide) ?_
      refine lv_idiv hx hb dX3_pass_38 (by decide) ?_
      refine S_callVv C0 hK h (c_X4_comes i (by omega) (qT S32 i 1) ((qT S32 i 1) / 4)) (cwV 2 hts gX3_pass_X4_comes rfl rfl rfl (by decide +kernel) ⟨Nat.le_of_ble_eq_true rfl, Nat.le_of_ble_eq_true rfl⟩) (k := ix (2 + i)) (ci := 4) (u_ltT h (by omega)) (fun ct hA => (hA.2.1.2.2.2.2 _ (suT (by omega))).trans (simV_T (by omega))) rfl rfl rfl hl.1 (rest := []) rfl (Nat.le_of_ble_eq_true rfl) ⟨Nat.le_of_ble_eq_true rfl, Nat.le_of_ble_eq_true rfl⟩ dX3_pass_39 (fun u H locs hp h => ?_)
      obtain ⟨S33, eS33⟩ : ∃ z9, z9 = sT S32 i (comesR (qT S32 i) (qT S32 i 1) ((qT S32 i 1) / 4)) := ⟨_, rfl⟩
      rw [hp, ← eS33] at h
      refine lv_iinc (v := nI (i + 1)) (lv' := [(4, .int (nI (i + 1))), (5, .ref (za z (ix (2 + i)))), (3, .int (nI t)), (2, .ref (za z (ix 0))), (1, .int 0), (0, .ref (za z 55))]) hx hb dX3_pass_42 hl (k := 1) rfl (q_inc i 1) (by decide) rfl (fun ls hl => ?_)
      refine lv_goto (tgt := 13) hx hb dX3_pass_45 (by decide) ?_
      exact ihL13 (i + 1) (by omega) _ _ _ (by subst eS33; rw [eS32] at h; exact h) (lv_sub hl [0, 2, 3, 4, 5] rfl)
  refine lv_iconst (v := 0) hx hb dX3_pass_0 (by decide) ?_
  refine lv_istore_n (lv' := [(1, .int 0), (0, .ref (za z 55))]) hx hb dX3_pass_1 rfl hl (by decide) rfl (fun ls hl => ?_)
  refine lv_aload_n hx hb dX3_pass_2 rfl (lv_at hl 1 rfl) ?_
  refine U_gO C0 hK h hin3 0 (by decide) (by decide +kernel) rfl dX3_pass_3 ?_
  refine lv_astore_n (lv' := [(2, .ref (za z (ix 0))), (1, .int 0), (0, .ref (za z 55))]) hx hb dX3_pass_6 rfl hl (by decide) rfl (fun ls hl => ?_)
  refine lv_aload_n hx hb dX3_pass_7 rfl (lv_at hl 0 rfl) ?_
  refine U_lT C0 hK h dX3_pass_8 ?_
  refine lv_istore_n (lv' := [(3, .int (nI t)), (2, .ref (za z (ix 0))), (1, .int 0), (0, .ref (za z 55))]) hx hb dX3_pass_9 rfl hl (by decide) rfl (fun ls hl => ?_)
  refine lv_iconst (v := 0) hx hb dX3_pass_10 (by decide) ?_
  refine lv_istore (lv' := [(4, .int 0), (3, .int (nI t)), (2, .ref (za z (ix 0))), (1, .int 0), (0, .ref (za z 55))]) hx hb dX3_pass_11 hl (by decide) rfl (fun ls hl => ?_)
  exact L13 (t) 0 (by omega) _ _ _ h (lv_sub hl [0, 1, 2, 3, 4] rfl)
