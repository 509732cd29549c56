/-! the law's cases [3, 4, 5] -/
set_option maxHeartbeats 4000000 in
set_option maxRecDepth 100000 in
theorem law_c3 {p : Program} {l : Launch} {e : Env} {s : State} {m : MethodId} {below : List Frame} {meth : Method} {c : Code} {H : Heap} {locs : List Loc} {Q : State → Prop} {ls : Array Slot} {z : QZ} {c0 : Nat → va_E} {b L i : Nat} {xs : Nat → Int32} {σ : Nat → QLs} {S : QLs} {M : QMs} {f : Nat → Int64} (C0 : Cx p s m #[Value.ref b] meth c cL_law 9 ret RL wsL_law) (hlt : l.stackTraces = false) (hK : QK z s) (hT : TZ z s) (hX : va_X b L xs s s.heap) (hbl : b < s.heap.size) (hge : ∀ k, k < zn z → s.heap.size ≤ za z k) (hL : L ≤ 2560) (hi : i + 5 ≤ L) (hR : RR (20 * i) S M) (hZ : ZZ S) (h : GW z (WAt z) 0 60 s.heap c0 (va_up σ 0 S, M, f) H locs) (hl : lv_has ls 9 [(4, .int (nI i)), (3, .ref (za z 59)), (2, .ref (za z 55)), (1, .ref (za z 0)), (0, .ref b)])
    (back : ∀ (σ : Nat → QLs) (S : QLs) (M : QMs) (f : Nat → Int64) (H : Heap) (locs : List Loc) (cells slots : Nat) (ls : Array Slot), RR (20 * i + 100) S M → ZZ S → GW z (WAt z) 0 60 s.heap c0 (va_up σ 0 S, M, f) H locs → lv_has ls 9 [(4, .int (nI i)), (3, .ref (za z 59)), (2, .ref (za z 55)), (1, .ref (za z 0)), (0, .ref b)] → cells ≤ 100 + i + 5 → slots ≤ 2000 + 44 * i + 220 → W p l e room_1 s m #[Value.ref b] below meth c H locs cells slots Q (F0 m 1104 ls [])) :
    W p l e room_1 s m #[Value.ref b] below meth c H locs (100 + i) (2000 + 44 * i) Q (F0 m 372 ls []) := by
  obtain ⟨hx, hb, hr, hml, hown, hts, hlocks⟩ := id C0
  obtain ⟨k9, b9, S2, f2, M2, hH, hM, hk9, hf9, hR2, hZ2⟩ := ag_flush (l := l) (z := z) (σ := σ) (f := f) hlt hR hZ (by omega) (xs (i + 1))
  refine lv_aload_n hx hb dL_law_372 rfl (lv_at hl 3 rfl) ?_
  refine lv_aload_n hx hb dL_law_373 rfl (lv_at hl 4 rfl) ?_
  refine lv_iload hx hb dL_law_374 (lv_at hl 0 rfl) ?_
  refine lv_iconst (v := 1) hx hb dL_law_376 (by decide) ?_
  refine lv_iadd hx hb dL_law_377 ?_
  refine L_sld C0 hX hbl hge h (j := i + 1) (q_add rfl rfl) (by omega) hL dL_law_378 ?_
  refine lv_aload_n hx hb dL_law_379 rfl (lv_at hl 1 rfl) ?_
  refine L_help C0 hK hT h hH (vx_cwSW 3 hts gL_law_L_flush rfl rfl rfl (by decide +kernel) ⟨Nat.le_of_ble_eq_true rfl, Nat.le_of_ble_eq_true rfl⟩) rfl hl.1 (rest := []) rfl (Nat.le_of_ble_eq_true rfl) ⟨by show _ ≤ 601024; omega, by show _ ≤ 7293034; omega⟩ dL_law_380 (fun r1 u H locs hp h => ?_)
  obtain ⟨hr8, σ2, hu8⟩ := hp
  rw [hu8] at h
  rw [hr8]
  refine lv_istore (lv' := [(5, .int k9), (4, .int (nI i)), (3, .ref (za z 59)), (2, .ref (za z 55)), (1, .ref (za z 0)), (0, .ref b)]) hx hb dL_law_383 hl (by decide) rfl (fun ls hl => ?_)
  refine lv_aload_n hx hb dL_law_385 rfl (lv_at hl 3 rfl) ?_
  refine lv_aload_n hx hb dL_law_386 rfl (lv_at hl 5 rfl) ?_
  refine lv_iload hx hb dL_law_387 (lv_at hl 1 rfl) ?_
  refine lv_iconst (v := 1) hx hb dL_law_389 (by decide) ?_
  refine lv_iadd hx hb dL_law_390 ?_
  refine L_sld C0 hX hbl hge h (j := i + 1) (q_add rfl rfl) (by omega) hL dL_law_391 ?_
  refine G_callVi C0 hK h hM (fun _ h => h.2.1) (fun u => ((va_up σ2 0 S2), u, f2)) (fun ct ct2 u hA hX hF => hA.M hX hF) (by decide) (by decide) (cwV 1 hts gL_law_X2_flush rfl rfl rfl (by decide +kernel) ⟨Nat.le_of_ble_eq_true rfl, Nat.le_of_ble_eq_true rfl⟩) (k := 55) (ci := 2) (by omega) (fun ct hA => hA.2.1.1) rfl rfl rfl hl.1 (rest := []) rfl (Nat.le_of_ble_eq_true rfl) ⟨by show _ ≤ 601024; omega, by show _ ≤ 7293034; omega⟩ dL_law_392 (fun r u H locs hp h => ?_)
  obtain ⟨hr9, hu9⟩ := hp
  rw [hu9] at h
  rw [hr9]
  refine lv_istore (lv' := [(6, .int b9), (5, .int k9), (4, .int (nI i)), (3, .ref (za z 59)), (2, .ref (za z 55)), (1, .ref (za z 0)), (0, .ref b)]) hx hb dL_law_395 hl (by decide) rfl (fun ls hl => ?_)
  refine lv_aload_n hx hb dL_law_397 rfl (lv_at hl 4 rfl) ?_
  refine G_callVi C0 hK h (c_X2_thrown l z M2) (fun _ h => h.2.1) (fun u => ((va_up σ2 0 S2), u, f2)) (fun ct ct2 u hA hX hF => hA.M hX hF) (by decide) (by decide) (cwV 0 hts gL_law_X2_thrown rfl rfl rfl (by decide +kernel) ⟨Nat.le_of_ble_eq_true rfl, Nat.le_of_ble_eq_true rfl⟩) (k := 55) (ci := 2) (by omega) (fun ct hA => hA.2.1.1) rfl rfl rfl hl.1 (rest := []) rfl (Nat.le_of_ble_eq_true rfl) ⟨by show _ ≤ 601024; omega, by show _ ≤ 7293034; omega⟩ dL_law_398 (fun r u H locs hp h => ?_)
  obtain ⟨hr9, hu9⟩ := hp
  rw [hu9] at h
  rw [hr9, hk9]
  refine lv_iload hx hb dL_law_401 (lv_at hl 1 rfl) ?_
  refine lv_icmp_eq (tgt := 408) hx hb dL_law_403 (by decide) (fun _ => ?_) (fun q9 => absurd rfl q9)
  refine lv_iload hx hb dL_law_408 (lv_at hl 1 rfl) ?_
  refine lv_if_ne (tgt := 425) hx hb dL_law_410 (by decide) (fun _ => ?_) (fun q9 => ?_)
  · refine lv_goto (tgt := 1104) hx hb dL_law_425 (by decide) ?_
    exact back _ _ _ _ _ _ _ _ _ hR2 hZ2 h (lv_sub hl [2, 3, 4, 5, 6] rfl) (by omega) (by omega)
  · refine lv_aload_n hx hb dL_law_413 rfl (lv_at hl 3 rfl) ?_
    refine lv_iconst (v := 0) hx hb dL_law_414 (by decide) ?_
    refine G_lald C0 hK h (k := 59) (by omega) (fun ct hA => hA.2.2) (j := 0) rfl (by decide) (by decide) dL_law_415 ?_
    refine lv_iload hx hb dL_law_416 (lv_at hl 0 rfl) ?_
    refine lv_i2l hx hb dL_law_418 rfl ?_
    refine W.lcmp hx hb dL_law_419 ?_
    refine lv_if_eq (tgt := 425) hx hb dL_law_420 (by decide) (fun _ => ?_) (fun q8 => absurd (q_lcmp (hf9 q9)) q8)
    refine lv_goto (tgt := 1104) hx hb dL_law_425 (by decide) ?_
    exact back _ _ _ _ _ _ _ _ _ hR2 hZ2 h (lv_sub hl [2, 3, 4, 5, 6] rfl) (by omega) (by omega)
set_option maxHeartbeats 4000000 in
set_option maxRecDepth 100000 in
theorem law_c4 {p : Program} {l : Launch} {e : Env} {s : State} {m : MethodId} {below : List Frame} {meth : Method} {c : Code} {H : Heap} {locs : List Loc} {Q : State → Prop} {ls : Array Slot} {z : QZ} {c0 : Nat → va_E} {b L i : Nat} {xs : Nat → Int32} {σ : Nat → QLs} {S : QLs} {M : QMs} {f : Nat → Int64} (C0 : Cx p s m #[Value.ref b] meth c cL_law 9 ret RL wsL_law) (hlt : l.stackTraces = false) (hK : QK z s) (hT : TZ z s) (hX : va_X b L xs s s.heap) (hbl : b < s.heap.size) (hge : ∀ k, k < zn z → s.heap.size ≤ za z k) (hL : L ≤ 2560) (hi : i + 5 ≤ L) (hR : RR (20 * i) S M) (hZ : ZZ S) (h : GW z (WAt z) 0 60 s.heap c0 (va_up σ 0 S, M, f) H locs) (hl : lv_has ls 9 [(4, .int (nI i)), (3, .ref (za z 59)), (2, .ref (za z 55)), (1, .ref (za z 0)), (0, .ref b)])
    (back : ∀ (σ : Nat → QLs) (S : QLs) (M : QMs) (f : Nat → Int64) (H : Heap) (locs : List Loc) (cells slots : Nat) (ls : Array Slot), RR (20 * i + 100) S M → ZZ S → GW z (WAt z) 0 60 s.heap c0 (va_up σ 0 S, M, f) H locs → lv_has ls 9 [(4, .int (nI i)), (3, .ref (za z 59)), (2, .ref (za z 55)), (1, .ref (za z 0)), (0, .ref b)] → cells ≤ 100 + i + 5 → slots ≤ 2000 + 44 * i + 220 → W p l e room_1 s m #[Value.ref b] below meth c H locs cells slots Q (F0 m 1104 ls [])) :
    W p l e room_1 s m #[Value.ref b] below meth c H locs (100 + i) (2000 + 44 * i) Q (F0 m 428 ls []) := by
  obtain ⟨hx, hb, hr, hml, hown, hts, hlocks⟩ := id C0
  obtain ⟨k9, b9, S2, f2, M2, hH, hM, hk9, hf9, hR2, hZ2⟩ := ag_scrape (l := l) (z := z) (σ := σ) (f := f) hlt hR hZ (by omega) (xs (i + 1))
  refine lv_aload_n hx hb dL_law_428 rfl (lv_at hl 3 rfl) ?_
  refine lv_aload_n hx hb dL_law_429 rfl (lv_at hl 4 rfl) ?_
  refine lv_iload hx hb dL_law_430 (lv_at hl 0 rfl) ?_
  refine lv_iconst (v := 1) hx hb dL_law_432 (by decide) ?_
  refine lv_iadd hx hb dL_law_433 ?_
  refine L_sld C0 hX hbl hge h (j := i + 1) (q_add rfl rfl) (by omega) hL dL_law_434 ?_
  refine lv_aload_n hx hb dL_law_435 rfl (lv_at hl 1 rfl) ?_
  refine L_help C0 hK hT h hH (vx_cwSW 3 hts gL_law_L_scrape rfl rfl rfl (by decide +kernel) ⟨Nat.le_of_ble_eq_true rfl, Nat.le_of_ble_eq_true rfl⟩) rfl hl.1 (rest := []) rfl (Nat.le_of_ble_eq_true rfl) ⟨by show _ ≤ 601024; omega, by show _ ≤ 7293034; omega⟩ dL_law_436 (fun r1 u H locs hp h => ?_)
  obtain ⟨hr8, σ2, hu8⟩ := hp
  rw [hu8] at h
  rw [hr8]
  refine lv_istore (lv' := [(5, .int k9), (4, .int (nI i)), (3, .ref (za z 59)), (2, .ref (za z 55)), (1, .ref (za z 0)), (0, .ref b)]) hx hb dL_law_439 hl (by decide) rfl (fun ls hl => ?_)
  refine lv_aload_n hx hb dL_law_441 rfl (lv_at hl 3 rfl) ?_
  refine lv_aload_n hx hb dL_law_442 rfl (lv_at hl 5 rfl) ?_
  refine lv_iload hx hb dL_law_443 (lv_at hl 1 rfl) ?_
  refine lv_iconst (v := 1) hx hb dL_law_445 (by decide) ?_
  refine lv_iadd hx hb dL_law_446 ?_
  refine L_sld C0 hX hbl hge h (j := i + 1) (q_add rfl rfl) (by omega) hL dL_law_447 ?_
  refine G_callVi C0 hK h hM (fun _ h => h.2.1) (fun u => ((va_up σ2 0 S2), u, f2)) (fun ct ct2 u hA hX hF => hA.M hX hF) (by decide) (by decide) (cwV 1 hts gL_law_X2_scrape rfl rfl rfl (by decide +kernel) ⟨Nat.le_of_ble_eq_true rfl, Nat.le_of_ble_eq_true rfl⟩) (k := 55) (ci := 2) (by omega) (fun ct hA => hA.2.1.1) rfl rfl rfl hl.1 (rest := []) rfl (Nat.le_of_ble_eq_true rfl) ⟨by show _ ≤ 601024; omega, by show _ ≤ 7293034; omega⟩ dL_law_448 (fun r u H locs hp h => ?_)
  obtain ⟨hr9, hu9⟩ := hp
  rw [hu9] at h
  rw [hr9]
  refine lv_istore (lv' := [(6, .int b9), (5, .int k9), (4, .int (nI i)), (3, .ref (za z 59)), (2, .ref (za z 55)), (1, .ref (za z 0)), (0, .ref b)]) hx hb dL_law_451 hl (by decide) rfl (fun ls hl => ?_)
  refine lv_aload_n hx hb dL_law_453 rfl (lv_at hl 4 rfl) ?_
  refine G_callVi C0 hK h (c_X2_thrown l z M2) (fun _ h => h.2.1) (fun u => ((va_up σ2 0 S2), u, f2)) (fun ct ct2 u hA hX hF => hA.M hX hF) (by decide) (by decide) (cwV 0 hts gL_law_X2_thrown rfl rfl rfl (by decide +kernel) ⟨Nat.le_of_ble_eq_true rfl, Nat.le_of_ble_eq_true rfl⟩) (k := 55) (ci := 2) (by omega) (fun ct hA => hA.2.1.1) rfl rfl rfl hl.1 (rest := []) rfl (Nat.le_of_ble_eq_true rfl) ⟨by show _ ≤ 601024; omega, by show _ ≤ 7293034; omega⟩ dL_law_454 (fun r u H locs hp h => ?_)
  obtain ⟨hr9, hu9⟩ := hp
  rw [hu9] at h
  rw [hr9, hk9]
  refine lv_iload hx hb dL_law_457 (lv_at hl 1 rfl) ?_
  refine lv_icmp_eq (tgt := 464) hx hb dL_law_459 (by decide) (fun _ => ?_) (fun q9 => absurd rfl q9)
  refine lv_iload hx hb dL_law_464 (lv_at hl 1 rfl) ?_
  refine lv_if_ne (tgt := 481) hx hb dL_law_466 (by decide) (fun _ => ?_) (fun q9 => ?_)
  · refine lv_goto (tgt := 1104) hx hb dL_law_481 (by decide) ?_
    exact back _ _ _ _ _ _ _ _ _ hR2 hZ2 h (lv_sub hl [2, 3, 4, 5, 6] rfl) (by omega) (by omega)
  · refine lv_aload_n hx hb dL_law_469 rfl (lv_at hl 3 rfl) ?_
    refine lv_iconst (v := 0) hx hb dL_law_470 (by decide) ?_
    refine G_lald C0 hK h (k := 59) (by omega) (fun ct hA => hA.2.2) (j := 0) rfl (by decide) (by decide) dL_law_471 ?_
    refine lv_iload hx hb dL_law_472 (lv_at hl 0 rfl) ?_
    refine lv_i2l hx hb dL_law_474 rfl ?_
    refine W.lcmp hx hb dL_law_475 ?_
    refine lv_if_eq (tgt := 481) hx hb dL_law_476 (by decide) (fun _ => ?_) (fun q8 => absurd (q_lcmp (hf9 q9)) q8)
    refine lv_goto (tgt := 1104) hx hb dL_law_481 (by decide) ?_
    exact back _ _ _ _ _ _ _ _ _ hR2 hZ2 h (lv_sub hl [2, 3, 4, 5, 6] rfl) (by omega) (by omega)
set_option maxHeartbeats 4000000 in
set_option maxRecDepth 100000 in
theorem law_c5 {p : Program} {l : Launch} {e : Env} {s : State} {m : MethodId} {below : List Frame} {meth : Method} {c : Code} {H : Heap} {locs : List Loc} {Q : State → Prop} {ls : Array Slot} {z : QZ} {c0 : Nat → va_E} {b L i : Nat} {xs : Nat → Int32} {σ : Nat → QLs} {S : QLs} {M : QMs} {f : Nat → Int64} (C0 : Cx p s m #[Value.ref b] meth c cL_law 9 ret RL wsL_law) (hlt : l.stackTraces = false) (hK : QK z s) (hT : TZ z s) (hX : va_X b L xs s s.heap) (hbl : b < s.heap.size) (hge : ∀ k, k < zn z → s.heap.size ≤ za z k) (hL : L ≤ 2560) (hi : i + 5 ≤ L) (hR : RR (20 * i) S M) (hZ : ZZ S) (h : GW z (WAt z) 0 60 s.heap c0 (va_up σ 0 S, M, f) H locs) (hl : lv_has ls 9 [(4, .int (nI i)), (3, .ref (za z 59)), (2, .ref (za z 55)), (1, .ref (za z 0)), (0, .ref b)])
    (back : ∀ (σ : Nat → QLs) (S : QLs) (M : QMs) (f : Nat → Int64) (H : Heap) (locs : List Loc) (cells slots : Nat) (ls : Array Slot), RR (20 * i + 100) S M → ZZ S → GW z (WAt z) 0 60 s.heap c0 (va_up σ 0 S, M, f) H locs → lv_has ls 9 [(4, .int (nI i)), (3, .ref (za z 59)), (2, .ref (za z 55)), (1, .ref (za z 0)), (0, .ref b)] → cells ≤ 100 + i + 5 → slots ≤ 2000 + 44 * i + 220 → W p l e room_1 s m #[Value.ref b] below meth c H locs cells slots Q (F0 m 1104 ls [])) :
    W p l e room_1 s m #[Value.ref b] below meth c H locs (100 + i) (2000 + 44 * i) Q (F0 m 484 ls []) := by
  obtain ⟨hx, hb, hr, hml, hown, hts, hlocks⟩ := id C0
  obtain ⟨k9, b9, S2, f2, M2, hH, hM, hk9, hf9, hR2, hZ2⟩ := ag_steal (l := l) (z := z) (σ := σ) (f := f) hlt hR hZ (by omega) (xs (i + 1)) (xs (i + 2))
  refine lv_aload_n hx hb dL_law_484 rfl (lv_at hl 3 rfl) ?_
  refine lv_aload_n hx hb dL_law_485 rfl (lv_at hl 4 rfl) ?_
  refine lv_iload hx hb dL_law_486 (lv_at hl 0 rfl) ?_
  refine lv_iconst (v := 1) hx hb dL_law_488 (by decide) ?_
  refine lv_iadd hx hb dL_law_489 ?_
  refine L_sld C0 hX hbl hge h (j := i + 1) (q_add rfl rfl) (by omega) hL dL_law_490 ?_
  refine lv_aload_n hx hb dL_law_491 rfl (lv_at hl 4 rfl) ?_
  refine lv_iload hx hb dL_law_492 (lv_at hl 0 rfl) ?_
  refine lv_iconst (v := 2) hx hb dL_law_494 (by decide) ?_
  refine lv_iadd hx hb dL_law_495 ?_
  refine L_sld C0 hX hbl hge h (j := i + 2) (q_add rfl rfl) (by omega) hL dL_law_496 ?_
  refine lv_aload_n hx hb dL_law_497 rfl (lv_at hl 1 rfl) ?_
  refine L_help C0 hK hT h hH (vx_cwSW 4 hts gL_law_L_steal rfl rfl rfl (by decide +kernel) ⟨Nat.le_of_ble_eq_true rfl, Nat.le_of_ble_eq_true rfl⟩) rfl hl.1 (rest := []) rfl (Nat.le_of_ble_eq_true rfl) ⟨by show _ ≤ 601024; omega, by show _ ≤ 7293034; omega⟩ dL_law_498 (fun r1 u H locs hp h => ?_)
  obtain ⟨hr8, σ2, hu8⟩ := hp
  rw [hu8] at h
  rw [hr8]
  refine lv_istore (lv' := [(5, .int k9), (4, .int (nI i)), (3, .ref (za z 59)), (2, .ref (za z 55)), (1, .ref (za z 0)), (0, .ref b)]) hx hb dL_law_501 hl (by decide) rfl (fun ls hl => ?_)
  refine lv_aload_n hx hb dL_law_503 rfl (lv_at hl 3 rfl) ?_
  refine lv_aload_n hx hb dL_law_504 rfl (lv_at hl 5 rfl) ?_
  refine lv_iload hx hb dL_law_505 (lv_at hl 1 rfl) ?_
  refine lv_iconst (v := 1) hx hb dL_law_507 (by decide) ?_
  refine lv_iadd hx hb dL_law_508 ?_
  refine L_sld C0 hX hbl hge h (j := i + 1) (q_add rfl rfl) (by omega) hL dL_law_509 ?_
  refine lv_aload_n hx hb dL_law_510 rfl (lv_at hl 5 rfl) ?_
  refine lv_iload hx hb dL_law_511 (lv_at hl 1 rfl) ?_
  refine lv_iconst (v := 2) hx hb dL_law_513 (by decide) ?_
  refine lv_iadd hx hb dL_law_514 ?_
  refine L_sld C0 hX hbl hge h (j := i + 2) (q_add rfl rfl) (by omega) hL dL_law_515 ?_
  refine G_callVi C0 hK h hM (fun _ h => h.2.1) (fun u => ((va_up σ2 0 S2), u, f2)) (fun ct ct2 u hA hX hF => hA.M hX hF) (by decide) (by decide) (cwV 2 hts gL_law_X2_steal rfl rfl rfl (by decide +kernel) ⟨Nat.le_of_ble_eq_true rfl, Nat.le_of_ble_eq_true rfl⟩) (k := 55) (ci := 2) (by omega) (fun ct hA => hA.2.1.1) rfl rfl rfl hl.1 (rest := []) rfl (Nat.le_of_ble_eq_true rfl) ⟨by show _ ≤ 601024; omega, by show _ ≤ 7293034; omega⟩ dL_law_516 (fun r u H locs hp h => ?_)
  obtain ⟨hr9, hu9⟩ := hp
  rw [hu9] at h
  rw [hr9]
  refine lv_istore (lv' := [(6, .int b9), (5, .int k9), (4, .int (nI i)), (3, .ref (za z 59)), (2, .ref (za z 55)), (1, .ref (za z 0)), (0, .ref b)]) hx hb dL_law_519 hl (by decide) rfl (fun ls hl => ?_)
  refine lv_aload_n hx hb dL_law_521 rfl (lv_at hl 4 rfl) ?_
  refine G_callVi C0 hK h (c_X2_thrown l z M2) (fun _ h => h.2.1) (fun u => ((va_up σ2 0 S2), u, f2)) (fun ct ct2 u hA hX hF => hA.M hX hF) (by decide) (by decide) (cwV 0 hts gL_law_X2_thrown rfl rfl rfl (by decide +kernel) ⟨Nat.le_of_ble_eq_true rfl, Nat.le_of_ble_eq_true rfl⟩) (k := 55) (ci := 2) (by omega) (fun ct hA => hA.2.1.1) rfl rfl rfl hl.1 (rest := []) rfl (Nat.le_of_ble_eq_true rfl) ⟨by show _ ≤ 601024; omega, by show _ ≤ 7293034; omega⟩ dL_law_522 (fun r u H locs hp h => ?_)
  obtain ⟨hr9, hu9⟩ := hp
  rw [hu9] at h
  rw [hr9, hk9]
  refine lv_iload hx hb dL_law_525 (lv_at hl 1 rfl) ?_
  refine lv_icmp_eq (tgt := 532) hx hb dL_law_527 (by decide) (fun _ => ?_) (fun q9 => absurd rfl q9)
  refine lv_iload hx hb dL_law_532 (lv_at hl 1 rfl) ?_
  refine lv_if_ne (tgt := 549) hx hb dL_law_534 (by decide) (fun _ => ?_) (fun q9 => ?_)
  · refine lv_goto (tgt := 1104) hx hb dL_law_549 (by decide) ?_
    exact back _ _ _ _ _ _ _ _ _ hR2 hZ2 h (lv_sub hl [2, 3, 4, 5, 6] rfl) (by omega) (by omega)
  · refine lv_aload_n hx hb dL_law_537 rfl (lv_at hl 3 rfl) ?_
    refine lv_iconst (v := 0) hx hb dL_law_538 (by decide) ?_
    refine G_lald C0 hK h (k := 59) (by omega) (fun ct hA => hA.2.2) (j := 0) rfl (by decide) (by decide) dL_law_539 ?_
    refine lv_iload hx hb dL_law_540 (lv_at hl 0 rfl) ?_
    refine lv_i2l hx hb dL_law_542 rfl ?_
    refine W.lcmp hx hb dL_law_543 ?_
    refine lv_if_eq (tgt := 549) hx hb dL_law_544 (by decide) (fun _ => ?_) (fun q8 => absurd (q_lcmp (hf9 q9)) q8)
    refine lv_goto (tgt := 1104) hx hb dL_law_549 (by decide) ?_
    exact back _ _ _ _ _ _ _ _ _ hR2 hZ2 h (lv_sub hl [2, 3, 4, 5, 6] rfl) (by omega) (by omega)
