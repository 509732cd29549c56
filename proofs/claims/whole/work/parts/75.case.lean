/-! the law's cases [6, 7, 8, 9] -/
set_option maxHeartbeats 4000000 in
set_option maxRecDepth 100000 in
theorem law_c6 {p : Program} {l : Launch} {e : Env} {s : State} {m : MethodId} {below : List Frame} {meth : Method} {c : Code} {H : Heap} {locs : List Loc} {Q : State → Prop} {ls : Array Slot} {z : QZ} {c0 : Nat → va_E} {b L i : Nat} {xs : Nat → Int32} {σ : Nat → QLs} {S : QLs} {M : QMs} {f : Nat → Int64} (C0 : Cx p s m #[Value.ref b] meth c cL_law 9 ret RL wsL_law) (hlt : l.stackTraces = false) (hK : QK z s) (hT : TZ z s) (hX : va_X b L xs s s.heap) (hbl : b < s.heap.size) (hge : ∀ k, k < zn z → s.heap.size ≤ za z k) (hL : L ≤ 2560) (hi : i + 5 ≤ L) (hR : RR (20 * i) S M) (hZ : ZZ S) (h : GW z (WAt z) 0 60 s.heap c0 (va_up σ 0 S, M, f) H locs) (hl : lv_has ls 9 [(4, .int (nI i)), (3, .ref (za z 59)), (2, .ref (za z 55)), (1, .ref (za z 0)), (0, .ref b)])
    (back : ∀ (σ : Nat → QLs) (S : QLs) (M : QMs) (f : Nat → Int64) (H : Heap) (locs : List Loc) (cells slots : Nat) (ls : Array Slot), RR (20 * i + 100) S M → ZZ S → GW z (WAt z) 0 60 s.heap c0 (va_up σ 0 S, M, f) H locs → lv_has ls 9 [(4, .int (nI i)), (3, .ref (za z 59)), (2, .ref (za z 55)), (1, .ref (za z 0)), (0, .ref b)] → cells ≤ 100 + i + 5 → slots ≤ 2000 + 44 * i + 220 → W p l e room_1 s m #[Value.ref b] below meth c H locs cells slots Q (F0 m 1104 ls [])) :
    W p l e room_1 s m #[Value.ref b] below meth c H locs (100 + i) (2000 + 44 * i) Q (F0 m 552 ls []) := by
  obtain ⟨hx, hb, hr, hml, hown, hts, hlocks⟩ := id C0
  obtain ⟨k9, b9, S2, f2, M2, hH, hM, hk9, hf9, hR2, hZ2⟩ := ag_tank (l := l) (z := z) (σ := σ) (f := f) hlt hR hZ (by omega) (xs (i + 1)) (xs (i + 2))
  refine lv_aload_n hx hb dL_law_552 rfl (lv_at hl 3 rfl) ?_
  refine lv_aload_n hx hb dL_law_553 rfl (lv_at hl 4 rfl) ?_
  refine lv_iload hx hb dL_law_554 (lv_at hl 0 rfl) ?_
  refine lv_iconst (v := 1) hx hb dL_law_556 (by decide) ?_
  refine lv_iadd hx hb dL_law_557 ?_
  refine L_sld C0 hX hbl hge h (j := i + 1) (q_add rfl rfl) (by omega) hL dL_law_558 ?_
  refine lv_aload_n hx hb dL_law_559 rfl (lv_at hl 4 rfl) ?_
  refine lv_iload hx hb dL_law_560 (lv_at hl 0 rfl) ?_
  refine lv_iconst (v := 2) hx hb dL_law_562 (by decide) ?_
  refine lv_iadd hx hb dL_law_563 ?_
  refine L_sld C0 hX hbl hge h (j := i + 2) (q_add rfl rfl) (by omega) hL dL_law_564 ?_
  refine lv_aload_n hx hb dL_law_565 rfl (lv_at hl 1 rfl) ?_
  refine L_help C0 hK hT h hH (vx_cwSW 4 hts gL_law_L_tank rfl rfl rfl (by decide +kernel) ⟨Nat.le_of_ble_eq_true rfl, Nat.le_of_ble_eq_true rfl⟩) rfl hl.1 (rest := []) rfl (Nat.le_of_ble_eq_true rfl) ⟨by show _ ≤ 601024; omega, by show _ ≤ 7293034; omega⟩ dL_law_566 (fun r1 u H locs hp h => ?_)
  obtain ⟨hr8, σ2, hu8⟩ := hp
  rw [hu8] at h
  rw [hr8]
  refine lv_istore (lv' := [(5, .int k9), (4, .int (nI i)), (3, .ref (za z 59)), (2, .ref (za z 55)), (1, .ref (za z 0)), (0, .ref b)]) hx hb dL_law_569 hl (by decide) rfl (fun ls hl => ?_)
  refine lv_aload_n hx hb dL_law_571 rfl (lv_at hl 3 rfl) ?_
  refine lv_aload_n hx hb dL_law_572 rfl (lv_at hl 5 rfl) ?_
  refine lv_iload hx hb dL_law_573 (lv_at hl 1 rfl) ?_
  refine lv_iconst (v := 1) hx hb dL_law_575 (by decide) ?_
  refine lv_iadd hx hb dL_law_576 ?_
  refine L_sld C0 hX hbl hge h (j := i + 1) (q_add rfl rfl) (by omega) hL dL_law_577 ?_
  refine lv_aload_n hx hb dL_law_578 rfl (lv_at hl 5 rfl) ?_
  refine lv_iload hx hb dL_law_579 (lv_at hl 1 rfl) ?_
  refine lv_iconst (v := 2) hx hb dL_law_581 (by decide) ?_
  refine lv_iadd hx hb dL_law_582 ?_
  refine L_sld C0 hX hbl hge h (j := i + 2) (q_add rfl rfl) (by omega) hL dL_law_583 ?_
  refine G_callVi C0 hK h hM (fun _ h => h.2.1) (fun u => ((va_up σ2 0 S2), u, f2)) (fun ct ct2 u hA hX hF => hA.M hX hF) (by decide) (by decide) (cwV 2 hts gL_law_X2_tank rfl rfl rfl (by decide +kernel) ⟨Nat.le_of_ble_eq_true rfl, Nat.le_of_ble_eq_true rfl⟩) (k := 55) (ci := 2) (by omega) (fun ct hA => hA.2.1.1) rfl rfl rfl hl.1 (rest := []) rfl (Nat.le_of_ble_eq_true rfl) ⟨by show _ ≤ 601024; omega, by show _ ≤ 7293034; omega⟩ dL_law_584 (fun r u H locs hp h => ?_)
  obtain ⟨hr9, hu9⟩ := hp
  rw [hu9] at h
  rw [hr9]
  refine lv_istore (lv' := [(6, .int b9), (5, .int k9), (4, .int (nI i)), (3, .ref (za z 59)), (2, .ref (za z 55)), (1, .ref (za z 0)), (0, .ref b)]) hx hb dL_law_587 hl (by decide) rfl (fun ls hl => ?_)
  refine lv_aload_n hx hb dL_law_589 rfl (lv_at hl 4 rfl) ?_
  refine G_callVi C0 hK h (c_X2_thrown l z M2) (fun _ h => h.2.1) (fun u => ((va_up σ2 0 S2), u, f2)) (fun ct ct2 u hA hX hF => hA.M hX hF) (by decide) (by decide) (cwV 0 hts gL_law_X2_thrown rfl rfl rfl (by decide +kernel) ⟨Nat.le_of_ble_eq_true rfl, Nat.le_of_ble_eq_true rfl⟩) (k := 55) (ci := 2) (by omega) (fun ct hA => hA.2.1.1) rfl rfl rfl hl.1 (rest := []) rfl (Nat.le_of_ble_eq_true rfl) ⟨by show _ ≤ 601024; omega, by show _ ≤ 7293034; omega⟩ dL_law_590 (fun r u H locs hp h => ?_)
  obtain ⟨hr9, hu9⟩ := hp
  rw [hu9] at h
  rw [hr9, hk9]
  refine lv_iload hx hb dL_law_593 (lv_at hl 1 rfl) ?_
  refine lv_icmp_eq (tgt := 600) hx hb dL_law_595 (by decide) (fun _ => ?_) (fun q9 => absurd rfl q9)
  refine lv_iload hx hb dL_law_600 (lv_at hl 1 rfl) ?_
  refine lv_if_ne (tgt := 617) hx hb dL_law_602 (by decide) (fun _ => ?_) (fun q9 => ?_)
  · refine lv_goto (tgt := 1104) hx hb dL_law_617 (by decide) ?_
    exact back _ _ _ _ _ _ _ _ _ hR2 hZ2 h (lv_sub hl [2, 3, 4, 5, 6] rfl) (by omega) (by omega)
  · refine lv_aload_n hx hb dL_law_605 rfl (lv_at hl 3 rfl) ?_
    refine lv_iconst (v := 0) hx hb dL_law_606 (by decide) ?_
    refine G_lald C0 hK h (k := 59) (by omega) (fun ct hA => hA.2.2) (j := 0) rfl (by decide) (by decide) dL_law_607 ?_
    refine lv_iload hx hb dL_law_608 (lv_at hl 0 rfl) ?_
    refine lv_i2l hx hb dL_law_610 rfl ?_
    refine W.lcmp hx hb dL_law_611 ?_
    refine lv_if_eq (tgt := 617) hx hb dL_law_612 (by decide) (fun _ => ?_) (fun q8 => absurd (q_lcmp (hf9 q9)) q8)
    refine lv_goto (tgt := 1104) hx hb dL_law_617 (by decide) ?_
    exact back _ _ _ _ _ _ _ _ _ hR2 hZ2 h (lv_sub hl [2, 3, 4, 5, 6] rfl) (by omega) (by omega)
set_option maxHeartbeats 4000000 in
set_option maxRecDepth 100000 in
theorem law_c7 {p : Program} {l : Launch} {e : Env} {s : State} {m : MethodId} {below : List Frame} {meth : Method} {c : Code} {H : Heap} {locs : List Loc} {Q : State → Prop} {ls : Array Slot} {z : QZ} {c0 : Nat → va_E} {b L i : Nat} {xs : Nat → Int32} {σ : Nat → QLs} {S : QLs} {M : QMs} {f : Nat → Int64} (C0 : Cx p s m #[Value.ref b] meth c cL_law 9 ret RL wsL_law) (hlt : l.stackTraces = false) (hK : QK z s) (hT : TZ z s) (hX : va_X b L xs s s.heap) (hbl : b < s.heap.size) (hge : ∀ k, k < zn z → s.heap.size ≤ za z k) (hL : L ≤ 2560) (hi : i + 5 ≤ L) (hR : RR (20 * i) S M) (hZ : ZZ S) (h : GW z (WAt z) 0 60 s.heap c0 (va_up σ 0 S, M, f) H locs) (hl : lv_has ls 9 [(4, .int (nI i)), (3, .ref (za z 59)), (2, .ref (za z 55)), (1, .ref (za z 0)), (0, .ref b)])
    (back : ∀ (σ : Nat → QLs) (S : QLs) (M : QMs) (f : Nat → Int64) (H : Heap) (locs : List Loc) (cells slots : Nat) (ls : Array Slot), RR (20 * i + 100) S M → ZZ S → GW z (WAt z) 0 60 s.heap c0 (va_up σ 0 S, M, f) H locs → lv_has ls 9 [(4, .int (nI i)), (3, .ref (za z 59)), (2, .ref (za z 55)), (1, .ref (za z 0)), (0, .ref b)] → cells ≤ 100 + i + 5 → slots ≤ 2000 + 44 * i + 220 → W p l e room_1 s m #[Value.ref b] below meth c H locs cells slots Q (F0 m 1104 ls [])) :
    W p l e room_1 s m #[Value.ref b] below meth c H locs (100 + i) (2000 + 44 * i) Q (F0 m 620 ls []) := by
  obtain ⟨hx, hb, hr, hml, hown, hts, hlocks⟩ := id C0
  obtain ⟨k9, b9, S2, f2, M2, hH, hM, hk9, hf9, hR2, hZ2⟩ := ag_pipe (l := l) (z := z) (σ := σ) (f := f) hlt hR hZ (by omega) (xs (i + 1)) (xs (i + 2))
  refine lv_aload_n hx hb dL_law_620 rfl (lv_at hl 3 rfl) ?_
  refine lv_aload_n hx hb dL_law_621 rfl (lv_at hl 4 rfl) ?_
  refine lv_iload hx hb dL_law_622 (lv_at hl 0 rfl) ?_
  refine lv_iconst (v := 1) hx hb dL_law_624 (by decide) ?_
  refine lv_iadd hx hb dL_law_625 ?_
  refine L_sld C0 hX hbl hge h (j := i + 1) (q_add rfl rfl) (by omega) hL dL_law_626 ?_
  refine lv_aload_n hx hb dL_law_627 rfl (lv_at hl 4 rfl) ?_
  refine lv_iload hx hb dL_law_628 (lv_at hl 0 rfl) ?_
  refine lv_iconst (v := 2) hx hb dL_law_630 (by decide) ?_
  refine lv_iadd hx hb dL_law_631 ?_
  refine L_sld C0 hX hbl hge h (j := i + 2) (q_add rfl rfl) (by omega) hL dL_law_632 ?_
  refine lv_aload_n hx hb dL_law_633 rfl (lv_at hl 1 rfl) ?_
  refine L_help C0 hK hT h hH (vx_cwSW 4 hts gL_law_L_pipe rfl rfl rfl (by decide +kernel) ⟨Nat.le_of_ble_eq_true rfl, Nat.le_of_ble_eq_true rfl⟩) rfl hl.1 (rest := []) rfl (Nat.le_of_ble_eq_true rfl) ⟨by show _ ≤ 601024; omega, by show _ ≤ 7293034; omega⟩ dL_law_634 (fun r1 u H locs hp h => ?_)
  obtain ⟨hr8, σ2, hu8⟩ := hp
  rw [hu8] at h
  rw [hr8]
  refine lv_istore (lv' := [(5, .int k9), (4, .int (nI i)), (3, .ref (za z 59)), (2, .ref (za z 55)), (1, .ref (za z 0)), (0, .ref b)]) hx hb dL_law_637 hl (by decide) rfl (fun ls hl => ?_)
  refine lv_aload_n hx hb dL_law_639 rfl (lv_at hl 3 rfl) ?_
  refine lv_aload_n hx hb dL_law_640 rfl (lv_at hl 5 rfl) ?_
  refine lv_iload hx hb dL_law_641 (lv_at hl 1 rfl) ?_
  refine lv_iconst (v := 1) hx hb dL_law_643 (by decide) ?_
  refine lv_iadd hx hb dL_law_644 ?_
  refine L_sld C0 hX hbl hge h (j := i + 1) (q_add rfl rfl) (by omega) hL dL_law_645 ?_
  refine lv_aload_n hx hb dL_law_646 rfl (lv_at hl 5 rfl) ?_
  refine lv_iload hx hb dL_law_647 (lv_at hl 1 rfl) ?_
  refine lv_iconst (v := 2) hx hb dL_law_649 (by decide) ?_
  refine lv_iadd hx hb dL_law_650 ?_
  refine L_sld C0 hX hbl hge h (j := i + 2) (q_add rfl rfl) (by omega) hL dL_law_651 ?_
  refine G_callVi C0 hK h hM (fun _ h => h.2.1) (fun u => ((va_up σ2 0 S2), u, f2)) (fun ct ct2 u hA hX hF => hA.M hX hF) (by decide) (by decide) (cwV 2 hts gL_law_X2_pipe rfl rfl rfl (by decide +kernel) ⟨Nat.le_of_ble_eq_true rfl, Nat.le_of_ble_eq_true rfl⟩) (k := 55) (ci := 2) (by omega) (fun ct hA => hA.2.1.1) rfl rfl rfl hl.1 (rest := []) rfl (Nat.le_of_ble_eq_true rfl) ⟨by show _ ≤ 601024; omega, by show _ ≤ 7293034; omega⟩ dL_law_652 (fun r u H locs hp h => ?_)
  obtain ⟨hr9, hu9⟩ := hp
  rw [hu9] at h
  rw [hr9]
  refine lv_istore (lv' := [(6, .int b9), (5, .int k9), (4, .int (nI i)), (3, .ref (za z 59)), (2, .ref (za z 55)), (1, .ref (za z 0)), (0, .ref b)]) hx hb dL_law_655 hl (by decide) rfl (fun ls hl => ?_)
  refine lv_aload_n hx hb dL_law_657 rfl (lv_at hl 4 rfl) ?_
  refine G_callVi C0 hK h (c_X2_thrown l z M2) (fun _ h => h.2.1) (fun u => ((va_up σ2 0 S2), u, f2)) (fun ct ct2 u hA hX hF => hA.M hX hF) (by decide) (by decide) (cwV 0 hts gL_law_X2_thrown rfl rfl rfl (by decide +kernel) ⟨Nat.le_of_ble_eq_true rfl, Nat.le_of_ble_eq_true rfl⟩) (k := 55) (ci := 2) (by omega) (fun ct hA => hA.2.1.1) rfl rfl rfl hl.1 (rest := []) rfl (Nat.le_of_ble_eq_true rfl) ⟨by show _ ≤ 601024; omega, by show _ ≤ 7293034; omega⟩ dL_law_658 (fun r u H locs hp h => ?_)
  obtain ⟨hr9, hu9⟩ := hp
  rw [hu9] at h
  rw [hr9, hk9]
  refine lv_iload hx hb dL_law_661 (lv_at hl 1 rfl) ?_
  refine lv_icmp_eq (tgt := 668) hx hb dL_law_663 (by decide) (fun _ => ?_) (fun q9 => absurd rfl q9)
  refine lv_iload hx hb dL_law_668 (lv_at hl 1 rfl) ?_
  refine lv_if_ne (tgt := 685) hx hb dL_law_670 (by decide) (fun _ => ?_) (fun q9 => ?_)
  · refine lv_goto (tgt := 1104) hx hb dL_law_685 (by decide) ?_
    exact back _ _ _ _ _ _ _ _ _ hR2 hZ2 h (lv_sub hl [2, 3, 4, 5, 6] rfl) (by omega) (by omega)
  · refine lv_aload_n hx hb dL_law_673 rfl (lv_at hl 3 rfl) ?_
    refine lv_iconst (v := 0) hx hb dL_law_674 (by decide) ?_
    refine G_lald C0 hK h (k := 59) (by omega) (fun ct hA => hA.2.2) (j := 0) rfl (by decide) (by decide) dL_law_675 ?_
    refine lv_iload hx hb dL_law_676 (lv_at hl 0 rfl) ?_
    refine lv_i2l hx hb dL_law_678 rfl ?_
    refine W.lcmp hx hb dL_law_679 ?_
    refine lv_if_eq (tgt := 685) hx hb dL_law_680 (by decide) (fun _ => ?_) (fun q8 => absurd (q_lcmp (hf9 q9)) q8)
    refine lv_goto (tgt := 1104) hx hb dL_law_685 (by decide) ?_
    exact back _ _ _ _ _ _ _ _ _ hR2 hZ2 h (lv_sub hl [2, 3, 4, 5, 6] rfl) (by omega) (by omega)
set_option maxHeartbeats 4000000 in
set_option maxRecDepth 100000 in
theorem law_c8 {p : Program} {l : Launch} {e : Env} {s : State} {m : MethodId} {below : List Frame} {meth : Method} {c : Code} {H : Heap} {locs : List Loc} {Q : State → Prop} {ls : Array Slot} {z : QZ} {c0 : Nat → va_E} {b L i : Nat} {xs : Nat → Int32} {σ : Nat → QLs} {S : QLs} {M : QMs} {f : Nat → Int64} (C0 : Cx p s m #[Value.ref b] meth c cL_law 9 ret RL wsL_law) (hlt : l.stackTraces = false) (hK : QK z s) (hT : TZ z s) (hX : va_X b L xs s s.heap) (hbl : b < s.heap.size) (hge : ∀ k, k < zn z → s.heap.size ≤ za z k) (hL : L ≤ 2560) (hi : i + 5 ≤ L) (hR : RR (20 * i) S M) (hZ : ZZ S) (h : GW z (WAt z) 0 60 s.heap c0 (va_up σ 0 S, M, f) H locs) (hl : lv_has ls 9 [(4, .int (nI i)), (3, .ref (za z 59)), (2, .ref (za z 55)), (1, .ref (za z 0)), (0, .ref b)])
    (back : ∀ (σ : Nat → QLs) (S : QLs) (M : QMs) (f : Nat → Int64) (H : Heap) (locs : List Loc) (cells slots : Nat) (ls : Array Slot), RR (20 * i + 100) S M → ZZ S → GW z (WAt z) 0 60 s.heap c0 (va_up σ 0 S, M, f) H locs → lv_has ls 9 [(4, .int (nI i)), (3, .ref (za z 59)), (2, .ref (za z 55)), (1, .ref (za z 0)), (0, .ref b)] → cells ≤ 100 + i + 5 → slots ≤ 2000 + 44 * i + 220 → W p l e room_1 s m #[Value.ref b] below meth c H locs cells slots Q (F0 m 1104 ls [])) :
    W p l e room_1 s m #[Value.ref b] below meth c H locs (100 + i) (2000 + 44 * i) Q (F0 m 688 ls []) := by
  obtain ⟨hx, hb, hr, hml, hown, hts, hlocks⟩ := id C0
  obtain ⟨k9, b9, S2, f2, M2, hH, hM, hk9, hf9, hR2, hZ2⟩ := ag_count (l := l) (z := z) (σ := σ) (f := f) hlt hR hZ (by omega) (xs (i + 1))
  refine lv_aload_n hx hb dL_law_688 rfl (lv_at hl 3 rfl) ?_
  refine lv_aload_n hx hb dL_law_689 rfl (lv_at hl 4 rfl) ?_
  refine lv_iload hx hb dL_law_690 (lv_at hl 0 rfl) ?_
  refine lv_iconst (v := 1) hx hb dL_law_692 (by decide) ?_
  refine lv_iadd hx hb dL_law_693 ?_
  refine L_sld C0 hX hbl hge h (j := i + 1) (q_add rfl rfl) (by omega) hL dL_law_694 ?_
  refine lv_aload_n hx hb dL_law_695 rfl (lv_at hl 1 rfl) ?_
  refine L_help C0 hK hT h hH (vx_cwSW 3 hts gL_law_L_count rfl rfl rfl (by decide +kernel) ⟨Nat.le_of_ble_eq_true rfl, Nat.le_of_ble_eq_true rfl⟩) rfl hl.1 (rest := []) rfl (Nat.le_of_ble_eq_true rfl) ⟨by show _ ≤ 601024; omega, by show _ ≤ 7293034; omega⟩ dL_law_696 (fun r1 u H locs hp h => ?_)
  obtain ⟨hr8, σ2, hu8⟩ := hp
  rw [hu8] at h
  rw [hr8]
  refine lv_istore (lv' := [(5, .int k9), (4, .int (nI i)), (3, .ref (za z 59)), (2, .ref (za z 55)), (1, .ref (za z 0)), (0, .ref b)]) hx hb dL_law_699 hl (by decide) rfl (fun ls hl => ?_)
  refine lv_aload_n hx hb dL_law_701 rfl (lv_at hl 3 rfl) ?_
  refine lv_aload_n hx hb dL_law_702 rfl (lv_at hl 5 rfl) ?_
  refine lv_iload hx hb dL_law_703 (lv_at hl 1 rfl) ?_
  refine lv_iconst (v := 1) hx hb dL_law_705 (by decide) ?_
  refine lv_iadd hx hb dL_law_706 ?_
  refine L_sld C0 hX hbl hge h (j := i + 1) (q_add rfl rfl) (by omega) hL dL_law_707 ?_
  refine G_callVi C0 hK h hM (fun _ h => h.2.1) (fun u => ((va_up σ2 0 S2), u, f2)) (fun ct ct2 u hA hX hF => hA.M hX hF) (by decide) (by decide) (cwV 1 hts gL_law_X2_count rfl rfl rfl (by decide +kernel) ⟨Nat.le_of_ble_eq_true rfl, Nat.le_of_ble_eq_true rfl⟩) (k := 55) (ci := 2) (by omega) (fun ct hA => hA.2.1.1) rfl rfl rfl hl.1 (rest := []) rfl (Nat.le_of_ble_eq_true rfl) ⟨by show _ ≤ 601024; omega, by show _ ≤ 7293034; omega⟩ dL_law_708 (fun r u H locs hp h => ?_)
  obtain ⟨hr9, hu9⟩ := hp
  rw [hu9] at h
  rw [hr9]
  refine lv_istore (lv' := [(6, .int b9), (5, .int k9), (4, .int (nI i)), (3, .ref (za z 59)), (2, .ref (za z 55)), (1, .ref (za z 0)), (0, .ref b)]) hx hb dL_law_711 hl (by decide) rfl (fun ls hl => ?_)
  refine lv_aload_n hx hb dL_law_713 rfl (lv_at hl 4 rfl) ?_
  refine G_callVi C0 hK h (c_X2_thrown l z M2) (fun _ h => h.2.1) (fun u => ((va_up σ2 0 S2), u, f2)) (fun ct ct2 u hA hX hF => hA.M hX hF) (by decide) (by decide) (cwV 0 hts gL_law_X2_thrown rfl rfl rfl (by decide +kernel) ⟨Nat.le_of_ble_eq_true rfl, Nat.le_of_ble_eq_true rfl⟩) (k := 55) (ci := 2) (by omega) (fun ct hA => hA.2.1.1) rfl rfl rfl hl.1 (rest := []) rfl (Nat.le_of_ble_eq_true rfl) ⟨by show _ ≤ 601024; omega, by show _ ≤ 7293034; omega⟩ dL_law_714 (fun r u H locs hp h => ?_)
  obtain ⟨hr9, hu9⟩ := hp
  rw [hu9] at h
  rw [hr9, hk9]
  refine lv_iload hx hb dL_law_717 (lv_at hl 1 rfl) ?_
  refine lv_icmp_eq (tgt := 724) hx hb dL_law_719 (by decide) (fun _ => ?_) (fun q9 => absurd rfl q9)
  refine lv_iload hx hb dL_law_724 (lv_at hl 1 rfl) ?_
  refine lv_if_ne (tgt := 741) hx hb dL_law_726 (by decide) (fun _ => ?_) (fun q9 => ?_)
  · refine lv_goto (tgt := 1104) hx hb dL_law_741 (by decide) ?_
    exact back _ _ _ _ _ _ _ _ _ hR2 hZ2 h (lv_sub hl [2, 3, 4, 5, 6] rfl) (by omega) (by omega)
  · refine lv_aload_n hx hb dL_law_729 rfl (lv_at hl 3 rfl) ?_
    refine lv_iconst (v := 0) hx hb dL_law_730 (by decide) ?_
    refine G_lald C0 hK h (k := 59) (by omega) (fun ct hA => hA.2.2) (j := 0) rfl (by decide) (by decide) dL_law_731 ?_
    refine lv_iload hx hb dL_law_732 (lv_at hl 0 rfl) ?_
    refine lv_i2l hx hb dL_law_734 rfl ?_
    refine W.lcmp hx hb dL_law_735 ?_
    refine lv_if_eq (tgt := 741) hx hb dL_law_736 (by decide) (fun _ => ?_) (fun q8 => absurd (q_lcmp (hf9 q9)) q8)
    refine lv_goto (tgt := 1104) hx hb dL_law_741 (by decide) ?_
    exact back _ _ _ _ _ _ _ _ _ hR2 hZ2 h (lv_sub hl [2, 3, 4, 5, 6] rfl) (by omega) (by omega)
set_option maxHeartbeats 4000000 in
set_option maxRecDepth 100000 in
theorem law_c9 {p : Program} {l : Launch} {e : Env} {s : State} {m : MethodId} {below : List Frame} {meth : Method} {c : Code} {H : Heap} {locs : List Loc} {Q : State → Prop} {ls : Array Slot} {z : QZ} {c0 : Nat → va_E} {b L i : Nat} {xs : Nat → Int32} {σ : Nat → QLs} {S : QLs} {M : QMs} {f : Nat → Int64} (C0 : Cx p s m #[Value.ref b] meth c cL_law 9 ret RL wsL_law) (hlt : l.stackTraces = false) (hK : QK z s) (hT : TZ z s) (hX : va_X b L xs s s.heap) (hbl : b < s.heap.size) (hge : ∀ k, k < zn z → s.heap.size ≤ za z k) (hL : L ≤ 2560) (hi : i + 5 ≤ L) (hR : RR (20 * i) S M) (hZ : ZZ S) (h : GW z (WAt z) 0 60 s.heap c0 (va_up σ 0 S, M, f) H locs) (hl : lv_has ls 9 [(4, .int (nI i)), (3, .ref (za z 59)), (2, .ref (za z 55)), (1, .ref (za z 0)), (0, .ref b)])
    (back : ∀ (σ : Nat → QLs) (S : QLs) (M : QMs) (f : Nat → Int64) (H : Heap) (locs : List Loc) (cells slots : Nat) (ls : Array Slot), RR (20 * i + 100) S M → ZZ S → GW z (WAt z) 0 60 s.heap c0 (va_up σ 0 S, M, f) H locs → lv_has ls 9 [(4, .int (nI i)), (3, .ref (za z 59)), (2, .ref (za z 55)), (1, .ref (za z 0)), (0, .ref b)] → cells ≤ 100 + i + 5 → slots ≤ 2000 + 44 * i + 220 → W p l e room_1 s m #[Value.ref b] below meth c H locs cells slots Q (F0 m 1104 ls [])) :
    W p l e room_1 s m #[Value.ref b] below meth c H locs (100 + i) (2000 + 44 * i) Q (F0 m 744 ls []) := by
  obtain ⟨hx, hb, hr, hml, hown, hts, hlocks⟩ := id C0
  obtain ⟨k9, b9, S2, f2, M2, hH, hM, hk9, hf9, hR2, hZ2⟩ := ag_reach (l := l) (z := z) (σ := σ) (f := f) hlt hR hZ (by omega) (xs (i + 1))
  refine lv_aload_n hx hb dL_law_744 rfl (lv_at hl 3 rfl) ?_
  refine lv_aload_n hx hb dL_law_745 rfl (lv_at hl 4 rfl) ?_
  refine lv_iload hx hb dL_law_746 (lv_at hl 0 rfl) ?_
  refine lv_iconst (v := 1) hx hb dL_law_748 (by decide) ?_
  refine lv_iadd hx hb dL_law_749 ?_
  refine L_sld C0 hX hbl hge h (j := i + 1) (q_add rfl rfl) (by omega) hL dL_law_750 ?_
  refine lv_aload_n hx hb dL_law_751 rfl (lv_at hl 1 rfl) ?_
  refine L_help C0 hK hT h hH (vx_cwSW 3 hts gL_law_L_reach rfl rfl rfl (by decide +kernel) ⟨Nat.le_of_ble_eq_true rfl, Nat.le_of_ble_eq_true rfl⟩) rfl hl.1 (rest := []) rfl (Nat.le_of_ble_eq_true rfl) ⟨by show _ ≤ 601024; omega, by show _ ≤ 7293034; omega⟩ dL_law_752 (fun r1 u H locs hp h => ?_)
  obtain ⟨hr8, σ2, hu8⟩ := hp
  rw [hu8] at h
  rw [hr8]
  refine lv_istore (lv' := [(5, .int k9), (4, .int (nI i)), (3, .ref (za z 59)), (2, .ref (za z 55)), (1, .ref (za z 0)), (0, .ref b)]) hx hb dL_law_755 hl (by decide) rfl (fun ls hl => ?_)
  refine lv_aload_n hx hb dL_law_757 rfl (lv_at hl 3 rfl) ?_
  refine lv_aload_n hx hb dL_law_758 rfl (lv_at hl 5 rfl) ?_
  refine lv_iload hx hb dL_law_759 (lv_at hl 1 rfl) ?_
  refine lv_iconst (v := 1) hx hb dL_law_761 (by decide) ?_
  refine lv_iadd hx hb dL_law_762 ?_
  refine L_sld C0 hX hbl hge h (j := i + 1) (q_add rfl rfl) (by omega) hL dL_law_763 ?_
  refine G_callVi C0 hK h hM (fun _ h => h.2.1) (fun u => ((va_up σ2 0 S2), u, f2)) (fun ct ct2 u hA hX hF => hA.M hX hF) (by decide) (by decide) (cwV 1 hts gL_law_X2_reach rfl rfl rfl (by decide +kernel) ⟨Nat.le_of_ble_eq_true rfl, Nat.le_of_ble_eq_true rfl⟩) (k := 55) (ci := 2) (by omega) (fun ct hA => hA.2.1.1) rfl rfl rfl hl.1 (rest := []) rfl (Nat.le_of_ble_eq_true rfl) ⟨by show _ ≤ 601024; omega, by show _ ≤ 7293034; omega⟩ dL_law_764 (fun r u H locs hp h => ?_)
  obtain ⟨hr9, hu9⟩ := hp
  rw [hu9] at h
  rw [hr9]
  refine lv_istore (lv' := [(6, .int b9), (5, .int k9), (4, .int (nI i)), (3, .ref (za z 59)), (2, .ref (za z 55)), (1, .ref (za z 0)), (0, .ref b)]) hx hb dL_law_767 hl (by decide) rfl (fun ls hl => ?_)
  refine lv_aload_n hx hb dL_law_769 rfl (lv_at hl 4 rfl) ?_
  refine G_callVi C0 hK h (c_X2_thrown l z M2) (fun _ h => h.2.1) (fun u => ((va_up σ2 0 S2), u, f2)) (fun ct ct2 u hA hX hF => hA.M hX hF) (by decide) (by decide) (cwV 0 hts gL_law_X2_thrown rfl rfl rfl (by decide +kernel) ⟨Nat.le_of_ble_eq_true rfl, Nat.le_of_ble_eq_true rfl⟩) (k := 55) (ci := 2) (by omega) (fun ct hA => hA.2.1.1) rfl rfl rfl hl.1 (rest := []) rfl (Nat.le_of_ble_eq_true rfl) ⟨by show _ ≤ 601024; omega, by show _ ≤ 7293034; omega⟩ dL_law_770 (fun r u H locs hp h => ?_)
  obtain ⟨hr9, hu9⟩ := hp
  rw [hu9] at h
  rw [hr9, hk9]
  refine lv_iload hx hb dL_law_773 (lv_at hl 1 rfl) ?_
  refine lv_icmp_eq (tgt := 780) hx hb dL_law_775 (by decide) (fun _ => ?_) (fun q9 => absurd rfl q9)
  refine lv_iload hx hb dL_law_780 (lv_at hl 1 rfl) ?_
  refine lv_if_ne (tgt := 797) hx hb dL_law_782 (by decide) (fun _ => ?_) (fun q9 => ?_)
  · refine lv_goto (tgt := 1104) hx hb dL_law_797 (by decide) ?_
    exact back _ _ _ _ _ _ _ _ _ hR2 hZ2 h (lv_sub hl [2, 3, 4, 5, 6] rfl) (by omega) (by omega)
  · refine lv_aload_n hx hb dL_law_785 rfl (lv_at hl 3 rfl) ?_
    refine lv_iconst (v := 0) hx hb dL_law_786 (by decide) ?_
    refine G_lald C0 hK h (k := 59) (by omega) (fun ct hA => hA.2.2) (j := 0) rfl (by decide) (by decide) dL_law_787 ?_
    refine lv_iload hx hb dL_law_788 (lv_at hl 0 rfl) ?_
    refine lv_i2l hx hb dL_law_790 rfl ?_
    refine W.lcmp hx hb dL_law_791 ?_
    refine lv_if_eq (tgt := 797) hx hb dL_law_792 (by decide) (fun _ => ?_) (fun q8 => absurd (q_lcmp (hf9 q9)) q8)
    refine lv_goto (tgt := 1104) hx hb dL_law_797 (by decide) ?_
    exact back _ _ _ _ _ _ _ _ _ hR2 hZ2 h (lv_sub hl [2, 3, 4, 5, 6] rfl) (by omega) (by omega)
