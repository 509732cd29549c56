/-! the law's cases [10, 15, 16] -/
set_option maxHeartbeats 4000000 in
set_option maxRecDepth 100000 in
theorem law_c10 {p : Program} {l : Launch} {e : Env} {s : State} {m : MethodId} {below : List Frame} {meth : Method} {c : Code} {H : Heap} {locs : List Loc} {Q : State → Prop} {ls : Array Slot} {z : QZ} {c0 : Nat → va_E} {b L i : Nat} {xs : Nat → Int32} {σ : Nat → QLs} {S : QLs} {M : QMs} {f : Nat → Int64} (C0 : Cx p s m #[Value.ref b] meth c cL_law 9 ret RL wsL_law) (hlt : l.stackTraces = false) (hK : QK z s) (hT : TZ z s) (hX : va_X b L xs s s.heap) (hbl : b < s.heap.size) (hge : ∀ k, k < zn z → s.heap.size ≤ za z k) (hL : L ≤ 2560) (hi : i + 5 ≤ L) (hR : RR (20 * i) S M) (hZ : ZZ S) (h : GW z (WAt z) 0 60 s.heap c0 (va_up σ 0 S, M, f) H locs) (hl : lv_has ls 9 [(4, .int (nI i)), (3, .ref (za z 59)), (2, .ref (za z 55)), (1, .ref (za z 0)), (0, .ref b)])
    (back : ∀ (σ : Nat → QLs) (S : QLs) (M : QMs) (f : Nat → Int64) (H : Heap) (locs : List Loc) (cells slots : Nat) (ls : Array Slot), RR (20 * i + 100) S M → ZZ S → GW z (WAt z) 0 60 s.heap c0 (va_up σ 0 S, M, f) H locs → lv_has ls 9 [(4, .int (nI i)), (3, .ref (za z 59)), (2, .ref (za z 55)), (1, .ref (za z 0)), (0, .ref b)] → cells ≤ 100 + i + 5 → slots ≤ 2000 + 44 * i + 220 → W p l e room_1 s m #[Value.ref b] below meth c H locs cells slots Q (F0 m 1104 ls [])) :
    W p l e room_1 s m #[Value.ref b] below meth c H locs (100 + i) (2000 + 44 * i) Q (F0 m 800 ls []) := by
  obtain ⟨hx, hb, hr, hml, hown, hts, hlocks⟩ := id C0
  refine lv_aload_n hx hb dL_law_800 rfl (lv_at hl 3 rfl) ?_
  refine G_callVi C0 hK h (c_X1_suspect l z σ S hR.1) (fun _ h => h.1) (fun u => (u, M, f)) (fun ct ct2 u hA hX hF => hA.X hX hF) (Nat.le_refl _) (by decide) (cwV 0 hts gL_law_X1_suspect rfl rfl rfl (by decide +kernel) ⟨Nat.le_of_ble_eq_true rfl, Nat.le_of_ble_eq_true rfl⟩) (k := 0) (ci := 1) (by omega) (fun ct hA => hA.1.1) rfl rfl rfl hl.1 (rest := []) rfl (Nat.le_of_ble_eq_true rfl) ⟨by show _ ≤ 601024; omega, by show _ ≤ 7293034; omega⟩ dL_law_801 (fun r u H locs hp h => ?_)
  obtain ⟨hr9, hu9⟩ := hp
  rw [hu9] at h
  subst hr9
  refine lv_aload_n hx hb dL_law_804 rfl (lv_at hl 2 rfl) ?_
  refine G_callVi C0 hK h (c_X2_suspect l z M hR.mok) (fun _ h => h.2.1) (fun u => ((va_up σ 0 S), u, f)) (fun ct ct2 u hA hX hF => hA.M hX hF) (by decide) (by decide) (cwV 0 hts gL_law_X2_suspect rfl rfl rfl (by decide +kernel) ⟨Nat.le_of_ble_eq_true rfl, Nat.le_of_ble_eq_true rfl⟩) (k := 55) (ci := 2) (by omega) (fun ct hA => hA.2.1.1) rfl rfl rfl hl.1 (rest := [.int ((qsus S (qp S)).1)]) rfl (Nat.le_of_ble_eq_true rfl) ⟨by show _ ≤ 601024; omega, by show _ ≤ 7293034; omega⟩ dL_law_805 (fun r u H locs hp h => ?_)
  obtain ⟨hr9, hu9⟩ := hp
  rw [hu9] at h
  subst hr9
  refine lv_icmp_eq (tgt := 1104) hx hb dL_law_808 (by decide) (fun _ => ?_) (fun q9 => absurd (by rw [hR.2.2.1]; exact ((hR.uh_ 0).sus _ (Nat.le_refl _)).1.symm) q9)
  exact back _ _ _ _ _ _ _ _ _ ((hR.uh_ 0).mono (by omega)) hZ h (lv_sub hl [0, 1, 2, 3, 4] rfl) (by omega) (by omega)
set_option maxHeartbeats 4000000 in
set_option maxRecDepth 100000 in
theorem law_c15 {p : Program} {l : Launch} {e : Env} {s : State} {m : MethodId} {below : List Frame} {meth : Method} {c : Code} {H : Heap} {locs : List Loc} {Q : State → Prop} {ls : Array Slot} {z : QZ} {c0 : Nat → va_E} {b L i : Nat} {xs : Nat → Int32} {σ : Nat → QLs} {S : QLs} {M : QMs} {f : Nat → Int64} (C0 : Cx p s m #[Value.ref b] meth c cL_law 9 ret RL wsL_law) (hlt : l.stackTraces = false) (hK : QK z s) (hT : TZ z s) (hX : va_X b L xs s s.heap) (hbl : b < s.heap.size) (hge : ∀ k, k < zn z → s.heap.size ≤ za z k) (hL : L ≤ 2560) (hi : i + 5 ≤ L) (hR : RR (20 * i) S M) (hZ : ZZ S) (h : GW z (WAt z) 0 60 s.heap c0 (va_up σ 0 S, M, f) H locs) (hl : lv_has ls 9 [(4, .int (nI i)), (3, .ref (za z 59)), (2, .ref (za z 55)), (1, .ref (za z 0)), (0, .ref b)])
    (back : ∀ (σ : Nat → QLs) (S : QLs) (M : QMs) (f : Nat → Int64) (H : Heap) (locs : List Loc) (cells slots : Nat) (ls : Array Slot), RR (20 * i + 100) S M → ZZ S → GW z (WAt z) 0 60 s.heap c0 (va_up σ 0 S, M, f) H locs → lv_has ls 9 [(4, .int (nI i)), (3, .ref (za z 59)), (2, .ref (za z 55)), (1, .ref (za z 0)), (0, .ref b)] → cells ≤ 100 + i + 5 → slots ≤ 2000 + 44 * i + 220 → W p l e room_1 s m #[Value.ref b] below meth c H locs cells slots Q (F0 m 1104 ls [])) :
    W p l e room_1 s m #[Value.ref b] below meth c H locs (100 + i) (2000 + 44 * i) Q (F0 m 1049 ls []) := by
  obtain ⟨hx, hb, hr, hml, hown, hts, hlocks⟩ := id C0
  refine lv_aload_n hx hb dL_law_1049 rfl (lv_at hl 3 rfl) ?_
  refine G_callVd C0 hK h (c_X1_mean l z σ S hR.1) (fun _ h => h.1) (fun u => (u, M, f)) (fun ct ct2 u hA hX hF => hA.X hX hF) (Nat.le_refl _) (by decide) (cwV 0 hts gL_law_X1_mean rfl rfl rfl (by decide +kernel) ⟨Nat.le_of_ble_eq_true rfl, Nat.le_of_ble_eq_true rfl⟩) (k := 0) (ci := 1) (by omega) (fun ct hA => hA.1.1) rfl rfl rfl hl.1 (rest := []) rfl (Nat.le_of_ble_eq_true rfl) ⟨by show _ ≤ 601024; omega, by show _ ≤ 7293034; omega⟩ dL_law_1050 (fun r u H locs hp h => ?_)
  obtain ⟨hr9, hu9⟩ := hp
  rw [hu9] at h
  subst hr9
  refine lv_dstore (lv' := [(5, .double (qmean S)), (4, .int (nI i)), (3, .ref (za z 59)), (2, .ref (za z 55)), (1, .ref (za z 0)), (0, .ref b)]) hx hb dL_law_1053 hl (by decide) rfl (fun ls hl => ?_)
  refine lv_aload_n hx hb dL_law_1055 rfl (lv_at hl 3 rfl) ?_
  refine G_callVd C0 hK h (c_X2_mean l z M hR.mok) (fun _ h => h.2.1) (fun u => ((va_up σ 0 S), u, f)) (fun ct ct2 u hA hX hF => hA.M hX hF) (by decide) (by decide) (cwV 0 hts gL_law_X2_mean rfl rfl rfl (by decide +kernel) ⟨Nat.le_of_ble_eq_true rfl, Nat.le_of_ble_eq_true rfl⟩) (k := 55) (ci := 2) (by omega) (fun ct hA => hA.2.1.1) rfl rfl rfl hl.1 (rest := []) rfl (Nat.le_of_ble_eq_true rfl) ⟨by show _ ≤ 601024; omega, by show _ ≤ 7293034; omega⟩ dL_law_1056 (fun r u H locs hp h => ?_)
  obtain ⟨hr9, hu9⟩ := hp
  rw [hu9] at h
  subst hr9
  rw [(hR.uh_ 0).mean]
  refine lv_dstore (lv' := [(7, .double (qmean S)), (5, .double (qmean S)), (4, .int (nI i)), (3, .ref (za z 59)), (2, .ref (za z 55)), (1, .ref (za z 0)), (0, .ref b)]) hx hb dL_law_1059 hl (by decide) rfl (fun ls hl => ?_)
  refine lv_dload hx hb dL_law_1061 (lv_at hl 1 rfl) ?_
  refine lv_dload hx hb dL_law_1063 (lv_at hl 0 rfl) ?_
  refine lv_dcmp hx hb dL_law_1065 ?_
  refine lv_if_eq (tgt := 1087) hx hb dL_law_1066 (by decide) (fun _ => ?_) (fun q9 => ?_)
  · refine lv_goto (tgt := 1104) hx hb dL_law_1087 (by decide) ?_
    exact back _ _ _ _ _ _ _ _ _ ((hR.uh_ 0).mono (by omega)) hZ h (lv_sub hl [2, 3, 4, 5, 6] rfl) (by omega) (by omega)
  · refine lv_dload hx hb dL_law_1069 (lv_at hl 1 rfl) ?_
    refine lv_dload hx hb dL_law_1071 (lv_at hl 1 rfl) ?_
    refine lv_dcmp hx hb dL_law_1073 ?_
    refine lv_if_eq (tgt := 1085) hx hb dL_law_1074 (by decide) (fun q8 => absurd q8 q9) (fun _ => ?_)
    refine lv_dload hx hb dL_law_1077 (lv_at hl 0 rfl) ?_
    refine lv_dload hx hb dL_law_1079 (lv_at hl 0 rfl) ?_
    refine lv_dcmp hx hb dL_law_1081 ?_
    refine lv_if_ne (tgt := 1087) hx hb dL_law_1082 (by decide) (fun _ => ?_) (fun q8 => absurd q8 q9)
    refine lv_goto (tgt := 1104) hx hb dL_law_1087 (by decide) ?_
    exact back _ _ _ _ _ _ _ _ _ ((hR.uh_ 0).mono (by omega)) hZ h (lv_sub hl [2, 3, 4, 5, 6] rfl) (by omega) (by omega)
set_option maxHeartbeats 4000000 in
set_option maxRecDepth 100000 in
theorem law_c16 {p : Program} {l : Launch} {e : Env} {s : State} {m : MethodId} {below : List Frame} {meth : Method} {c : Code} {H : Heap} {locs : List Loc} {Q : State → Prop} {ls : Array Slot} {z : QZ} {c0 : Nat → va_E} {b L i : Nat} {xs : Nat → Int32} {σ : Nat → QLs} {S : QLs} {M : QMs} {f : Nat → Int64} (C0 : Cx p s m #[Value.ref b] meth c cL_law 9 ret RL wsL_law) (hlt : l.stackTraces = false) (hK : QK z s) (hT : TZ z s) (hX : va_X b L xs s s.heap) (hbl : b < s.heap.size) (hge : ∀ k, k < zn z → s.heap.size ≤ za z k) (hL : L ≤ 2560) (hi : i + 5 ≤ L) (hR : RR (20 * i) S M) (hZ : ZZ S) (h : GW z (WAt z) 0 60 s.heap c0 (va_up σ 0 S, M, f) H locs) (hl : lv_has ls 9 [(4, .int (nI i)), (3, .ref (za z 59)), (2, .ref (za z 55)), (1, .ref (za z 0)), (0, .ref b)])
    (back : ∀ (σ : Nat → QLs) (S : QLs) (M : QMs) (f : Nat → Int64) (H : Heap) (locs : List Loc) (cells slots : Nat) (ls : Array Slot), RR (20 * i + 100) S M → ZZ S → GW z (WAt z) 0 60 s.heap c0 (va_up σ 0 S, M, f) H locs → lv_has ls 9 [(4, .int (nI i)), (3, .ref (za z 59)), (2, .ref (za z 55)), (1, .ref (za z 0)), (0, .ref b)] → cells ≤ 100 + i + 5 → slots ≤ 2000 + 44 * i + 220 → W p l e room_1 s m #[Value.ref b] below meth c H locs cells slots Q (F0 m 1104 ls [])) :
    W p l e room_1 s m #[Value.ref b] below meth c H locs (100 + i) (2000 + 44 * i) Q (F0 m 1090 ls []) := by
  obtain ⟨hx, hb, hr, hml, hown, hts, hlocks⟩ := id C0
  refine lv_aload_n hx hb dL_law_1090 rfl (lv_at hl 3 rfl) ?_
  refine G_callVl C0 hK h (c_X1_digest l z σ S hR.1) (fun _ h => h.1) (fun u => (u, M, f)) (fun ct ct2 u hA hX hF => hA.X hX hF) (Nat.le_refl _) (by decide) (cwV 0 hts gL_law_X1_digest rfl rfl rfl (by decide +kernel) ⟨Nat.le_of_ble_eq_true rfl, Nat.le_of_ble_eq_true rfl⟩) (k := 0) (ci := 1) (by omega) (fun ct hA => hA.1.1) rfl rfl rfl hl.1 (rest := []) rfl (Nat.le_of_ble_eq_true rfl) ⟨by show _ ≤ 601024; omega, by show _ ≤ 7293034; omega⟩ dL_law_1091 (fun r u H locs hp h => ?_)
  obtain ⟨hr9, hu9⟩ := hp
  rw [hu9] at h
  subst hr9
  refine lv_aload_n hx hb dL_law_1094 rfl (lv_at hl 2 rfl) ?_
  refine G_callVl C0 hK h (c_X2_digest l z M hR.mok) (fun _ h => h.2.1) (fun u => ((va_up σ 0 S), u, f)) (fun ct ct2 u hA hX hF => hA.M hX hF) (by decide) (by decide) (cwV 0 hts gL_law_X2_digest rfl rfl rfl (by decide +kernel) ⟨Nat.le_of_ble_eq_true rfl, Nat.le_of_ble_eq_true rfl⟩) (k := 55) (ci := 2) (by omega) (fun ct hA => hA.2.1.1) rfl rfl rfl hl.1 (rest := [.long (qdigP S (qp S) (qdigT S (qt S) (qlong (ofAllL S) 9 1031)))]) rfl (Nat.le_of_ble_eq_true rfl) ⟨by show _ ≤ 601024; omega, by show _ ≤ 7293034; omega⟩ dL_law_1095 (fun r u H locs hp h => ?_)
  obtain ⟨hr9, hu9⟩ := hp
  rw [hu9] at h
  subst hr9
  refine W.lcmp hx hb dL_law_1098 ?_
  refine lv_if_eq (tgt := 1104) hx hb dL_law_1099 (by decide) (fun _ => ?_) (fun q8 => absurd (q_lcmp (hR.uh_ 0).digest.symm) q8)
  exact back _ _ _ _ _ _ _ _ _ ((hR.uh_ 0).mono (by omega)) hZ h (lv_sub hl [0, 1, 2, 3, 4] rfl) (by omega) (by omega)
