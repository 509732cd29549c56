/-! the law's cases [11, 12, 13, 14] -/
set_option maxHeartbeats 4000000 in
set_option maxRecDepth 100000 in
theorem law_c11 {p : Program} {l : Launch} {e : Env} {s : State} {m : MethodId} {below : List Frame} {meth : Method} {c : Code} {H : Heap} {locs : List Loc} {Q : State → Prop} {ls : Array Slot} {z : QZ} {c0 : Nat → va_E} {b L i : Nat} {xs : Nat → Int32} {σ : Nat → QLs} {S : QLs} {M : QMs} {f : Nat → Int64} (C0 : Cx p s m #[Value.ref b] meth c cL_law 9 ret RL wsL_law) (hlt : l.stackTraces = false) (hK : QK z s) (hT : TZ z s) (hX : va_X b L xs s s.heap) (hbl : b < s.heap.size) (hge : ∀ k, k < zn z → s.heap.size ≤ za z k) (hL : L ≤ 2560) (hi : i + 5 ≤ L) (hR : RR (20 * i) S M) (hZ : ZZ S) (h : GW z (WAt z) 0 60 s.heap c0 (va_up σ 0 S, M, f) H locs) (hl : lv_has ls 9 [(4, .int (nI i)), (3, .ref (za z 59)), (2, .ref (za z 55)), (1, .ref (za z 0)), (0, .ref b)])
    (back : ∀ (σ : Nat → QLs) (S : QLs) (M : QMs) (f : Nat → Int64) (H : Heap) (locs : List Loc) (cells slots : Nat) (ls : Array Slot), RR (20 * i + 100) S M → ZZ S → GW z (WAt z) 0 60 s.heap c0 (va_up σ 0 S, M, f) H locs → lv_has ls 9 [(4, .int (nI i)), (3, .ref (za z 59)), (2, .ref (za z 55)), (1, .ref (za z 0)), (0, .ref b)] → cells ≤ 100 + i + 5 → slots ≤ 2000 + 44 * i + 220 → W p l e room_1 s m #[Value.ref b] below meth c H locs cells slots Q (F0 m 1104 ls [])) :
    W p l e room_1 s m #[Value.ref b] below meth c H locs (100 + i) (2000 + 44 * i) Q (F0 m 813 ls []) := by
  obtain ⟨hx, hb, hr, hml, hown, hts, hlocks⟩ := id C0
  obtain ⟨k9, b9, S2, f2, M2, hH, hM, hk9, hf9, hR2, hZ2⟩ := ag_pass (l := l) (z := z) (σ := σ) (f := f) hlt hR hZ (by omega) (xs (i + 1))
  refine lv_aload_n hx hb dL_law_813 rfl (lv_at hl 3 rfl) ?_
  refine lv_aload_n hx hb dL_law_814 rfl (lv_at hl 4 rfl) ?_
  refine lv_iload hx hb dL_law_815 (lv_at hl 0 rfl) ?_
  refine lv_iconst (v := 1) hx hb dL_law_817 (by decide) ?_
  refine lv_iadd hx hb dL_law_818 ?_
  refine L_sld C0 hX hbl hge h (j := i + 1) (q_add rfl rfl) (by omega) hL dL_law_819 ?_
  refine lv_aload_n hx hb dL_law_820 rfl (lv_at hl 1 rfl) ?_
  refine L_help C0 hK hT h hH (vx_cwSW 3 hts gL_law_L_pass rfl rfl rfl (by decide +kernel) ⟨Nat.le_of_ble_eq_true rfl, Nat.le_of_ble_eq_true rfl⟩) rfl hl.1 (rest := []) rfl (Nat.le_of_ble_eq_true rfl) ⟨by show _ ≤ 601024; omega, by show _ ≤ 7293034; omega⟩ dL_law_821 (fun r1 u H locs hp h => ?_)
  obtain ⟨hr8, σ2, hu8⟩ := hp
  rw [hu8] at h
  rw [hr8]
  refine lv_istore (lv' := [(5, .int k9), (4, .int (nI i)), (3, .ref (za z 59)), (2, .ref (za z 55)), (1, .ref (za z 0)), (0, .ref b)]) hx hb dL_law_824 hl (by decide) rfl (fun ls hl => ?_)
  refine lv_aload_n hx hb dL_law_826 rfl (lv_at hl 3 rfl) ?_
  refine lv_aload_n hx hb dL_law_827 rfl (lv_at hl 5 rfl) ?_
  refine lv_iload hx hb dL_law_828 (lv_at hl 1 rfl) ?_
  refine lv_iconst (v := 1) hx hb dL_law_830 (by decide) ?_
  refine lv_iadd hx hb dL_law_831 ?_
  refine L_sld C0 hX hbl hge h (j := i + 1) (q_add rfl rfl) (by omega) hL dL_law_832 ?_
  refine G_callVi C0 hK h hM (fun _ h => h.2.1) (fun u => ((va_up σ2 0 S2), u, f2)) (fun ct ct2 u hA hX hF => hA.M hX hF) (by decide) (by decide) (cwV 1 hts gL_law_X2_pass rfl rfl rfl (by decide +kernel) ⟨Nat.le_of_ble_eq_true rfl, Nat.le_of_ble_eq_true rfl⟩) (k := 55) (ci := 2) (by omega) (fun ct hA => hA.2.1.1) rfl rfl rfl hl.1 (rest := []) rfl (Nat.le_of_ble_eq_true rfl) ⟨by show _ ≤ 601024; omega, by show _ ≤ 7293034; omega⟩ dL_law_833 (fun r u H locs hp h => ?_)
  obtain ⟨hr9, hu9⟩ := hp
  rw [hu9] at h
  rw [hr9]
  refine lv_istore (lv' := [(6, .int b9), (5, .int k9), (4, .int (nI i)), (3, .ref (za z 59)), (2, .ref (za z 55)), (1, .ref (za z 0)), (0, .ref b)]) hx hb dL_law_836 hl (by decide) rfl (fun ls hl => ?_)
  refine lv_aload_n hx hb dL_law_838 rfl (lv_at hl 4 rfl) ?_
  refine G_callVi C0 hK h (c_X2_thrown l z M2) (fun _ h => h.2.1) (fun u => ((va_up σ2 0 S2), u, f2)) (fun ct ct2 u hA hX hF => hA.M hX hF) (by decide) (by decide) (cwV 0 hts gL_law_X2_thrown rfl rfl rfl (by decide +kernel) ⟨Nat.le_of_ble_eq_true rfl, Nat.le_of_ble_eq_true rfl⟩) (k := 55) (ci := 2) (by omega) (fun ct hA => hA.2.1.1) rfl rfl rfl hl.1 (rest := []) rfl (Nat.le_of_ble_eq_true rfl) ⟨by show _ ≤ 601024; omega, by show _ ≤ 7293034; omega⟩ dL_law_839 (fun r u H locs hp h => ?_)
  obtain ⟨hr9, hu9⟩ := hp
  rw [hu9] at h
  rw [hr9, hk9]
  refine lv_iload hx hb dL_law_842 (lv_at hl 1 rfl) ?_
  refine lv_icmp_eq (tgt := 849) hx hb dL_law_844 (by decide) (fun _ => ?_) (fun q9 => absurd rfl q9)
  refine lv_iload hx hb dL_law_849 (lv_at hl 1 rfl) ?_
  refine lv_if_ne (tgt := 866) hx hb dL_law_851 (by decide) (fun _ => ?_) (fun q9 => ?_)
  · refine lv_goto (tgt := 1104) hx hb dL_law_866 (by decide) ?_
    exact back _ _ _ _ _ _ _ _ _ hR2 hZ2 h (lv_sub hl [2, 3, 4, 5, 6] rfl) (by omega) (by omega)
  · refine lv_aload_n hx hb dL_law_854 rfl (lv_at hl 3 rfl) ?_
    refine lv_iconst (v := 0) hx hb dL_law_855 (by decide) ?_
    refine G_lald C0 hK h (k := 59) (by omega) (fun ct hA => hA.2.2) (j := 0) rfl (by decide) (by decide) dL_law_856 ?_
    refine lv_iload hx hb dL_law_857 (lv_at hl 0 rfl) ?_
    refine lv_i2l hx hb dL_law_859 rfl ?_
    refine W.lcmp hx hb dL_law_860 ?_
    refine lv_if_eq (tgt := 866) hx hb dL_law_861 (by decide) (fun _ => ?_) (fun q8 => absurd (q_lcmp (hf9 q9)) q8)
    refine lv_goto (tgt := 1104) hx hb dL_law_866 (by decide) ?_
    exact back _ _ _ _ _ _ _ _ _ hR2 hZ2 h (lv_sub hl [2, 3, 4, 5, 6] rfl) (by omega) (by omega)
set_option maxHeartbeats 4000000 in
set_option maxRecDepth 100000 in
theorem law_c12 {p : Program} {l : Launch} {e : Env} {s : State} {m : MethodId} {below : List Frame} {meth : Method} {c : Code} {H : Heap} {locs : List Loc} {Q : State → Prop} {ls : Array Slot} {z : QZ} {c0 : Nat → va_E} {b L i : Nat} {xs : Nat → Int32} {σ : Nat → QLs} {S : QLs} {M : QMs} {f : Nat → Int64} (C0 : Cx p s m #[Value.ref b] meth c cL_law 9 ret RL wsL_law) (hlt : l.stackTraces = false) (hK : QK z s) (hT : TZ z s) (hX : va_X b L xs s s.heap) (hbl : b < s.heap.size) (hge : ∀ k, k < zn z → s.heap.size ≤ za z k) (hL : L ≤ 2560) (hi : i + 5 ≤ L) (hR : RR (20 * i) S M) (hZ : ZZ S) (h : GW z (WAt z) 0 60 s.heap c0 (va_up σ 0 S, M, f) H locs) (hl : lv_has ls 9 [(4, .int (nI i)), (3, .ref (za z 59)), (2, .ref (za z 55)), (1, .ref (za z 0)), (0, .ref b)])
    (back : ∀ (σ : Nat → QLs) (S : QLs) (M : QMs) (f : Nat → Int64) (H : Heap) (locs : List Loc) (cells slots : Nat) (ls : Array Slot), RR (20 * i + 100) S M → ZZ S → GW z (WAt z) 0 60 s.heap c0 (va_up σ 0 S, M, f) H locs → lv_has ls 9 [(4, .int (nI i)), (3, .ref (za z 59)), (2, .ref (za z 55)), (1, .ref (za z 0)), (0, .ref b)] → cells ≤ 100 + i + 5 → slots ≤ 2000 + 44 * i + 220 → W p l e room_1 s m #[Value.ref b] below meth c H locs cells slots Q (F0 m 1104 ls [])) :
    W p l e room_1 s m #[Value.ref b] below meth c H locs (100 + i) (2000 + 44 * i) Q (F0 m 869 ls []) := by
  obtain ⟨hx, hb, hr, hml, hown, hts, hlocks⟩ := id C0
  obtain ⟨k9, b9, S2, f2, M2, hH, hM, hk9, hf9, hR2, hZ2⟩ := ag_foresee (l := l) (z := z) (σ := σ) (f := f) hlt hR hZ (by omega) (xs (i + 1)) (xs (i + 2))
  refine lv_aload_n hx hb dL_law_869 rfl (lv_at hl 3 rfl) ?_
  refine lv_aload_n hx hb dL_law_870 rfl (lv_at hl 4 rfl) ?_
  refine lv_iload hx hb dL_law_871 (lv_at hl 0 rfl) ?_
  refine lv_iconst (v := 1) hx hb dL_law_873 (by decide) ?_
  refine lv_iadd hx hb dL_law_874 ?_
  refine L_sld C0 hX hbl hge h (j := i + 1) (q_add rfl rfl) (by omega) hL dL_law_875 ?_
  refine lv_aload_n hx hb dL_law_876 rfl (lv_at hl 4 rfl) ?_
  refine lv_iload hx hb dL_law_877 (lv_at hl 0 rfl) ?_
  refine lv_iconst (v := 2) hx hb dL_law_879 (by decide) ?_
  refine lv_iadd hx hb dL_law_880 ?_
  refine L_sld C0 hX hbl hge h (j := i + 2) (q_add rfl rfl) (by omega) hL dL_law_881 ?_
  refine lv_aload_n hx hb dL_law_882 rfl (lv_at hl 1 rfl) ?_
  refine L_help C0 hK hT h hH (vx_cwSW 4 hts gL_law_L_foresee rfl rfl rfl (by decide +kernel) ⟨Nat.le_of_ble_eq_true rfl, Nat.le_of_ble_eq_true rfl⟩) rfl hl.1 (rest := []) rfl (Nat.le_of_ble_eq_true rfl) ⟨by show _ ≤ 601024; omega, by show _ ≤ 7293034; omega⟩ dL_law_883 (fun r1 u H locs hp h => ?_)
  obtain ⟨hr8, σ2, hu8⟩ := hp
  rw [hu8] at h
  rw [hr8]
  refine lv_istore (lv' := [(5, .int k9), (4, .int (nI i)), (3, .ref (za z 59)), (2, .ref (za z 55)), (1, .ref (za z 0)), (0, .ref b)]) hx hb dL_law_886 hl (by decide) rfl (fun ls hl => ?_)
  refine lv_aload_n hx hb dL_law_888 rfl (lv_at hl 3 rfl) ?_
  refine lv_aload_n hx hb dL_law_889 rfl (lv_at hl 5 rfl) ?_
  refine lv_iload hx hb dL_law_890 (lv_at hl 1 rfl) ?_
  refine lv_iconst (v := 1) hx hb dL_law_892 (by decide) ?_
  refine lv_iadd hx hb dL_law_893 ?_
  refine L_sld C0 hX hbl hge h (j := i + 1) (q_add rfl rfl) (by omega) hL dL_law_894 ?_
  refine lv_aload_n hx hb dL_law_895 rfl (lv_at hl 5 rfl) ?_
  refine lv_iload hx hb dL_law_896 (lv_at hl 1 rfl) ?_
  refine lv_iconst (v := 2) hx hb dL_law_898 (by decide) ?_
  refine lv_iadd hx hb dL_law_899 ?_
  refine L_sld C0 hX hbl hge h (j := i + 2) (q_add rfl rfl) (by omega) hL dL_law_900 ?_
  refine G_callVi C0 hK h hM (fun _ h => h.2.1) (fun u => ((va_up σ2 0 S2), u, f2)) (fun ct ct2 u hA hX hF => hA.M hX hF) (by decide) (by decide) (cwV 2 hts gL_law_X2_foresee rfl rfl rfl (by decide +kernel) ⟨Nat.le_of_ble_eq_true rfl, Nat.le_of_ble_eq_true rfl⟩) (k := 55) (ci := 2) (by omega) (fun ct hA => hA.2.1.1) rfl rfl rfl hl.1 (rest := []) rfl (Nat.le_of_ble_eq_true rfl) ⟨by show _ ≤ 601024; omega, by show _ ≤ 7293034; omega⟩ dL_law_901 (fun r u H locs hp h => ?_)
  obtain ⟨hr9, hu9⟩ := hp
  rw [hu9] at h
  rw [hr9]
  refine lv_istore (lv' := [(6, .int b9), (5, .int k9), (4, .int (nI i)), (3, .ref (za z 59)), (2, .ref (za z 55)), (1, .ref (za z 0)), (0, .ref b)]) hx hb dL_law_904 hl (by decide) rfl (fun ls hl => ?_)
  refine lv_aload_n hx hb dL_law_906 rfl (lv_at hl 4 rfl) ?_
  refine G_callVi C0 hK h (c_X2_thrown l z M2) (fun _ h => h.2.1) (fun u => ((va_up σ2 0 S2), u, f2)) (fun ct ct2 u hA hX hF => hA.M hX hF) (by decide) (by decide) (cwV 0 hts gL_law_X2_thrown rfl rfl rfl (by decide +kernel) ⟨Nat.le_of_ble_eq_true rfl, Nat.le_of_ble_eq_true rfl⟩) (k := 55) (ci := 2) (by omega) (fun ct hA => hA.2.1.1) rfl rfl rfl hl.1 (rest := []) rfl (Nat.le_of_ble_eq_true rfl) ⟨by show _ ≤ 601024; omega, by show _ ≤ 7293034; omega⟩ dL_law_907 (fun r u H locs hp h => ?_)
  obtain ⟨hr9, hu9⟩ := hp
  rw [hu9] at h
  rw [hr9, hk9]
  refine lv_iload hx hb dL_law_910 (lv_at hl 1 rfl) ?_
  refine lv_icmp_eq (tgt := 917) hx hb dL_law_912 (by decide) (fun _ => ?_) (fun q9 => absurd rfl q9)
  refine lv_iload hx hb dL_law_917 (lv_at hl 1 rfl) ?_
  refine lv_if_ne (tgt := 934) hx hb dL_law_919 (by decide) (fun _ => ?_) (fun q9 => ?_)
  · refine lv_goto (tgt := 1104) hx hb dL_law_934 (by decide) ?_
    exact back _ _ _ _ _ _ _ _ _ hR2 hZ2 h (lv_sub hl [2, 3, 4, 5, 6] rfl) (by omega) (by omega)
  · refine lv_aload_n hx hb dL_law_922 rfl (lv_at hl 3 rfl) ?_
    refine lv_iconst (v := 0) hx hb dL_law_923 (by decide) ?_
    refine G_lald C0 hK h (k := 59) (by omega) (fun ct hA => hA.2.2) (j := 0) rfl (by decide) (by decide) dL_law_924 ?_
    refine lv_iload hx hb dL_law_925 (lv_at hl 0 rfl) ?_
    refine lv_i2l hx hb dL_law_927 rfl ?_
    refine W.lcmp hx hb dL_law_928 ?_
    refine lv_if_eq (tgt := 934) hx hb dL_law_929 (by decide) (fun _ => ?_) (fun q8 => absurd (q_lcmp (hf9 q9)) q8)
    refine lv_goto (tgt := 1104) hx hb dL_law_934 (by decide) ?_
    exact back _ _ _ _ _ _ _ _ _ hR2 hZ2 h (lv_sub hl [2, 3, 4, 5, 6] rfl) (by omega) (by omega)
set_option maxHeartbeats 4000000 in
set_option maxRecDepth 100000 in
theorem law_c13 {p : Program} {l : Launch} {e : Env} {s : State} {m : MethodId} {below : List Frame} {meth : Method} {c : Code} {H : Heap} {locs : List Loc} {Q : State → Prop} {ls : Array Slot} {z : QZ} {c0 : Nat → va_E} {b L i : Nat} {xs : Nat → Int32} {σ : Nat → QLs} {S : QLs} {M : QMs} {f : Nat → Int64} (C0 : Cx p s m #[Value.ref b] meth c cL_law 9 ret RL wsL_law) (hlt : l.stackTraces = false) (hK : QK z s) (hT : TZ z s) (hX : va_X b L xs s s.heap) (hbl : b < s.heap.size) (hge : ∀ k, k < zn z → s.heap.size ≤ za z k) (hL : L ≤ 2560) (hi : i + 5 ≤ L) (hR : RR (20 * i) S M) (hZ : ZZ S) (h : GW z (WAt z) 0 60 s.heap c0 (va_up σ 0 S, M, f) H locs) (hl : lv_has ls 9 [(4, .int (nI i)), (3, .ref (za z 59)), (2, .ref (za z 55)), (1, .ref (za z 0)), (0, .ref b)])
    (back : ∀ (σ : Nat → QLs) (S : QLs) (M : QMs) (f : Nat → Int64) (H : Heap) (locs : List Loc) (cells slots : Nat) (ls : Array Slot), RR (20 * i + 100) S M → ZZ S → GW z (WAt z) 0 60 s.heap c0 (va_up σ 0 S, M, f) H locs → lv_has ls 9 [(4, .int (nI i)), (3, .ref (za z 59)), (2, .ref (za z 55)), (1, .ref (za z 0)), (0, .ref b)] → cells ≤ 100 + i + 5 → slots ≤ 2000 + 44 * i + 220 → W p l e room_1 s m #[Value.ref b] below meth c H locs cells slots Q (F0 m 1104 ls [])) :
    W p l e room_1 s m #[Value.ref b] below meth c H locs (100 + i) (2000 + 44 * i) Q (F0 m 937 ls []) := by
  obtain ⟨hx, hb, hr, hml, hown, hts, hlocks⟩ := id C0
  obtain ⟨k9, b9, S2, f2, M2, hH, hM, hk9, hf9, hR2, hZ2⟩ := ag_advise (l := l) (z := z) (σ := σ) (f := f) hlt hR hZ (by omega) (xs (i + 1))
  refine lv_aload_n hx hb dL_law_937 rfl (lv_at hl 3 rfl) ?_
  refine lv_aload_n hx hb dL_law_938 rfl (lv_at hl 4 rfl) ?_
  refine lv_iload hx hb dL_law_939 (lv_at hl 0 rfl) ?_
  refine lv_iconst (v := 1) hx hb dL_law_941 (by decide) ?_
  refine lv_iadd hx hb dL_law_942 ?_
  refine L_sld C0 hX hbl hge h (j := i + 1) (q_add rfl rfl) (by omega) hL dL_law_943 ?_
  refine lv_aload_n hx hb dL_law_944 rfl (lv_at hl 1 rfl) ?_
  refine L_help C0 hK hT h hH (vx_cwSW 3 hts gL_law_L_advise rfl rfl rfl (by decide +kernel) ⟨Nat.le_of_ble_eq_true rfl, Nat.le_of_ble_eq_true rfl⟩) rfl hl.1 (rest := []) rfl (Nat.le_of_ble_eq_true rfl) ⟨by show _ ≤ 601024; omega, by show _ ≤ 7293034; omega⟩ dL_law_945 (fun r1 u H locs hp h => ?_)
  obtain ⟨hr8, σ2, hu8⟩ := hp
  rw [hu8] at h
  rw [hr8]
  refine lv_istore (lv' := [(5, .int k9), (4, .int (nI i)), (3, .ref (za z 59)), (2, .ref (za z 55)), (1, .ref (za z 0)), (0, .ref b)]) hx hb dL_law_948 hl (by decide) rfl (fun ls hl => ?_)
  refine lv_aload_n hx hb dL_law_950 rfl (lv_at hl 3 rfl) ?_
  refine lv_aload_n hx hb dL_law_951 rfl (lv_at hl 5 rfl) ?_
  refine lv_iload hx hb dL_law_952 (lv_at hl 1 rfl) ?_
  refine lv_iconst (v := 1) hx hb dL_law_954 (by decide) ?_
  refine lv_iadd hx hb dL_law_955 ?_
  refine L_sld C0 hX hbl hge h (j := i + 1) (q_add rfl rfl) (by omega) hL dL_law_956 ?_
  refine G_callVi C0 hK h hM (fun _ h => h.2.1) (fun u => ((va_up σ2 0 S2), u, f2)) (fun ct ct2 u hA hX hF => hA.M hX hF) (by decide) (by decide) (cwV 1 hts gL_law_X2_advise rfl rfl rfl (by decide +kernel) ⟨Nat.le_of_ble_eq_true rfl, Nat.le_of_ble_eq_true rfl⟩) (k := 55) (ci := 2) (by omega) (fun ct hA => hA.2.1.1) rfl rfl rfl hl.1 (rest := []) rfl (Nat.le_of_ble_eq_true rfl) ⟨by show _ ≤ 601024; omega, by show _ ≤ 7293034; omega⟩ dL_law_957 (fun r u H locs hp h => ?_)
  obtain ⟨hr9, hu9⟩ := hp
  rw [hu9] at h
  rw [hr9]
  refine lv_istore (lv' := [(6, .int b9), (5, .int k9), (4, .int (nI i)), (3, .ref (za z 59)), (2, .ref (za z 55)), (1, .ref (za z 0)), (0, .ref b)]) hx hb dL_law_960 hl (by decide) rfl (fun ls hl => ?_)
  refine lv_aload_n hx hb dL_law_962 rfl (lv_at hl 4 rfl) ?_
  refine G_callVi C0 hK h (c_X2_thrown l z M2) (fun _ h => h.2.1) (fun u => ((va_up σ2 0 S2), u, f2)) (fun ct ct2 u hA hX hF => hA.M hX hF) (by decide) (by decide) (cwV 0 hts gL_law_X2_thrown rfl rfl rfl (by decide +kernel) ⟨Nat.le_of_ble_eq_true rfl, Nat.le_of_ble_eq_true rfl⟩) (k := 55) (ci := 2) (by omega) (fun ct hA => hA.2.1.1) rfl rfl rfl hl.1 (rest := []) rfl (Nat.le_of_ble_eq_true rfl) ⟨by show _ ≤ 601024; omega, by show _ ≤ 7293034; omega⟩ dL_law_963 (fun r u H locs hp h => ?_)
  obtain ⟨hr9, hu9⟩ := hp
  rw [hu9] at h
  rw [hr9, hk9]
  refine lv_iload hx hb dL_law_966 (lv_at hl 1 rfl) ?_
  refine lv_icmp_eq (tgt := 973) hx hb dL_law_968 (by decide) (fun _ => ?_) (fun q9 => absurd rfl q9)
  refine lv_iload hx hb dL_law_973 (lv_at hl 1 rfl) ?_
  refine lv_if_ne (tgt := 990) hx hb dL_law_975 (by decide) (fun _ => ?_) (fun q9 => ?_)
  · refine lv_goto (tgt := 1104) hx hb dL_law_990 (by decide) ?_
    exact back _ _ _ _ _ _ _ _ _ hR2 hZ2 h (lv_sub hl [2, 3, 4, 5, 6] rfl) (by omega) (by omega)
  · refine lv_aload_n hx hb dL_law_978 rfl (lv_at hl 3 rfl) ?_
    refine lv_iconst (v := 0) hx hb dL_law_979 (by decide) ?_
    refine G_lald C0 hK h (k := 59) (by omega) (fun ct hA => hA.2.2) (j := 0) rfl (by decide) (by decide) dL_law_980 ?_
    refine lv_iload hx hb dL_law_981 (lv_at hl 0 rfl) ?_
    refine lv_i2l hx hb dL_law_983 rfl ?_
    refine W.lcmp hx hb dL_law_984 ?_
    refine lv_if_eq (tgt := 990) hx hb dL_law_985 (by decide) (fun _ => ?_) (fun q8 => absurd (q_lcmp (hf9 q9)) q8)
    refine lv_goto (tgt := 1104) hx hb dL_law_990 (by decide) ?_
    exact back _ _ _ _ _ _ _ _ _ hR2 hZ2 h (lv_sub hl [2, 3, 4, 5, 6] rfl) (by omega) (by omega)
set_option maxHeartbeats 4000000 in
set_option maxRecDepth 100000 in
theorem law_c14 {p : Program} {l : Launch} {e : Env} {s : State} {m : MethodId} {below : List Frame} {meth : Method} {c : Code} {H : Heap} {locs : List Loc} {Q : State → Prop} {ls : Array Slot} {z : QZ} {c0 : Nat → va_E} {b L i : Nat} {xs : Nat → Int32} {σ : Nat → QLs} {S : QLs} {M : QMs} {f : Nat → Int64} (C0 : Cx p s m #[Value.ref b] meth c cL_law 9 ret RL wsL_law) (hlt : l.stackTraces = false) (hK : QK z s) (hT : TZ z s) (hX : va_X b L xs s s.heap) (hbl : b < s.heap.size) (hge : ∀ k, k < zn z → s.heap.size ≤ za z k) (hL : L ≤ 2560) (hi : i + 5 ≤ L) (hR : RR (20 * i) S M) (hZ : ZZ S) (h : GW z (WAt z) 0 60 s.heap c0 (va_up σ 0 S, M, f) H locs) (hl : lv_has ls 9 [(4, .int (nI i)), (3, .ref (za z 59)), (2, .ref (za z 55)), (1, .ref (za z 0)), (0, .ref b)])
    (back : ∀ (σ : Nat → QLs) (S : QLs) (M : QMs) (f : Nat → Int64) (H : Heap) (locs : List Loc) (cells slots : Nat) (ls : Array Slot), RR (20 * i + 100) S M → ZZ S → GW z (WAt z) 0 60 s.heap c0 (va_up σ 0 S, M, f) H locs → lv_has ls 9 [(4, .int (nI i)), (3, .ref (za z 59)), (2, .ref (za z 55)), (1, .ref (za z 0)), (0, .ref b)] → cells ≤ 100 + i + 5 → slots ≤ 2000 + 44 * i + 220 → W p l e room_1 s m #[Value.ref b] below meth c H locs cells slots Q (F0 m 1104 ls [])) :
    W p l e room_1 s m #[Value.ref b] below meth c H locs (100 + i) (2000 + 44 * i) Q (F0 m 993 ls []) := by
  obtain ⟨hx, hb, hr, hml, hown, hts, hlocks⟩ := id C0
  obtain ⟨k9, b9, S2, f2, M2, hH, hM, hk9, hf9, hR2, hZ2⟩ := ag_sated (l := l) (z := z) (σ := σ) (f := f) hlt hR hZ (by omega) (xs (i + 1))
  refine lv_aload_n hx hb dL_law_993 rfl (lv_at hl 3 rfl) ?_
  refine lv_aload_n hx hb dL_law_994 rfl (lv_at hl 4 rfl) ?_
  refine lv_iload hx hb dL_law_995 (lv_at hl 0 rfl) ?_
  refine lv_iconst (v := 1) hx hb dL_law_997 (by decide) ?_
  refine lv_iadd hx hb dL_law_998 ?_
  refine L_sld C0 hX hbl hge h (j := i + 1) (q_add rfl rfl) (by omega) hL dL_law_999 ?_
  refine lv_aload_n hx hb dL_law_1000 rfl (lv_at hl 1 rfl) ?_
  refine L_help C0 hK hT h hH (vx_cwSW 3 hts gL_law_L_sated rfl rfl rfl (by decide +kernel) ⟨Nat.le_of_ble_eq_true rfl, Nat.le_of_ble_eq_true rfl⟩) rfl hl.1 (rest := []) rfl (Nat.le_of_ble_eq_true rfl) ⟨by show _ ≤ 601024; omega, by show _ ≤ 7293034; omega⟩ dL_law_1001 (fun r1 u H locs hp h => ?_)
  obtain ⟨hr8, σ2, hu8⟩ := hp
  rw [hu8] at h
  rw [hr8]
  refine lv_istore (lv' := [(5, .int k9), (4, .int (nI i)), (3, .ref (za z 59)), (2, .ref (za z 55)), (1, .ref (za z 0)), (0, .ref b)]) hx hb dL_law_1004 hl (by decide) rfl (fun ls hl => ?_)
  refine lv_aload_n hx hb dL_law_1006 rfl (lv_at hl 3 rfl) ?_
  refine lv_aload_n hx hb dL_law_1007 rfl (lv_at hl 5 rfl) ?_
  refine lv_iload hx hb dL_law_1008 (lv_at hl 1 rfl) ?_
  refine lv_iconst (v := 1) hx hb dL_law_1010 (by decide) ?_
  refine lv_iadd hx hb dL_law_1011 ?_
  refine L_sld C0 hX hbl hge h (j := i + 1) (q_add rfl rfl) (by omega) hL dL_law_1012 ?_
  refine G_callVi C0 hK h hM (fun _ h => h.2.1) (fun u => ((va_up σ2 0 S2), u, f2)) (fun ct ct2 u hA hX hF => hA.M hX hF) (by decide) (by decide) (cwV 1 hts gL_law_X2_sated rfl rfl rfl (by decide +kernel) ⟨Nat.le_of_ble_eq_true rfl, Nat.le_of_ble_eq_true rfl⟩) (k := 55) (ci := 2) (by omega) (fun ct hA => hA.2.1.1) rfl rfl rfl hl.1 (rest := []) rfl (Nat.le_of_ble_eq_true rfl) ⟨by show _ ≤ 601024; omega, by show _ ≤ 7293034; omega⟩ dL_law_1013 (fun r u H locs hp h => ?_)
  obtain ⟨hr9, hu9⟩ := hp
  rw [hu9] at h
  rw [hr9]
  refine lv_istore (lv' := [(6, .int b9), (5, .int k9), (4, .int (nI i)), (3, .ref (za z 59)), (2, .ref (za z 55)), (1, .ref (za z 0)), (0, .ref b)]) hx hb dL_law_1016 hl (by decide) rfl (fun ls hl => ?_)
  refine lv_aload_n hx hb dL_law_1018 rfl (lv_at hl 4 rfl) ?_
  refine G_callVi C0 hK h (c_X2_thrown l z M2) (fun _ h => h.2.1) (fun u => ((va_up σ2 0 S2), u, f2)) (fun ct ct2 u hA hX hF => hA.M hX hF) (by decide) (by decide) (cwV 0 hts gL_law_X2_thrown rfl rfl rfl (by decide +kernel) ⟨Nat.le_of_ble_eq_true rfl, Nat.le_of_ble_eq_true rfl⟩) (k := 55) (ci := 2) (by omega) (fun ct hA => hA.2.1.1) rfl rfl rfl hl.1 (rest := []) rfl (Nat.le_of_ble_eq_true rfl) ⟨by show _ ≤ 601024; omega, by show _ ≤ 7293034; omega⟩ dL_law_1019 (fun r u H locs hp h => ?_)
  obtain ⟨hr9, hu9⟩ := hp
  rw [hu9] at h
  rw [hr9, hk9]
  refine lv_iload hx hb dL_law_1022 (lv_at hl 1 rfl) ?_
  refine lv_icmp_eq (tgt := 1029) hx hb dL_law_1024 (by decide) (fun _ => ?_) (fun q9 => absurd rfl q9)
  refine lv_iload hx hb dL_law_1029 (lv_at hl 1 rfl) ?_
  refine lv_if_ne (tgt := 1046) hx hb dL_law_1031 (by decide) (fun _ => ?_) (fun q9 => ?_)
  · refine lv_goto (tgt := 1104) hx hb dL_law_1046 (by decide) ?_
    exact back _ _ _ _ _ _ _ _ _ hR2 hZ2 h (lv_sub hl [2, 3, 4, 5, 6] rfl) (by omega) (by omega)
  · refine lv_aload_n hx hb dL_law_1034 rfl (lv_at hl 3 rfl) ?_
    refine lv_iconst (v := 0) hx hb dL_law_1035 (by decide) ?_
    refine G_lald C0 hK h (k := 59) (by omega) (fun ct hA => hA.2.2) (j := 0) rfl (by decide) (by decide) dL_law_1036 ?_
    refine lv_iload hx hb dL_law_1037 (lv_at hl 0 rfl) ?_
    refine lv_i2l hx hb dL_law_1039 rfl ?_
    refine W.lcmp hx hb dL_law_1040 ?_
    refine lv_if_eq (tgt := 1046) hx hb dL_law_1041 (by decide) (fun _ => ?_) (fun q8 => absurd (q_lcmp (hf9 q9)) q8)
    refine lv_goto (tgt := 1104) hx hb dL_law_1046 (by decide) ?_
    exact back _ _ _ _ _ _ _ _ _ hR2 hZ2 h (lv_sub hl [2, 3, 4, 5, 6] rfl) (by omega) (by omega)
