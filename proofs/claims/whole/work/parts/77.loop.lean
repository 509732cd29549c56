/-! PART 77: the law's loop -/
theorem L_locs {s : State} {z : QZ} {α : Type} {At : α → (Nat → va_E) → Prop} {lo hi : Nat} {c0 : Nat → va_E} {a : α} {H : Heap} {locs : List Loc} (hge : ∀ k, k < zn z → s.heap.size ≤ za z k) (h : GW z At lo hi s.heap c0 a H locs) : ∀ q ∈ locs, s.heap.size ≤ q.base := fun q hq => by
  obtain ⟨ct, hP, hS, -⟩ := h
  rcases hS.2.2 q hq with ⟨k, hk, e⟩ | h
  · rw [← e]; exact hge k hk
  · exact h
set_option maxHeartbeats 4000000 in
set_option maxRecDepth 100000 in
theorem law_loop {p : Program} {l : Launch} {e : Env} {s : State} {m : MethodId} {below : List Frame} {meth : Method} {c : Code} {Q : State → Prop} {z : QZ} {c0 : Nat → va_E} {b L : Nat} {xs : Nat → Int32} (C0 : Cx p s m #[Value.ref b] meth c cL_law 9 ret RL wsL_law) (hlt : l.stackTraces = false) (hK : QK z s) (hT : TZ z s) (hX : va_X b L xs s s.heap) (hbl : b < s.heap.size) (hge : ∀ k, k < zn z → s.heap.size ≤ za z k) (hL : L ≤ 2560)
    (fin : ∀ (H : Heap) (locs : List Loc) (cells slots : Nat) (ls : Array Slot), cells ≤ 601024 → slots ≤ 7293034 → (∀ q ∈ locs, s.heap.size ≤ q.base) → W p l e room_1 s m #[Value.ref b] below meth c H locs cells slots Q (F0 m 1110 ls [])) :
    ∀ (n i : Nat), L < i + n → i ≤ 2560 → ∀ (σ : Nat → QLs) (S : QLs) (M : QMs) (f : Nat → Int64) (H : Heap) (locs : List Loc) (ls : Array Slot), RR (20 * i) S M → ZZ S → GW z (WAt z) 0 60 s.heap c0 (va_up σ 0 S, M, f) H locs → lv_has ls 9 [(4, .int (nI i)), (3, .ref (za z 59)), (2, .ref (za z 55)), (1, .ref (za z 0)), (0, .ref b)] → W p l e room_1 s m #[Value.ref b] below meth c H locs (100 + i) (2000 + 44 * i) Q (F0 m 23 ls []) := by
  obtain ⟨hx, hb, hr, hml, hown, hts, hlocks⟩ := id C0
  intro n
  induction n with
  | zero =>
    intro i hn hi σ S M f H locs ls hR hZ h hl
    refine lv_iload hx hb dL_law_23 (lv_at hl 0 rfl) ?_
    refine lv_aload_n hx hb dL_law_25 rfl (lv_at hl 4 rfl) ?_
    refine L_slen C0 hX hbl hge h dL_law_26 ?_
    refine lv_iconst (v := 5) hx hb dL_law_27 (by decide) ?_
    refine lv_isub hx hb dL_law_28 ?_
    refine lv_icmp_gt (tgt := 1110) hx hb dL_law_29 (by decide) (fun _ => fin _ _ _ _ _ (by omega) (by omega) (L_locs hge h)) (fun c29 => ?_)
    have := q_len hL (by omega) c29
    omega
  | succ n ih =>
    intro i hn hi σ S M f H locs ls hR hZ h hl
    refine lv_iload hx hb dL_law_23 (lv_at hl 0 rfl) ?_
    refine lv_aload_n hx hb dL_law_25 rfl (lv_at hl 4 rfl) ?_
    refine L_slen C0 hX hbl hge h dL_law_26 ?_
    refine lv_iconst (v := 5) hx hb dL_law_27 (by decide) ?_
    refine lv_isub hx hb dL_law_28 ?_
    refine lv_icmp_gt (tgt := 1110) hx hb dL_law_29 (by decide) (fun _ => fin _ _ _ _ _ (by omega) (by omega) (L_locs hge h)) (fun c29 => ?_)
    have hi5 := q_len hL (by omega) c29
    have back : ∀ (σ : Nat → QLs) (S : QLs) (M : QMs) (f : Nat → Int64) (H : Heap) (locs : List Loc) (cells slots : Nat) (ls : Array Slot), RR (20 * i + 100) S M → ZZ S → GW z (WAt z) 0 60 s.heap c0 (va_up σ 0 S, M, f) H locs → lv_has ls 9 [(4, .int (nI i)), (3, .ref (za z 59)), (2, .ref (za z 55)), (1, .ref (za z 0)), (0, .ref b)] → cells ≤ 100 + i + 5 → slots ≤ 2000 + 44 * i + 220 → W p l e room_1 s m #[Value.ref b] below meth c H locs cells slots Q (F0 m 1104 ls []) := by
      intro σ S M f H locs cells slots ls hR hZ h hl hc hs
      refine W.widen (k := 100 + (i + 5)) (n := 2000 + 44 * (i + 5)) (by omega) (by omega) ?_
      refine lv_iinc (v := nI (i + 5)) (lv' := [(4, .int (nI (i + 5))), (3, .ref (za z 59)), (2, .ref (za z 55)), (1, .ref (za z 0)), (0, .ref b)]) hx hb dL_law_1104 hl (k := 0) rfl (q_inc i 5) (by decide) rfl (fun ls hl => ?_)
      refine lv_goto (tgt := 23) hx hb dL_law_1107 (by decide) ?_
      exact ih (i + 5) (by omega) (by omega) σ S M f H locs ls (hR.mono (by omega)) hZ h hl
    refine lv_aload_n hx hb dL_law_32 rfl (lv_at hl 4 rfl) ?_
    refine lv_iload hx hb dL_law_33 (lv_at hl 0 rfl) ?_
    refine L_sld C0 hX hbl hge h (j := i) rfl (by omega) hL dL_law_35 ?_
    refine lv_bipush (v := 31) hx hb dL_law_36 (by decide) ?_
    refine lv_iand hx hb dL_law_38 ?_
    obtain ⟨j, hj, ej⟩ := pk_andE (xs i) (m := 31) 5 (by decide)
    rw [ej]
    have hj : j < 32 := hj
    rcases (show j = 0 ∨ j = 1 ∨ j = 2 ∨ j = 3 ∨ j = 4 ∨ j = 5 ∨ j = 6 ∨ j = 7 ∨ j = 8 ∨ j = 9 ∨ j = 10 ∨ j = 11 ∨ j = 12 ∨ j = 13 ∨ j = 14 ∨ j = 15 ∨ j = 16 ∨ 17 ≤ j by omega) with rfl | rfl | rfl | rfl | rfl | rfl | rfl | rfl | rfl | rfl | rfl | rfl | rfl | rfl | rfl | rfl | rfl | hj2
    · refine lv_tableIn (off := 81) (tgt := 120) hx hb dL_law_39 (by decide +kernel) (by decide +kernel) rfl (by decide) ?_
      exact law_c0 C0 hlt hK hT hX hbl hge hL hi5 hR hZ h hl back
    · refine lv_tableIn (off := 161) (tgt := 200) hx hb dL_law_39 (by decide +kernel) (by decide +kernel) rfl (by decide) ?_
      exact law_c1 C0 hlt hK hT hX hbl hge hL hi5 hR hZ h hl back
    · refine lv_tableIn (off := 253) (tgt := 292) hx hb dL_law_39 (by decide +kernel) (by decide +kernel) rfl (by decide) ?_
      exact law_c2 C0 hlt hK hT hX hbl hge hL hi5 hR hZ h hl back
    · refine lv_tableIn (off := 333) (tgt := 372) hx hb dL_law_39 (by decide +kernel) (by decide +kernel) rfl (by decide) ?_
      exact law_c3 C0 hlt hK hT hX hbl hge hL hi5 hR hZ h hl back
    · refine lv_tableIn (off := 389) (tgt := 428) hx hb dL_law_39 (by decide +kernel) (by decide +kernel) rfl (by decide) ?_
      exact law_c4 C0 hlt hK hT hX hbl hge hL hi5 hR hZ h hl back
    · refine lv_tableIn (off := 445) (tgt := 484) hx hb dL_law_39 (by decide +kernel) (by decide +kernel) rfl (by decide) ?_
      exact law_c5 C0 hlt hK hT hX hbl hge hL hi5 hR hZ h hl back
    · refine lv_tableIn (off := 513) (tgt := 552) hx hb dL_law_39 (by decide +kernel) (by decide +kernel) rfl (by decide) ?_
      exact law_c6 C0 hlt hK hT hX hbl hge hL hi5 hR hZ h hl back
    · refine lv_tableIn (off := 581) (tgt := 620) hx hb dL_law_39 (by decide +kernel) (by decide +kernel) rfl (by decide) ?_
      exact law_c7 C0 hlt hK hT hX hbl hge hL hi5 hR hZ h hl back
    · refine lv_tableIn (off := 649) (tgt := 688) hx hb dL_law_39 (by decide +kernel) (by decide +kernel) rfl (by decide) ?_
      exact law_c8 C0 hlt hK hT hX hbl hge hL hi5 hR hZ h hl back
    · refine lv_tableIn (off := 705) (tgt := 744) hx hb dL_law_39 (by decide +kernel) (by decide +kernel) rfl (by decide) ?_
      exact law_c9 C0 hlt hK hT hX hbl hge hL hi5 hR hZ h hl back
    · refine lv_tableIn (off := 761) (tgt := 800) hx hb dL_law_39 (by decide +kernel) (by decide +kernel) rfl (by decide) ?_
      exact law_c10 C0 hlt hK hT hX hbl hge hL hi5 hR hZ h hl back
    · refine lv_tableIn (off := 774) (tgt := 813) hx hb dL_law_39 (by decide +kernel) (by decide +kernel) rfl (by decide) ?_
      exact law_c11 C0 hlt hK hT hX hbl hge hL hi5 hR hZ h hl back
    · refine lv_tableIn (off := 830) (tgt := 869) hx hb dL_law_39 (by decide +kernel) (by decide +kernel) rfl (by decide) ?_
      exact law_c12 C0 hlt hK hT hX hbl hge hL hi5 hR hZ h hl back
    · refine lv_tableIn (off := 898) (tgt := 937) hx hb dL_law_39 (by decide +kernel) (by decide +kernel) rfl (by decide) ?_
      exact law_c13 C0 hlt hK hT hX hbl hge hL hi5 hR hZ h hl back
    · refine lv_tableIn (off := 954) (tgt := 993) hx hb dL_law_39 (by decide +kernel) (by decide +kernel) rfl (by decide) ?_
      exact law_c14 C0 hlt hK hT hX hbl hge hL hi5 hR hZ h hl back
    · refine lv_tableIn (off := 1010) (tgt := 1049) hx hb dL_law_39 (by decide +kernel) (by decide +kernel) rfl (by decide) ?_
      exact law_c15 C0 hlt hK hT hX hbl hge hL hi5 hR hZ h hl back
    · refine lv_tableIn (off := 1051) (tgt := 1090) hx hb dL_law_39 (by decide +kernel) (by decide +kernel) rfl (by decide) ?_
      exact law_c16 C0 hlt hK hT hX hbl hge hL hi5 hR hZ h hl back
    · refine lv_tableOut (tgt := 1104) hx hb dL_law_39 (Or.inr (by rw [nI_toInt (by omega)]; omega)) (by decide) ?_
      exact back _ _ _ _ _ _ _ _ _ (hR.mono (by omega)) hZ h hl (by omega) (by omega)
