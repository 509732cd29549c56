/-! PART 85: the law, crusts -/
set_option maxHeartbeats 8000000 in
set_option maxRecDepth 100000 in
theorem law_B1 {p : Program} {l : Launch} {e : Env} {s : State} {m : MethodId} {below : List Frame} {meth : Method} {c : Code} {Q : State → Prop} {a0 i cl sl : Nat} {z : QZ} {ix : Nat → Nat} {b : Nat} {c1 : Nat → va_E} {X : QLs} (C0 : Cx p s m ([Value.ref a0] : List Value).toArray meth c cL_law 32 (some .boolean) RL wsL_law) (hK : QK z s) (hrm : cl ≤ room_1.cells ∧ sl ≤ room_1.slots) (hI : Inv i X) (hi : i < 40) (hb9 : 56 ≤ b) {Y : QLs} (kk : ∀ (f : Nat → Nat × (Nat → Int32)) (g : Nat → Int32) (H : Heap) (locs : List Loc) (ls : Array Slot), f 0 = (qp X, g) → (∀ j, j < qp X → g j = qP X j 4) → f 1 = (qt X, fun _ => 0) → f 2 = (qt X, fun _ => 0) → GW z (UAt z ix (qt X) (qp X) b 3) 0 (b + 3) s.heap c1 (X, Y, X, f) H locs → lv_has ls 32 [(18, .int 0), (17, .int 0), (16, .int 0), (15, .ref (za z (b + 2))), (14, .ref (za z (b + 1))), (13, .ref (za z (b + 0))), (5, .int (nI (qt X))), (6, .int (nI (qp X))), (7, .int (sumT X 3)), (8, .int (sumT X 4)), (9, .int (sumT X 6)), (10, .int (sumP X 7)), (11, .int (sumT X 7)), (12, .int (qD X)), (3, .int (nI i)), (2, .ref (za z 55)), (1, .ref (za z 0)), (0, .ref a0)] → W p l e room_1 s m ([Value.ref a0] : List Value).toArray below meth c H locs cl sl Q (F0 m 176 ls [])) : ∀ (d k : Nat), k + d = qp X → ∀ (f : Nat → Nat × (Nat → Int32)) (g : Nat → Int32) (H : Heap) (locs : List Loc) (ls : Array Slot), f 0 = (qp X, g) → (∀ j, j < k → g j = qP X j 4) → f 1 = (qt X, fun _ => 0) → f 2 = (qt X, fun _ => 0) → GW z (UAt z ix (qt X) (qp X) b 3) 0 (b + 3) s.heap c1 (X, Y, X, f) H locs → lv_has ls 32 [(18, .int (nI k)), (17, .int 0), (16, .int 0), (15, .ref (za z (b + 2))), (14, .ref (za z (b + 1))), (13, .ref (za z (b + 0))), (5, .int (nI (qt X))), (6, .int (nI (qp X))), (7, .int (sumT X 3)), (8, .int (sumT X 4)), (9, .int (sumT X 6)), (10, .int (sumP X 7)), (11, .int (sumT X 7)), (12, .int (qD X)), (3, .int (nI i)), (2, .ref (za z 55)), (1, .ref (za z 0)), (0, .ref a0)] → W p l e room_1 s m ([Value.ref a0] : List Value).toArray below meth c H locs cl sl Q (F0 m 148 ls []) := by
  obtain ⟨hx, hb, hr, hml, hown, hts, hlocks⟩ := id C0
  have hk := hI.ok
  have hk1 := hk.1
  have hk0 := hk.2.1
  intro d
  induction d with
  | zero =>
    intro k hkd f g H locs ls q0 q1 q2 q3 h hl
    have hE : k = qp X := by omega
    subst hE
    refine lv_iload hx hb dL_law_148 (lv_at hl 0 rfl) ?_
    refine lv_iload hx hb dL_law_150 (lv_at hl 7 rfl) ?_
    refine lv_icmp_ge (tgt := 173) hx hb dL_law_152 (by decide) (fun _ => ?_) (fun q9 => absurd (nI_le (a := qp X) (b := (qp X)) (by omega) (by omega)) q9)
    refine lv_iconst (v := 0) hx hb dL_law_173 (by decide) ?_
    refine lv_istore (lv' := [(18, .int 0), (17, .int 0), (16, .int 0), (15, .ref (za z (b + 2))), (14, .ref (za z (b + 1))), (13, .ref (za z (b + 0))), (5, .int (nI (qt X))), (6, .int (nI (qp X))), (7, .int (sumT X 3)), (8, .int (sumT X 4)), (9, .int (sumT X 6)), (10, .int (sumP X 7)), (11, .int (sumT X 7)), (12, .int (qD X)), (3, .int (nI i)), (2, .ref (za z 55)), (1, .ref (za z 0)), (0, .ref a0)]) hx hb dL_law_174 hl (by decide) rfl (fun ls hl => ?_)
    exact kk f g _ _ _ q0 q1 q2 q3 h (lv_sub hl [0, 1, 2, 3, 4, 5, 6, 7, 8, 9, 10, 11, 12, 13, 14, 15, 16, 17] rfl)
  | succ d ih =>
    intro k hkd f g H locs ls q0 q1 q2 q3 h hl
    have hE : k < qp X := by omega
    refine lv_iload hx hb dL_law_148 (lv_at hl 0 rfl) ?_
    refine lv_iload hx hb dL_law_150 (lv_at hl 7 rfl) ?_
    refine lv_icmp_ge (tgt := 173) hx hb dL_law_152 (by decide) (fun q9 => absurd q9 (nI_ge (a := k) (b := qp X) (by omega) (by omega))) (fun _ => ?_)
    refine lv_aload hx hb dL_law_155 (lv_at hl 5 rfl) ?_
    refine lv_iload hx hb dL_law_157 (lv_at hl 0 rfl) ?_
    refine lv_aload_n hx hb dL_law_159 rfl (lv_at hl 16 rfl) ?_
    refine lv_iload hx hb dL_law_160 (lv_at hl 0 rfl) ?_
    refine lv_iconst (v := 4) hx hb dL_law_162 (by decide) ?_
    refine S_callVi C0 hK h (k_pipe hk k (by omega) 4 (by omega)) (cwV 2 hts gL_law_X1_pipe rfl rfl rfl (by decide +kernel) ⟨Nat.le_of_ble_eq_true rfl, Nat.le_of_ble_eq_true rfl⟩) (k := 0) (ci := 1) (by omega) (fun ct hA => hA.1.1) rfl rfl rfl hl.1 (rest := [.int (nI k), .ref (za z (b + 0))]) rfl (Nat.le_of_ble_eq_true rfl) hrm dL_law_163 (fun r u H locs hp h => ?_)
    obtain ⟨er9, hu9⟩ := hp
    rw [hu9] at h
    have er9 : r = qP X k 4 := er9
    subst er9
    refine U_is2 C0 hK h (j := 0) (i := k) (by omega) q0 rfl (by omega) (by omega) dL_law_166 (fun H locs fs1 hfs1 hofs1 h => ?_)
    have hf2 := (hofs1 1 (by omega)).trans q2
    have hf3 := (hofs1 2 (by omega)).trans q3
    refine lv_iinc (v := nI (k + 1)) (lv' := [(18, .int (nI (k + 1))), (17, .int 0), (16, .int 0), (15, .ref (za z (b + 2))), (14, .ref (za z (b + 1))), (13, .ref (za z (b + 0))), (5, .int (nI (qt X))), (6, .int (nI (qp X))), (7, .int (sumT X 3)), (8, .int (sumT X 4)), (9, .int (sumT X 6)), (10, .int (sumP X 7)), (11, .int (sumT X 7)), (12, .int (qD X)), (3, .int (nI i)), (2, .ref (za z 55)), (1, .ref (za z 0)), (0, .ref a0)]) hx hb dL_law_167 hl (k := 0) rfl (q_inc k 1) (by decide) rfl (fun ls hl => ?_)
    refine lv_goto (tgt := 148) hx hb dL_law_170 (by decide) ?_
    exact ih (k + 1) (by omega) fs1 (upd g k (qP X k 4)) _ _ _ hfs1 (upd_low q1 rfl) hf2 hf3 h (lv_sub hl [0, 1, 2, 3, 4, 5, 6, 7, 8, 9, 10, 11, 12, 13, 14, 15, 16, 17] rfl)
