/-! PART 85: the law, what is drunk, brought, sated -/
set_option maxHeartbeats 8000000 in
set_option maxRecDepth 100000 in
theorem law_B2 {p : Program} {l : Launch} {e : Env} {s : State} {m : MethodId} {below : List Frame} {meth : Method} {c : Code} {Q : State → Prop} {a0 i cl sl : Nat} {z : QZ} {ix : Nat → Nat} {b : Nat} {c1 : Nat → va_E} {X : QLs} (C0 : Cx p s m ([Value.ref a0] : List Value).toArray meth c cL_law 32 (some .boolean) RL wsL_law) (hK : QK z s) (hrm : cl ≤ room_1.cells ∧ sl ≤ room_1.slots) (hI : Inv i X) (hi : i < 40) (hb9 : 56 ≤ b) {g : Nat → Int32} (kk : ∀ (Y : QLs) (f : Nat → Nat × (Nat → Int32)) (g1 : Nat → Int32) (g2 : Nat → Int32) (H : Heap) (locs : List Loc) (ls : Array Slot), f 0 = (qp X, g) → f 1 = (qt X, g1) → f 2 = (qt X, g2) → (∀ j, j < qt X → g1 j = qT X j 6) → (nI i - nI i / 5 * 5 = 0 → ∀ j, j < qt X → g2 j = sat X j) → GW z (UAt z ix (qt X) (qp X) b 3) 0 (b + 3) s.heap c1 (X, Y, X, f) H locs → lv_has ls 32 [(17, .int (qsum (fun j => qT X j 1 / 4) (qt X))), (16, .int (qsum (fun j => qT X j 1) (qt X))), (15, .ref (za z (b + 2))), (14, .ref (za z (b + 1))), (13, .ref (za z (b + 0))), (5, .int (nI (qt X))), (6, .int (nI (qp X))), (7, .int (sumT X 3)), (8, .int (sumT X 4)), (9, .int (sumT X 6)), (10, .int (sumP X 7)), (11, .int (sumT X 7)), (12, .int (qD X)), (3, .int (nI i)), (2, .ref (za z 55)), (1, .ref (za z 0)), (0, .ref a0)] → W p l e room_1 s m ([Value.ref a0] : List Value).toArray below meth c H locs cl sl Q (F0 m 249 ls [])) : ∀ (d k : Nat), k + d = qt X → ∀ (Y : QLs) (f : Nat → Nat × (Nat → Int32)) (g1 : Nat → Int32) (g2 : Nat → Int32) (H : Heap) (locs : List Loc) (ls : Array Slot), f 0 = (qp X, g) → f 1 = (qt X, g1) → f 2 = (qt X, g2) → (∀ j, j < k → g1 j = qT X j 6) → (nI i - nI i / 5 * 5 = 0 → ∀ j, j < k → g2 j = sat X j) → GW z (UAt z ix (qt X) (qp X) b 3) 0 (b + 3) s.heap c1 (X, Y, X, f) H locs → lv_has ls 32 [(18, .int (nI k)), (17, .int (qsum (fun j => qT X j 1 / 4) k)), (16, .int (qsum (fun j => qT X j 1) k)), (15, .ref (za z (b + 2))), (14, .ref (za z (b + 1))), (13, .ref (za z (b + 0))), (5, .int (nI (qt X))), (6, .int (nI (qp X))), (7, .int (sumT X 3)), (8, .int (sumT X 4)), (9, .int (sumT X 6)), (10, .int (sumP X 7)), (11, .int (sumT X 7)), (12, .int (qD X)), (3, .int (nI i)), (2, .ref (za z 55)), (1, .ref (za z 0)), (0, .ref a0)] → W p l e room_1 s m ([Value.ref a0] : List Value).toArray below meth c H locs cl sl Q (F0 m 176 ls []) := by
  obtain ⟨hx, hb, hr, hml, hown, hts, hlocks⟩ := id C0
  have hk := hI.ok
  have hk1 := hk.1
  have hk0 := hk.2.1
  intro d
  induction d with
  | zero =>
    intro k hkd Y f g1 g2 H locs ls q0 q1 q2 q3 q4 h hl
    have hE : k = qt X := by omega
    subst hE
    refine lv_iload hx hb dL_law_176 (lv_at hl 0 rfl) ?_
    refine lv_iload hx hb dL_law_178 (lv_at hl 6 rfl) ?_
    refine lv_icmp_ge (tgt := 249) hx hb dL_law_180 (by decide) (fun _ => ?_) (fun q9 => absurd (nI_le (a := qt X) (b := (qt X)) (by omega) (by omega)) q9)
    exact kk Y f g1 g2 _ _ _ q0 q1 q2 q3 q4 h (lv_sub hl [1, 2, 3, 4, 5, 6, 7, 8, 9, 10, 11, 12, 13, 14, 15, 16, 17] rfl)
  | succ d ih =>
    intro k hkd Y f g1 g2 H locs ls q0 q1 q2 q3 q4 h hl
    have hE : k < qt X := by omega
    refine lv_iload hx hb dL_law_176 (lv_at hl 0 rfl) ?_
    refine lv_iload hx hb dL_law_178 (lv_at hl 6 rfl) ?_
    refine lv_icmp_ge (tgt := 249) hx hb dL_law_180 (by decide) (fun q9 => absurd q9 (nI_ge (a := k) (b := qt X) (by omega) (by omega))) (fun _ => ?_)
    refine lv_aload hx hb dL_law_183 (lv_at hl 4 rfl) ?_
    refine lv_iload hx hb dL_law_185 (lv_at hl 0 rfl) ?_
    refine lv_aload_n hx hb dL_law_187 rfl (lv_at hl 16 rfl) ?_
    refine lv_iload hx hb dL_law_188 (lv_at hl 0 rfl) ?_
    refine lv_bipush (v := 6) hx hb dL_law_190 (by decide) ?_
    refine S_callVi C0 hK h (k_tank hk k (by omega) 6 (by omega)) (cwV 2 hts gL_law_X1_tank rfl rfl rfl (by decide +kernel) ⟨Nat.le_of_ble_eq_true rfl, Nat.le_of_ble_eq_true rfl⟩) (k := 0) (ci := 1) (by omega) (fun ct hA => hA.1.1) rfl rfl rfl hl.1 (rest := [.int (nI k), .ref (za z (b + 1))]) rfl (Nat.le_of_ble_eq_true rfl) hrm dL_law_192 (fun r u H locs hp h => ?_)
    obtain ⟨er9, hu9⟩ := hp
    rw [hu9] at h
    have er9 : r = qT X k 6 := er9
    subst er9
    refine U_is2 C0 hK h (j := 1) (i := k) (by omega) q1 rfl (by omega) (by omega) dL_law_195 (fun H locs fs1 hfs1 hofs1 h => ?_)
    have hf2 := (hofs1 0 (by omega)).trans q0
    have hf3 := (hofs1 2 (by omega)).trans q2
    refine lv_iload hx hb dL_law_196 (lv_at hl 2 rfl) ?_
    refine lv_aload_n hx hb dL_law_198 rfl (lv_at hl 16 rfl) ?_
    refine lv_iload hx hb dL_law_199 (lv_at hl 0 rfl) ?_
    refine lv_iconst (v := 1) hx hb dL_law_201 (by decide) ?_
    refine S_callVi C0 hK h (k_tank hk k (by omega) 1 (by omega)) (cwV 2 hts gL_law_X1_tank rfl rfl rfl (by decide +kernel) ⟨Nat.le_of_ble_eq_true rfl, Nat.le_of_ble_eq_true rfl⟩) (k := 0) (ci := 1) (by omega) (fun ct hA => hA.1.1) rfl rfl rfl hl.1 (rest := [.int (qsum (fun j => qT X j 1) k)]) rfl (Nat.le_of_ble_eq_true rfl) hrm dL_law_202 (fun r u H locs hp h => ?_)
    obtain ⟨er9, hu9⟩ := hp
    rw [hu9] at h
    have er9 : r = qT X k 1 := er9
    subst er9
    refine lv_iadd hx hb dL_law_205 ?_
    refine lv_istore (lv' := [(16, .int ((qsum (fun j => qT X j 1) k) + (qT X k 1))), (18, .int (nI k)), (17, .int (qsum (fun j => qT X j 1 / 4) k)), (15, .ref (za z (b + 2))), (14, .ref (za z (b + 1))), (13, .ref (za z (b + 0))), (5, .int (nI (qt X))), (6, .int (nI (qp X))), (7, .int (sumT X 3)), (8, .int (sumT X 4)), (9, .int (sumT X 6)), (10, .int (sumP X 7)), (11, .int (sumT X 7)), (12, .int (qD X)), (3, .int (nI i)), (2, .ref (za z 55)), (1, .ref (za z 0)), (0, .ref a0)]) hx hb dL_law_206 hl (by decide) rfl (fun ls hl => ?_)
    refine lv_iload hx hb dL_law_208 (lv_at hl 2 rfl) ?_
    refine lv_aload_n hx hb dL_law_210 rfl (lv_at hl 16 rfl) ?_
    refine lv_iload hx hb dL_law_211 (lv_at hl 1 rfl) ?_
    refine lv_iconst (v := 1) hx hb dL_law_213 (by decide) ?_
    refine S_callVi C0 hK h (k_tank hk k (by omega) 1 (by omega)) (cwV 2 hts gL_law_X1_tank rfl rfl rfl (by decide +kernel) ⟨Nat.le_of_ble_eq_true rfl, Nat.le_of_ble_eq_true rfl⟩) (k := 0) (ci := 1) (by omega) (fun ct hA => hA.1.1) rfl rfl rfl hl.1 (rest := [.int (qsum (fun j => qT X j 1 / 4) k)]) rfl (Nat.le_of_ble_eq_true rfl) hrm dL_law_214 (fun r u H locs hp h => ?_)
    obtain ⟨er9, hu9⟩ := hp
    rw [hu9] at h
    have er9 : r = qT X k 1 := er9
    subst er9
    refine lv_iconst (v := 4) hx hb dL_law_217 (by decide) ?_
    refine lv_idiv hx hb dL_law_218 (by decide) ?_
    refine lv_iadd hx hb dL_law_219 ?_
    refine lv_istore (lv' := [(17, .int ((qsum (fun j => qT X j 1 / 4) k) + ((qT X k 1) / 4))), (16, .int ((qsum (fun j => qT X j 1) k) + (qT X k 1))), (18, .int (nI k)), (15, .ref (za z (b + 2))), (14, .ref (za z (b + 1))), (13, .ref (za z (b + 0))), (5, .int (nI (qt X))), (6, .int (nI (qp X))), (7, .int (sumT X 3)), (8, .int (sumT X 4)), (9, .int (sumT X 6)), (10, .int (sumP X 7)), (11, .int (sumT X 7)), (12, .int (qD X)), (3, .int (nI i)), (2, .ref (za z 55)), (1, .ref (za z 0)), (0, .ref a0)]) hx hb dL_law_220 hl (by decide) rfl (fun ls hl => ?_)
    refine lv_aload hx hb dL_law_222 (lv_at hl 3 rfl) ?_
    refine lv_iload hx hb dL_law_224 (lv_at hl 2 rfl) ?_
    refine lv_iload_n hx hb dL_law_226 rfl (lv_at hl 14 rfl) ?_
    refine lv_iconst (v := 5) hx hb dL_law_227 (by decide) ?_
    refine lv_irem hx hb dL_law_228 (by decide) ?_
    refine lv_if_ne (tgt := 241) hx hb dL_law_229 (by decide) (fun c_229 => ?_) (fun c_229 => ?_)
    · refine lv_iconst (v := 0) hx hb dL_law_241 (by decide) ?_
      refine U_is2 C0 hK h (j := 2) (i := k) (by omega) hf3 rfl (by omega) (by omega) dL_law_242 (fun H locs fs4 hfs4 hofs4 h => ?_)
      have hf5 := (hofs4 0 (by omega)).trans hf2
      have hf6 := (hofs4 1 (by omega)).trans hfs1
      refine lv_iinc (v := nI (k + 1)) (lv' := [(18, .int (nI (k + 1))), (17, .int ((qsum (fun j => qT X j 1 / 4) k) + ((qT X k 1) / 4))), (16, .int ((qsum (fun j => qT X j 1) k) + (qT X k 1))), (15, .ref (za z (b + 2))), (14, .ref (za z (b + 1))), (13, .ref (za z (b + 0))), (5, .int (nI (qt X))), (6, .int (nI (qp X))), (7, .int (sumT X 3)), (8, .int (sumT X 4)), (9, .int (sumT X 6)), (10, .int (sumP X 7)), (11, .int (sumT X 7)), (12, .int (qD X)), (3, .int (nI i)), (2, .ref (za z 55)), (1, .ref (za z 0)), (0, .ref a0)]) hx hb dL_law_243 hl (k := 2) rfl (q_inc k 1) (by decide) rfl (fun ls hl => ?_)
      refine lv_goto (tgt := 176) hx hb dL_law_246 (by decide) ?_
      exact ih (k + 1) (by omega) Y fs4 (upd g1 k (qT X k 6)) (upd g2 k 0) _ _ _ hf5 hf6 hfs4 (upd_low q3 rfl) (fun q9 => absurd q9 c_229) h (lv_sub hl [0, 1, 2, 3, 4, 5, 6, 7, 8, 9, 10, 11, 12, 13, 14, 15, 16, 17] rfl)
    · refine lv_aload_n hx hb dL_law_232 rfl (lv_at hl 16 rfl) ?_
      refine lv_iload hx hb dL_law_233 (lv_at hl 2 rfl) ?_
      refine S_callVi C0 hK h (k_sated hk k (by omega)) (cwV 1 hts gL_law_X1_sated rfl rfl rfl (by decide +kernel) ⟨Nat.le_of_ble_eq_true rfl, Nat.le_of_ble_eq_true rfl⟩) (k := 0) (ci := 1) (by omega) (fun ct hA => hA.1.1) rfl rfl rfl hl.1 (rest := [.int (nI k), .ref (za z (b + 2))]) rfl (Nat.le_of_ble_eq_true rfl) hrm dL_law_235 (fun r u H locs hp h => ?_)
      obtain ⟨er9, Y7, hu9⟩ := hp
      rw [hu9] at h
      have er9 : r = sat X k := er9.trans (sat_eq hI (by omega) (by omega))
      subst er9
      refine lv_goto (tgt := 242) hx hb dL_law_238 (by decide) ?_
      refine U_is2 C0 hK h (j := 2) (i := k) (by omega) hf3 rfl (by omega) (by omega) dL_law_242 (fun H locs fs8 hfs8 hofs8 h => ?_)
      have hf9 := (hofs8 0 (by omega)).trans hf2
      have hf10 := (hofs8 1 (by omega)).trans hfs1
      refine lv_iinc (v := nI (k + 1)) (lv' := [(18, .int (nI (k + 1))), (17, .int ((qsum (fun j => qT X j 1 / 4) k) + ((qT X k 1) / 4))), (16, .int ((qsum (fun j => qT X j 1) k) + (qT X k 1))), (15, .ref (za z (b + 2))), (14, .ref (za z (b + 1))), (13, .ref (za z (b + 0))), (5, .int (nI (qt X))), (6, .int (nI (qp X))), (7, .int (sumT X 3)), (8, .int (sumT X 4)), (9, .int (sumT X 6)), (10, .int (sumP X 7)), (11, .int (sumT X 7)), (12, .int (qD X)), (3, .int (nI i)), (2, .ref (za z 55)), (1, .ref (za z 0)), (0, .ref a0)]) hx hb dL_law_243 hl (k := 2) rfl (q_inc k 1) (by decide) rfl (fun ls hl => ?_)
      refine lv_goto (tgt := 176) hx hb dL_law_246 (by decide) ?_
      exact ih (k + 1) (by omega) Y7 fs8 (upd g1 k (qT X k 6)) (upd g2 k (sat X k)) _ _ _ hf9 hf10 hfs8 (upd_low q3 rfl) (fun q9 => upd_low (q4 q9) rfl) h (lv_sub hl [0, 1, 2, 3, 4, 5, 6, 7, 8, 9, 10, 11, 12, 13, 14, 15, 16, 17] rfl)
