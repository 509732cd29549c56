/-! the law's cases [1, 2] -/
set_option maxHeartbeats 4000000 in
set_option maxRecDepth 100000 in
theorem law_c1 {p : Program} {l : Launch} {e : Env} {s : State} {m : MethodId} {below : List Frame} {meth : Method} {c : Code} {H : Heap} {locs : List Loc} {Q : State → Prop} {ls : Array Slot} {z : QZ} {c0 : Nat → va_E} {b L i : Nat} {xs : Nat → Int32} {σ : Nat → QLs} {S : QLs} {M : QMs} {f : Nat → Int64} (C0 : Cx p s m #[Value.ref b] meth c cL_law 9 ret RL wsL_law) (hlt : l.stackTraces = false) (hK : QK z s) (hT : TZ z s) (hX : va_X b L xs s s.heap) (hbl : b < s.heap.size) (hge : ∀ k, k < zn z → s.heap.size ≤ za z k) (hL : L ≤ 2560) (hi : i + 5 ≤ L) (hR : RR (20 * i) S M) (hZ : ZZ S) (h : GW z (WAt z) 0 60 s.heap c0 (va_up σ 0 S, M, f) H locs) (hl : lv_has ls 9 [(4, .int (nI i)), (3, .ref (za z 59)), (2, .ref (za z 55)), (1, .ref (za z 0)), (0, .ref b)])
    (back : ∀ (σ : Nat → QLs) (S : QLs) (M : QMs) (f : Nat → Int64) (H : Heap) (locs : List Loc) (cells slots : Nat) (ls : Array Slot), RR (20 * i + 100) S M → ZZ S → GW z (WAt z) 0 60 s.heap c0 (va_up σ 0 S, M, f) H locs → lv_has ls 9 [(4, .int (nI i)), (3, .ref (za z 59)), (2, .ref (za z 55)), (1, .ref (za z 0)), (0, .ref b)] → cells ≤ 100 + i + 5 → slots ≤ 2000 + 44 * i + 220 → W p l e room_1 s m #[Value.ref b] below meth c H locs cells slots Q (F0 m 1104 ls [])) :
    W p l e room_1 s m #[Value.ref b] below meth c H locs (100 + i) (2000 + 44 * i) Q (F0 m 200 ls []) := by
  obtain ⟨hx, hb, hr, hml, hown, hts, hlocks⟩ := id C0
  obtain ⟨k9, b9, S2, f2, M2, hH, hM, hk9, hf9, hR2, hZ2⟩ := ag_lay (l := l) (z := z) (σ := σ) (f := f) hlt hR hZ (by omega) (xs (i + 1)) (xs (i + 2)) (xs (i + 3)) (xs (i + 4))
  refine lv_aload_n hx hb dL_law_200 rfl (lv_at hl 3 rfl) ?_
  refine lv_aload_n hx hb dL_law_201 rfl (lv_at hl 4 rfl) ?_
  refine lv_iload hx hb dL_law_202 (lv_at hl 0 rfl) ?_
  refine lv_iconst (v := 1) hx hb dL_law_204 (by decide) ?_
  refine lv_iadd hx hb dL_law_205 ?_
  refine L_sld C0 hX hbl hge h (j := i + 1) (q_add rfl rfl) (by omega) hL dL_law_206 ?_
  refine lv_aload_n hx hb dL_law_207 rfl (lv_at hl 4 rfl) ?_
  refine lv_iload hx hb dL_law_208 (lv_at hl 0 rfl) ?_
  refine lv_iconst (v := 2) hx hb dL_law_210 (by decide) ?_
  refine lv_iadd hx hb dL_law_211 ?_
  refine L_sld C0 hX hbl hge h (j := i + 2) (q_add rfl rfl) (by omega) hL dL_law_212 ?_
  refine lv_aload_n hx hb dL_law_213 rfl (lv_at hl 4 rfl) ?_
  refine lv_iload hx hb dL_law_214 (lv_at hl 0 rfl) ?_
  refine lv_iconst (v := 3) hx hb dL_law_216 (by decide) ?_
  refine lv_iadd hx hb dL_law_217 ?_
  refine L_sld C0 hX hbl hge h (j := i + 3) (q_add rfl rfl) (by omega) hL dL_law_218 ?_
  refine lv_aload_n hx hb dL_law_219 rfl (lv_at hl 4 rfl) ?_
  refine lv_iload hx hb dL_law_220 (lv_at hl 0 rfl) ?_
  refine lv_iconst (v := 4) hx hb dL_law_222 (by decide) ?_
  refine lv_iadd hx hb dL_law_223 ?_
  refine L_sld C0 hX hbl hge h (j := i + 4) (q_add rfl rfl) (by omega) hL dL_law_224 ?_
  refine lv_aload_n hx hb dL_law_225 rfl (lv_at hl 1 rfl) ?_
  refine L_help C0 hK hT h hH (vx_cwSW 6 hts gL_law_L_lay rfl rfl rfl (by decide +kernel) ⟨Nat.le_of_ble_eq_true rfl, Nat.le_of_ble_eq_true rfl⟩) rfl hl.1 (rest := []) rfl (Nat.le_of_ble_eq_true rfl) ⟨by show _ ≤ 601024; omega, by show _ ≤ 7293034; omega⟩ dL_law_226 (fun r1 u H locs hp h => ?_)
  obtain ⟨hr8, σ2, hu8⟩ := hp
  rw [hu8] at h
  rw [hr8]
  refine lv_istore (lv' := [(5, .int k9), (4, .int (nI i)), (3, .ref (za z 59)), (2, .ref (za z 55)), (1, .ref (za z 0)), (0, .ref b)]) hx hb dL_law_229 hl (by decide) rfl (fun ls hl => ?_)
  refine lv_aload_n hx hb dL_law_231 rfl (lv_at hl 3 rfl) ?_
  refine lv_aload_n hx hb dL_law_232 rfl (lv_at hl 5 rfl) ?_
  refine lv_iload hx hb dL_law_233 (lv_at hl 1 rfl) ?_
  refine lv_iconst (v := 1) hx hb dL_law_235 (by decide) ?_
  refine lv_iadd hx hb dL_law_236 ?_
  refine L_sld C0 hX hbl hge h (j := i + 1) (q_add rfl rfl) (by omega) hL dL_law_237 ?_
  refine lv_aload_n hx hb dL_law_238 rfl (lv_at hl 5 rfl) ?_
  refine lv_iload hx hb dL_law_239 (lv_at hl 1 rfl) ?_
  refine lv_iconst (v := 2) hx hb dL_law_241 (by decide) ?_
  refine lv_iadd hx hb dL_law_242 ?_
  refine L_sld C0 hX hbl hge h (j := i + 2) (q_add rfl rfl) (by omega) hL dL_law_243 ?_
  refine lv_aload_n hx hb dL_law_244 rfl (lv_at hl 5 rfl) ?_
  refine lv_iload hx hb dL_law_245 (lv_at hl 1 rfl) ?_
  refine lv_iconst (v := 3) hx hb dL_law_247 (by decide) ?_
  refine lv_iadd hx hb dL_law_248 ?_
  refine L_sld C0 hX hbl hge h (j := i + 3) (q_add rfl rfl) (by omega) hL dL_law_249 ?_
  refine lv_aload_n hx hb dL_law_250 rfl (lv_at hl 5 rfl) ?_
  refine lv_iload hx hb dL_law_251 (lv_at hl 1 rfl) ?_
  refine lv_iconst (v := 4) hx hb dL_law_253 (by decide) ?_
  refine lv_iadd hx hb dL_law_254 ?_
  refine L_sld C0 hX hbl hge h (j := i + 4) (q_add rfl rfl) (by omega) hL dL_law_255 ?_
  refine G_callVi C0 hK h hM (fun _ h => h.2.1) (fun u => ((va_up σ2 0 S2), u, f2)) (fun ct ct2 u hA hX hF => hA.M hX hF) (by decide) (by decide) (cwV 4 hts gL_law_X2_lay rfl rfl rfl (by decide +kernel) ⟨Nat.le_of_ble_eq_true rfl, Nat.le_of_ble_eq_true rfl⟩) (k := 55) (ci := 2) (by omega) (fun ct hA => hA.2.1.1) rfl rfl rfl hl.1 (rest := []) rfl (Nat.le_of_ble_eq_true rfl) ⟨by show _ ≤ 601024; omega, by show _ ≤ 7293034; omega⟩ dL_law_256 (fun r u H locs hp h => ?_)
  obtain ⟨hr9, hu9⟩ := hp
  rw [hu9] at h
  rw [hr9]
  refine lv_istore (lv' := [(6, .int b9), (5, .int k9), (4, .int (nI i)), (3, .ref (za z 59)), (2, .ref (za z 55)), (1, .ref (za z 0)), (0, .ref b)]) hx hb dL_law_259 hl (by decide) rfl (fun ls hl => ?_)
  refine lv_aload_n hx hb dL_law_261 rfl (lv_at hl 4 rfl) ?_
  refine G_callVi C0 hK h (c_X2_thrown l z M2) (fun _ h => h.2.1) (fun u => ((va_up σ2 0 S2), u, f2)) (fun ct ct2 u hA hX hF => hA.M hX hF) (by decide) (by decide) (cwV 0 hts gL_law_X2_thrown rfl rfl rfl (by decide +kernel) ⟨Nat.le_of_ble_eq_true rfl, Nat.le_of_ble_eq_true rfl⟩) (k := 55) (ci := 2) (by omega) (fun ct hA => hA.2.1.1) rfl rfl rfl hl.1 (rest := []) rfl (Nat.le_of_ble_eq_true rfl) ⟨by show _ ≤ 601024; omega, by show _ ≤ 7293034; omega⟩ dL_law_262 (fun r u H locs hp h => ?_)
  obtain ⟨hr9, hu9⟩ := hp
  rw [hu9] at h
  rw [hr9, hk9]
  refine lv_iload hx hb dL_law_265 (lv_at hl 1 rfl) ?_
  refine lv_icmp_eq (tgt := 272) hx hb dL_law_267 (by decide) (fun _ => ?_) (fun q9 => absurd rfl q9)
  refine lv_iload hx hb dL_law_272 (lv_at hl 1 rfl) ?_
  refine lv_if_ne (tgt := 289) hx hb dL_law_274 (by decide) (fun _ => ?_) (fun q9 => ?_)
  · refine lv_goto (tgt := 1104) hx hb dL_law_289 (by decide) ?_
    exact back _ _ _ _ _ _ _ _ _ hR2 hZ2 h (lv_sub hl [2, 3, 4, 5, 6] rfl) (by omega) (by omega)
  · refine lv_aload_n hx hb dL_law_277 rfl (lv_at hl 3 rfl) ?_
    refine lv_iconst (v := 0) hx hb dL_law_278 (by decide) ?_
    refine G_lald C0 hK h (k := 59) (by omega) (fun ct hA => hA.2.2) (j := 0) rfl (by decide) (by decide) dL_law_279 ?_
    refine lv_iload hx hb dL_law_280 (lv_at hl 0 rfl) ?_
    refine lv_i2l hx hb dL_law_282 rfl ?_
    refine W.lcmp hx hb dL_law_283 ?_
    refine lv_if_eq (tgt := 289) hx hb dL_law_284 (by decide) (fun _ => ?_) (fun q8 => absurd (q_lcmp (hf9 q9)) q8)
    refine lv_goto (tgt := 1104) hx hb dL_law_289 (by decide) ?_
    exact back _ _ _ _ _ _ _ _ _ hR2 hZ2 h (lv_sub hl [2, 3, 4, 5, 6] rfl) (by omega) (by omega)
set_option maxHeartbeats 4000000 in
set_option maxRecDepth 100000 in
theorem law_c2 {p : Program} {l : Launch} {e : Env} {s : State} {m : MethodId} {below : List Frame} {meth : Method} {c : Code} {H : Heap} {locs : List Loc} {Q : State → Prop} {ls : Array Slot} {z : QZ} {c0 : Nat → va_E} {b L i : Nat} {xs : Nat → Int32} {σ : Nat → QLs} {S : QLs} {M : QMs} {f : Nat → Int64} (C0 : Cx p s m #[Value.ref b] meth c cL_law 9 ret RL wsL_law) (hlt : l.stackTraces = false) (hK : QK z s) (hT : TZ z s) (hX : va_X b L xs s s.heap) (hbl : b < s.heap.size) (hge : ∀ k, k < zn z → s.heap.size ≤ za z k) (hL : L ≤ 2560) (hi : i + 5 ≤ L) (hR : RR (20 * i) S M) (hZ : ZZ S) (h : GW z (WAt z) 0 60 s.heap c0 (va_up σ 0 S, M, f) H locs) (hl : lv_has ls 9 [(4, .int (nI i)), (3, .ref (za z 59)), (2, .ref (za z 55)), (1, .ref (za z 0)), (0, .ref b)])
    (back : ∀ (σ : Nat → QLs) (S : QLs) (M : QMs) (f : Nat → Int64) (H : Heap) (locs : List Loc) (cells slots : Nat) (ls : Array Slot), RR (20 * i + 100) S M → ZZ S → GW z (WAt z) 0 60 s.heap c0 (va_up σ 0 S, M, f) H locs → lv_has ls 9 [(4, .int (nI i)), (3, .ref (za z 59)), (2, .ref (za z 55)), (1, .ref (za z 0)), (0, .ref b)] → cells ≤ 100 + i + 5 → slots ≤ 2000 + 44 * i + 220 → W p l e room_1 s m #[Value.ref b] below meth c H locs cells slots Q (F0 m 1104 ls [])) :
    W p l e room_1 s m #[Value.ref b] below meth c H locs (100 + i) (2000 + 44 * i) Q (F0 m 292 ls []) := by
  obtain ⟨hx, hb, hr, hml, hown, hts, hlocks⟩ := id C0
  obtain ⟨k9, b9, S2, f2, M2, hH, hM, hk9, hf9, hR2, hZ2⟩ := ag_set (l := l) (z := z) (σ := σ) (f := f) hlt hR hZ (by omega) (xs (i + 1)) (xs (i + 2)) (xs (i + 3))
  refine lv_aload_n hx hb dL_law_292 rfl (lv_at hl 3 rfl) ?_
  refine lv_aload_n hx hb dL_law_293 rfl (lv_at hl 4 rfl) ?_
  refine lv_iload hx hb dL_law_294 (lv_at hl 0 rfl) ?_
  refine lv_iconst (v := 1) hx hb dL_law_296 (by decide) ?_
  refine lv_iadd hx hb dL_law_297 ?_
  refine L_sld C0 hX hbl hge h (j := i + 1) (q_add rfl rfl) (by omega) hL dL_law_298 ?_
  refine lv_aload_n hx hb dL_law_299 rfl (lv_at hl 4 rfl) ?_
  refine lv_iload hx hb dL_law_300 (lv_at hl 0 rfl) ?_
  refine lv_iconst (v := 2) hx hb dL_law_302 (by decide) ?_
  refine lv_iadd hx hb dL_law_303 ?_
  refine L_sld C0 hX hbl hge h (j := i + 2) (q_add rfl rfl) (by omega) hL dL_law_304 ?_
  refine lv_aload_n hx hb dL_law_305 rfl (lv_at hl 4 rfl) ?_
  refine lv_iload hx hb dL_law_306 (lv_at hl 0 rfl) ?_
  refine lv_iconst (v := 3) hx hb dL_law_308 (by decide) ?_
  refine lv_iadd hx hb dL_law_309 ?_
  refine L_sld C0 hX hbl hge h (j := i + 3) (q_add rfl rfl) (by omega) hL dL_law_310 ?_
  refine lv_aload_n hx hb dL_law_311 rfl (lv_at hl 1 rfl) ?_
  refine L_help C0 hK hT h hH (vx_cwSW 5 hts gL_law_L_set rfl rfl rfl (by decide +kernel) ⟨Nat.le_of_ble_eq_true rfl, Nat.le_of_ble_eq_true rfl⟩) rfl hl.1 (rest := []) rfl (Nat.le_of_ble_eq_true rfl) ⟨by show _ ≤ 601024; omega, by show _ ≤ 7293034; omega⟩ dL_law_312 (fun r1 u H locs hp h => ?_)
  obtain ⟨hr8, σ2, hu8⟩ := hp
  rw [hu8] at h
  rw [hr8]
  refine lv_istore (lv' := [(5, .int k9), (4, .int (nI i)), (3, .ref (za z 59)), (2, .ref (za z 55)), (1, .ref (za z 0)), (0, .ref b)]) hx hb dL_law_315 hl (by decide) rfl (fun ls hl => ?_)
  refine lv_aload_n hx hb dL_law_317 rfl (lv_at hl 3 rfl) ?_
  refine lv_aload_n hx hb dL_law_318 rfl (lv_at hl 5 rfl) ?_
  refine lv_iload hx hb dL_law_319 (lv_at hl 1 rfl) ?_
  refine lv_iconst (v := 1) hx hb dL_law_321 (by decide) ?_
  refine lv_iadd hx hb dL_law_322 ?_
  refine L_sld C0 hX hbl hge h (j := i + 1) (q_add rfl rfl) (by omega) hL dL_law_323 ?_
  refine lv_aload_n hx hb dL_law_324 rfl (lv_at hl 5 rfl) ?_
  refine lv_iload hx hb dL_law_325 (lv_at hl 1 rfl) ?_
  refine lv_iconst (v := 2) hx hb dL_law_327 (by decide) ?_
  refine lv_iadd hx hb dL_law_328 ?_
  refine L_sld C0 hX hbl hge h (j := i + 2) (q_add rfl rfl) (by omega) hL dL_law_329 ?_
  refine lv_aload_n hx hb dL_law_330 rfl (lv_at hl 5 rfl) ?_
  refine lv_iload hx hb dL_law_331 (lv_at hl 1 rfl) ?_
  refine lv_iconst (v := 3) hx hb dL_law_333 (by decide) ?_
  refine lv_iadd hx hb dL_law_334 ?_
  refine L_sld C0 hX hbl hge h (j := i + 3) (q_add rfl rfl) (by omega) hL dL_law_335 ?_
  refine G_callVi C0 hK h hM (fun _ h => h.2.1) (fun u => ((va_up σ2 0 S2), u, f2)) (fun ct ct2 u hA hX hF => hA.M hX hF) (by decide) (by decide) (cwV 3 hts gL_law_X2_set rfl rfl rfl (by decide +kernel) ⟨Nat.le_of_ble_eq_true rfl, Nat.le_of_ble_eq_true rfl⟩) (k := 55) (ci := 2) (by omega) (fun ct hA => hA.2.1.1) rfl rfl rfl hl.1 (rest := []) rfl (Nat.le_of_ble_eq_true rfl) ⟨by show _ ≤ 601024; omega, by show _ ≤ 7293034; omega⟩ dL_law_336 (fun r u H locs hp h => ?_)
  obtain ⟨hr9, hu9⟩ := hp
  rw [hu9] at h
  rw [hr9]
  refine lv_istore (lv' := [(6, .int b9), (5, .int k9), (4, .int (nI i)), (3, .ref (za z 59)), (2, .ref (za z 55)), (1, .ref (za z 0)), (0, .ref b)]) hx hb dL_law_339 hl (by decide) rfl (fun ls hl => ?_)
  refine lv_aload_n hx hb dL_law_341 rfl (lv_at hl 4 rfl) ?_
  refine G_callVi C0 hK h (c_X2_thrown l z M2) (fun _ h => h.2.1) (fun u => ((va_up σ2 0 S2), u, f2)) (fun ct ct2 u hA hX hF => hA.M hX hF) (by decide) (by decide) (cwV 0 hts gL_law_X2_thrown rfl rfl rfl (by decide +kernel) ⟨Nat.le_of_ble_eq_true rfl, Nat.le_of_ble_eq_true rfl⟩) (k := 55) (ci := 2) (by omega) (fun ct hA => hA.2.1.1) rfl rfl rfl hl.1 (rest := []) rfl (Nat.le_of_ble_eq_true rfl) ⟨by show _ ≤ 601024; omega, by show _ ≤ 7293034; omega⟩ dL_law_342 (fun r u H locs hp h => ?_)
  obtain ⟨hr9, hu9⟩ := hp
  rw [hu9] at h
  rw [hr9, hk9]
  refine lv_iload hx hb dL_law_345 (lv_at hl 1 rfl) ?_
  refine lv_icmp_eq (tgt := 352) hx hb dL_law_347 (by decide) (fun _ => ?_) (fun q9 => absurd rfl q9)
  refine lv_iload hx hb dL_law_352 (lv_at hl 1 rfl) ?_
  refine lv_if_ne (tgt := 369) hx hb dL_law_354 (by decide) (fun _ => ?_) (fun q9 => ?_)
  · refine lv_goto (tgt := 1104) hx hb dL_law_369 (by decide) ?_
    exact back _ _ _ _ _ _ _ _ _ hR2 hZ2 h (lv_sub hl [2, 3, 4, 5, 6] rfl) (by omega) (by omega)
  · refine lv_aload_n hx hb dL_law_357 rfl (lv_at hl 3 rfl) ?_
    refine lv_iconst (v := 0) hx hb dL_law_358 (by decide) ?_
    refine G_lald C0 hK h (k := 59) (by omega) (fun ct hA => hA.2.2) (j := 0) rfl (by decide) (by decide) dL_law_359 ?_
    refine lv_iload hx hb dL_law_360 (lv_at hl 0 rfl) ?_
    refine lv_i2l hx hb dL_law_362 rfl ?_
    refine W.lcmp hx hb dL_law_363 ?_
    refine lv_if_eq (tgt := 369) hx hb dL_law_364 (by decide) (fun _ => ?_) (fun q8 => absurd (q_lcmp (hf9 q9)) q8)
    refine lv_goto (tgt := 1104) hx hb dL_law_369 (by decide) ?_
    exact back _ _ _ _ _ _ _ _ _ hR2 hZ2 h (lv_sub hl [2, 3, 4, 5, 6] rfl) (by omega) (by omega)
