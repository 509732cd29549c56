/-! PART 75: the land that the script chooses -/
abbrev RMbuild : Room := { frames := 4, cells := 51, slots := 579, locals := 140 }
set_option maxHeartbeats 4000000 in
set_option maxRecDepth 100000 in
theorem c_L_build {l : Launch} {z : QZ} {a0 L : Nat} {xs : Nat → Int32} (hL : L ≤ 260) (hz : zn z = 55) (f : Nat → Nat × (Nat → Int32)) (ct : Nat → va_E) (sz : Nat) (hq9 : qI (zn z) (za z)) (hat : XAt z (pr S00 S00) ct) (hnA : ¬ qA (zn z) (za z) sz a0) : Met l yL_build wsL_build RMbuild (va_Pc [.ref (za z 0), .ref a0] (fun U => QPre z ct sz U ∧ va_X a0 L xs U U.heap ∧ a0 < U.heap.size)) (va_Qr (fun v9 : QZ × (Nat → Nat) × US => XZ sz z v9.1 ∧ ∃ X2 Y2, v9.2.2 = ((X2, Y2, X2, f) : US) ∧ Inv 0 X2) (fun v9 ra t => UEnd v9 t ∧ ra = za v9.1 55) (qA (zn z) (za z) sz)) 51 579 (qA (zn z) (za z) sz) := by
  refine Met.ofW (cc := cL_build) (maxL := 4) (ret := (some (.object "AqueductTanksLaw$Sim"))) (by decide) rfl ?_
  intro p e s m args below meth c s₁ B hml hv
  obtain ⟨rfl, ⟨hsz, hP, hK⟩, hX, hbl⟩ := hv
  have C0 : Cx p s m (([Value.ref (za z 0), .ref a0] : List Value).toArray) meth c cL_build 4 (some (.object "AqueductTanksLaw$Sim")) yL_build.cls wsL_build := ⟨B.exec, B.bytes, B.returns, hml, findClass_of_methodNamed B.named, atoms_spec (ws := wsL_build) B.pre, B.notSynchronized⟩
  obtain ⟨hx, hb, hr, hml, hown, hts, hlocks⟩ := id C0
  subst hsz
  have hl := lv_entry ([Value.ref (za z 0), .ref a0] : List Value) (n := 4) (Nat.le_of_ble_eq_true rfl)
  rw [lg_entry_eq]
  generalize (lg_sl ([Value.ref (za z 0), .ref a0] : List Value) ++ List.replicate (4 - (lg_sl ([Value.ref (za z 0), .ref a0] : List Value)).length) Slot.unset).toArray = ls at hl ⊢
  have hl : lv_has ls 4 [(0, .ref (za z 0)), (1, .ref a0)] := hl
  have hD : va_D (qA (zn z) (za z) s.heap.size) (wd (zn z) (za z) ct) := wd_DA hq9
  have hS : va_S (qA (zn z) (za z) s.heap.size) s.heap s.heap [] := va_S.rf
  have hA : ∀ q : Nat, s.heap.size ≤ q → qA (zn z) (za z) s.heap.size q := fun q h => qA_new h
  have hin3 : ∀ w ∈ u_ws RX3 TX3 3, w ∈ wsL_build := by decide +kernel
  refine va_new (ci := 3) (fs := [.null, .null, .int 0]) (C := RX3) (T := TX3) (N := 3) hx hb hts hin3 tyX3 tyX3_ok hown (hts (.classLink RL 10 RX3) (by decide +kernel)) (hts (.instantiable RX3 3) (by decide +kernel)) (hts (.initialized RX3) (by decide +kernel)) hK.1 hP hD hS hA rfl (fun j hj => by rcases (show j = 0 ∨ j = 1 ∨ j = 2 by omega) with rfl | rfl | rfl <;> rfl) (Nat.le_of_ble_eq_true rfl) (Nat.le_of_ble_eq_true rfl) dL_build_0 (fun d H hP hD hS => ?_)
  refine lv_dup hx hb dL_build_3 rfl ?_
  refine va_callv (va_runIN (As := []) (rest := [.ref d]) ⟨hx, hb, hml, hown, hts⟩ (c_X3_init l z _ (wd (zn z) (za z) ct).length d H.size snoc_get) ⟨va_cnB 0 hts gL_build_X3_init_n77 rfl rfl rfl hK.2.2.2.2.2.2 (hts (.initialized RX3) (by decide +kernel)) (by decide +kernel) ⟨Nat.le_of_ble_eq_true rfl, Nat.le_of_ble_eq_true rfl⟩, rfl, hts (.instanceMethod yX3_init) (by decide +kernel)⟩ ⟨preN_blind, fun U hU hW => ⟨rfl, by rw [hU], by rw [hU]; exact hP, QK.warm hW hK, hD.weaken (fun _ _ _ _ => trivial)⟩⟩ rfl rfl hl.1 rfl (lv_room (Nat.le_of_ble_eq_true rfl)) dL_build_4 ⟨Nat.le_of_ble_eq_true rfl, Nat.le_of_ble_eq_true rfl⟩) hS (fun q _ h => vaA_sub hD hS hA q h) (vaA_sub hD hS hA) (fun r9 t H locs ht hvm h5 hB hz1 hk1 hS1 => ?_)
  obtain ⟨hP1, hD1⟩ := hB
  rw [ht] at hP1
  have hD1 := hD1.weaken (B := qA (zn z) (za z) s.heap.size) (fun _ q _ h => vaA_sub hD hS hA q.1 h)
  have eW : w2X3 z (wd (zn z) (za z) ct ++ [(d, (.inr (3, [.null, .null, .int 0]) : va_E))]) (wd (zn z) (za z) ct).length d r9 = wd (zn z) (za z) ct ++ [(d, (.inr (3, [.ref r9.1, .ref r9.2, .int 0]) : va_E)), (r9.1, .inl (zA z, 0, .inr (.inr (.inr (.inr (fun _ => none)))))), (r9.2, .inl (zB z, 0, .inr (.inr (.inr (.inr (fun _ => none))))))] := by
    unfold w2X3; rw [List.set_append_right _ _ (Nat.le_refl _), Nat.sub_self, List.append_assoc]; rfl
  rw [eW] at hP1 hD1
  obtain ⟨z2, ct2, hX1, hn2, hP2, g4, g5⟩ := grow_list _ z ct hP1 hD1 hq9
  have hn2 : zn z2 = 58 := by rw [hn2, hz]; rfl
  obtain ⟨ed, hU⟩ := sim_new (f := f) hz hX1 hn2 hat g4 g5
  have h : GN z2 (fun a => 56 + a) s.heap ct2 (S00, S00, S00, f) H locs := ⟨ct2, hP2, vaS_iff (hX1.A (Nat.le_refl _)) hS1, by rw [hn2]; exact hU, Fr.rf, Nat.le_refl _, hX1.2.2.2.2⟩
  have hK2 : QK z2 s := hK.zx hX1
  refine lv_astore_n (lv' := [(2, .ref d), (0, .ref (za z 0)), (1, .ref a0)]) hx hb dL_build_7 rfl hl (by decide) rfl (fun ls hl => ?_)
  rw [← ed, ← hX1.2.2.1 0 (by omega)] at hl
  refine lv_iconst (v := 0) hx hb dL_build_8 (by decide) ?_
  refine lv_istore_n (lv' := [(3, .int 0), (2, .ref (za z2 55)), (0, .ref (za z2 0)), (1, .ref a0)]) hx hb dL_build_9 rfl hl (by decide) rfl (fun ls hl => ?_)
  have L10 : ∀ (d k : Nat), k + d = 24 → ∀ (z2 : QZ) (ix2 : Nat → Nat) (X Y : QLs) (c2 : Nat → va_E) (H : Heap) (locs : List Loc) (ls : Array Slot), XZ s.heap.size z z2 → QK z2 s → Inv 0 X → GN z2 ix2 s.heap c2 (X, Y, X, f) H locs → lv_has ls 4 [(3, .int (nI k)), (2, .ref (za z2 55)), (0, .ref (za z2 0)), (1, .ref a0)] → W p l e RMbuild s m ([Value.ref (za z 0), .ref a0] : List Value).toArray below meth c H locs (3 + 2 * k) (3 + 24 * k) (MQ below (va_Qr (fun v9 : QZ × (Nat → Nat) × US => XZ s.heap.size z v9.1 ∧ ∃ X2 Y2, v9.2.2 = ((X2, Y2, X2, f) : US) ∧ Inv 0 X2) (fun v9 ra t => UEnd v9 t ∧ ra = za v9.1 55) (qA (zn z) (za z) s.heap.size)) ([Value.ref (za z 0), .ref a0] : List Value).toArray s 51 579 (qA (zn z) (za z) s.heap.size)) (F0 m 10 ls []) := by
    intro d
    induction d with
    | zero =>
      intro k hk z2 ix2 X Y c2 H locs ls hXz hK hI h hl
      have hE : k = 24 := by omega
      subst hE
      refine lv_iload_n hx hb dL_build_10 rfl (lv_at hl 0 rfl) ?_
      refine lv_bipush (v := 24) hx hb dL_build_11 (by decide) ?_
      refine lv_icmp_ge (tgt := 79) hx hb dL_build_13 (by decide) (fun _ => ?_) (fun q9 => absurd (nI_le (Nat.le_refl _) (by decide)) q9)
      refine lv_aload_n hx hb dL_build_79 rfl (lv_at hl 1 rfl) ?_
      have hS : va_S (qA (zn z) (za z) s.heap.size) s.heap H locs := by obtain ⟨ct9, hP9, hS9, -⟩ := h; exact vaS_iff (fun x => (hXz.A (Nat.le_refl _) x).symm) hS9
      refine W.widen (k := 51) (n := 579) (by omega) (by omega) ?_
      exact W.aret hx hb hr (Or.inl ⟨_, rfl⟩) (Or.inr ⟨_, rfl⟩) (fun t ht hW => ⟨⟨(z2, ix2, (X, Y, X, f)), za z2 55, rfl, ⟨hXz, X, Y, rfl, hI⟩, (N_end hK hXz h ht hW).1, rfl⟩, hS.F ht⟩) hS.2.2 dL_build_80 hlocks
    | succ d ih =>
      intro k hk z2 ix2 X Y c2 H locs ls hXz hK hI h hl
      have hE : k < 24 := by omega
      have hn55 := hXz.2.1
      refine lv_iload_n hx hb dL_build_10 rfl (lv_at hl 0 rfl) ?_
      refine lv_bipush (v := 24) hx hb dL_build_11 (by decide) ?_
      refine lv_icmp_ge (tgt := 79) hx hb dL_build_13 (by decide) (fun q9 => absurd q9 (nI_ge hE (show 24 < 2 ^ 31 by decide))) (fun _ => ?_)
      have hnA2 : ¬ qA (zn z2) (za z2) s.heap.size a0 := fun q => hnA ((hXz.A (Nat.le_refl _) _).mp q)
      have hn56 : 56 ≤ zn z2 := (gw_ix h).1.1.2.2
      refine lv_aload_n hx hb dL_build_16 rfl (lv_at hl 2 rfl) ?_
      refine lv_aload_n hx hb dL_build_17 rfl (lv_at hl 1 rfl) ?_
      refine lv_aload_n hx hb dL_build_18 rfl (lv_at hl 3 rfl) ?_
      refine lv_iload_n hx hb dL_build_19 rfl (lv_at hl 0 rfl) ?_
      refine lv_bipush (v := 12) hx hb dL_build_20 (by decide) ?_
      refine lv_irem hx hb dL_build_22 (by decide) ?_
      refine lv_topi (fun y9 ey9 => ?_)
      have ey9 : y9 = nI (k % 12) := ey9.trans (rem_nn (n := 12) (by omega) (by decide) (by decide))
      subst ey9
      have hk12 : k % 12 < 12 := Nat.mod_lt _ (by decide)
      refine cell_call (k := k % 12) C0 hX hbl hnA2 h hL (by omega) (va_cwS 2 hts gL_build_L_cell rfl rfl rfl (by decide +kernel) ⟨Nat.le_of_ble_eq_true rfl, Nat.le_of_ble_eq_true rfl⟩) hl.1 (Nat.le_of_ble_eq_true rfl) ⟨by show 3 + 2 * k + 0 ≤ 51; omega, by show 3 + 24 * k + 0 ≤ 579; omega⟩ dL_build_23 (fun r9 H locs h => ?_)
      refine lv_iload_n hx hb dL_build_26 rfl (lv_at hl 0 rfl) ?_
      refine lv_bipush (v := 12) hx hb dL_build_27 (by decide) ?_
      refine lv_idiv hx hb dL_build_29 (by decide) ?_
      refine lv_iconst (v := 4) hx hb dL_build_30 (by decide) ?_
      refine lv_imul hx hb dL_build_31 ?_
      refine lv_ishr hx hb dL_build_32 ?_
      refine lv_sipush (v := 149) hx hb dL_build_33 (by decide) ?_
      refine lv_iload_n hx hb dL_build_36 rfl (lv_at hl 0 rfl) ?_
      refine lv_imul hx hb dL_build_37 ?_
      refine lv_iadd hx hb dL_build_38 ?_
      refine lv_iload_n hx hb dL_build_39 rfl (lv_at hl 0 rfl) ?_
      refine lv_iconst (v := 3) hx hb dL_build_40 (by decide) ?_
      refine lv_irem hx hb dL_build_41 (by decide) ?_
      refine lv_if_ne (tgt := 55) hx hb dL_build_42 (by decide) (fun c_42 => ?_) (fun c_42 => ?_)
      · refine lv_sipush (v := 512) hx hb dL_build_55 (by decide) ?_
        refine lv_iconst (v := 2) hx hb dL_build_58 (by decide) ?_
        refine lv_iload_n hx hb dL_build_59 rfl (lv_at hl 0 rfl) ?_
        refine lv_iconst (v := 3) hx hb dL_build_60 (by decide) ?_
        refine lv_irem hx hb dL_build_61 (by decide) ?_
        refine lv_iadd hx hb dL_build_62 ?_
        refine lv_imul hx hb dL_build_63 ?_
        refine lv_iadd hx hb dL_build_64 ?_
        refine lv_topi (fun x9 _ => ?_)
        refine N_callSi C0 hK h (c_L_act hI x9) (va_cwS 3 hts gL_build_L_act rfl rfl rfl (by decide +kernel) ⟨Nat.le_of_ble_eq_true rfl, Nat.le_of_ble_eq_true rfl⟩) rfl hl.1 (rest := []) rfl (Nat.le_of_ble_eq_true rfl) ⟨by show 3 + 2 * k + 0 + 2 ≤ 51; omega, by show 3 + 24 * k + 0 + 24 ≤ 579; omega⟩ dL_build_65 (fun r z3 ix3 u3 c3 H locs hp hX3 hK h => ?_)
        obtain ⟨rfl, X3, Y3, hu, hI3⟩ := hp
        have hu : u3 = (X3, Y3, X3, f) := hu
        subst hu
        rw [← hX3.2.2.1 0 (by omega), ← hX3.2.2.1 55 (by have := (gw_ix h).1.1.2.2; have := hn56; omega)] at hl
        refine lv_if_ne (tgt := 73) hx hb dL_build_68 (by decide) (fun _ => ?_) (fun q9 => absurd q9 (by decide))
        refine lv_iinc (v := nI (k + 1)) (lv' := [(3, .int (nI (k + 1))), (2, .ref (za z3 55)), (0, .ref (za z3 0)), (1, .ref a0)]) hx hb dL_build_73 hl (k := 0) rfl (q_inc k 1) (by decide) rfl (fun ls hl => ?_)
        refine lv_goto (tgt := 10) hx hb dL_build_76 (by decide) ?_
        refine W.widen (k := 3 + 2 * (k + 1)) (n := 3 + 24 * (k + 1)) (by omega) (by omega) ?_
        exact ih (k + 1) (by omega) z3 ix3 X3 Y3 _ _ _ _ (hXz.tr hX3 (Nat.le_refl _)) hK hI3 h (lv_sub hl [0, 1, 2, 3] rfl)
      · refine lv_iload_n hx hb dL_build_45 rfl (lv_at hl 0 rfl) ?_
        refine lv_bipush (v := 15) hx hb dL_build_46 (by decide) ?_
        refine lv_icmp_ge (tgt := 55) hx hb dL_build_48 (by decide) (fun c_48 => ?_) (fun c_48 => ?_)
        · refine lv_sipush (v := 512) hx hb dL_build_55 (by decide) ?_
          refine lv_iconst (v := 2) hx hb dL_build_58 (by decide) ?_
          refine lv_iload_n hx hb dL_build_59 rfl (lv_at hl 0 rfl) ?_
          refine lv_iconst (v := 3) hx hb dL_build_60 (by decide) ?_
          refine lv_irem hx hb dL_build_61 (by decide) ?_
          refine lv_iadd hx hb dL_build_62 ?_
          refine lv_imul hx hb dL_build_63 ?_
          refine lv_iadd hx hb dL_build_64 ?_
          refine lv_topi (fun x9 _ => ?_)
          refine N_callSi C0 hK h (c_L_act hI x9) (va_cwS 3 hts gL_build_L_act rfl rfl rfl (by decide +kernel) ⟨Nat.le_of_ble_eq_true rfl, Nat.le_of_ble_eq_true rfl⟩) rfl hl.1 (rest := []) rfl (Nat.le_of_ble_eq_true rfl) ⟨by show 3 + 2 * k + 0 + 2 ≤ 51; omega, by show 3 + 24 * k + 0 + 24 ≤ 579; omega⟩ dL_build_65 (fun r z3 ix3 u3 c3 H locs hp hX3 hK h => ?_)
          obtain ⟨rfl, X3, Y3, hu, hI3⟩ := hp
          have hu : u3 = (X3, Y3, X3, f) := hu
          subst hu
          rw [← hX3.2.2.1 0 (by omega), ← hX3.2.2.1 55 (by have := (gw_ix h).1.1.2.2; have := hn56; omega)] at hl
          refine lv_if_ne (tgt := 73) hx hb dL_build_68 (by decide) (fun _ => ?_) (fun q9 => absurd q9 (by decide))
          refine lv_iinc (v := nI (k + 1)) (lv' := [(3, .int (nI (k + 1))), (2, .ref (za z3 55)), (0, .ref (za z3 0)), (1, .ref a0)]) hx hb dL_build_73 hl (k := 0) rfl (q_inc k 1) (by decide) rfl (fun ls hl => ?_)
          refine lv_goto (tgt := 10) hx hb dL_build_76 (by decide) ?_
          refine W.widen (k := 3 + 2 * (k + 1)) (n := 3 + 24 * (k + 1)) (by omega) (by omega) ?_
          exact ih (k + 1) (by omega) z3 ix3 X3 Y3 _ _ _ _ (hXz.tr hX3 (Nat.le_refl _)) hK hI3 h (lv_sub hl [0, 1, 2, 3] rfl)
        · refine lv_iconst (v := 0) hx hb dL_build_51 (by decide) ?_
          refine lv_goto (tgt := 64) hx hb dL_build_52 (by decide) ?_
          refine lv_iadd hx hb dL_build_64 ?_
          refine lv_topi (fun x9 _ => ?_)
          refine N_callSi C0 hK h (c_L_act hI x9) (va_cwS 3 hts gL_build_L_act rfl rfl rfl (by decide +kernel) ⟨Nat.le_of_ble_eq_true rfl, Nat.le_of_ble_eq_true rfl⟩) rfl hl.1 (rest := []) rfl (Nat.le_of_ble_eq_true rfl) ⟨by show 3 + 2 * k + 0 + 2 ≤ 51; omega, by show 3 + 24 * k + 0 + 24 ≤ 579; omega⟩ dL_build_65 (fun r z3 ix3 u3 c3 H locs hp hX3 hK h => ?_)
          obtain ⟨rfl, X3, Y3, hu, hI3⟩ := hp
          have hu : u3 = (X3, Y3, X3, f) := hu
          subst hu
          rw [← hX3.2.2.1 0 (by omega), ← hX3.2.2.1 55 (by have := (gw_ix h).1.1.2.2; have := hn56; omega)] at hl
          refine lv_if_ne (tgt := 73) hx hb dL_build_68 (by decide) (fun _ => ?_) (fun q9 => absurd q9 (by decide))
          refine lv_iinc (v := nI (k + 1)) (lv' := [(3, .int (nI (k + 1))), (2, .ref (za z3 55)), (0, .ref (za z3 0)), (1, .ref a0)]) hx hb dL_build_73 hl (k := 0) rfl (q_inc k 1) (by decide) rfl (fun ls hl => ?_)
          refine lv_goto (tgt := 10) hx hb dL_build_76 (by decide) ?_
          refine W.widen (k := 3 + 2 * (k + 1)) (n := 3 + 24 * (k + 1)) (by omega) (by omega) ?_
          exact ih (k + 1) (by omega) z3 ix3 X3 Y3 _ _ _ _ (hXz.tr hX3 (Nat.le_refl _)) hK hI3 h (lv_sub hl [0, 1, 2, 3] rfl)
  refine W.widen (k := 3 + 2 * 0) (n := 3 + 24 * 0) (Nat.le_of_ble_eq_true rfl) (Nat.le_of_ble_eq_true rfl) ?_
  exact L10 24 0 (by omega) z2 _ S00 S00 _ _ _ _ hX1 hK2 Inv.new h hl
