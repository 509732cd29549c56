/-! PART 68: constructors, Sim.build, Sim.lay -/
set_option maxHeartbeats 4000000 in
theorem c_X4_init (l : Launch) : IN0 l yX4_init wsX4_init ({ frames := 1, cells := 0, slots := 0, locals := 40 } : Room) := by
  intro z w a sz
  refine Met.ofW (cc := cX4_init) (maxL := 1) (ret := none) (by decide) rfl ?_
  intro p e s m args below meth c s₁ B hml hv
  obtain ⟨rfl, hsz, hP, hK, hD0⟩ := hv
  have C0 : Cx p s m (([.ref a] : List Value).toArray) meth c cX4_init 1 none yX4_init.cls wsX4_init := ⟨B.exec, B.bytes, B.returns, hml, findClass_of_methodNamed B.named, atoms_spec (ws := wsX4_init) B.pre, B.notSynchronized⟩
  obtain ⟨hx, hb, hr, hml, hown, hts, hlocks⟩ := id C0
  subst hsz
  have hS : va_S (va_A w s.heap.size) s.heap s.heap [] := va_S.rf
  have hl := lv_entry ([.ref a]) (n := 1) (Nat.le_of_ble_eq_true rfl)
  rw [lg_entry_eq]
  generalize (lg_sl ([.ref a]) ++ List.replicate (1 - (lg_sl ([.ref a])).length) Slot.unset).toArray = ls at hl ⊢
  have hl : lv_has ls 1 [(0, .ref a)] := hl
  refine lv_aload_n hx hb dX4_init_0 rfl (lv_at hl 0 rfl) ?_
  refine W.objInit hx hb hown (hts (.methodLink RX4 1 objectInit) (by decide +kernel)) (hts (.instanceMethod objectInit) (by decide +kernel)) (hts (.code objectInit ⟨#[0xb1]⟩ 1 none) (by decide +kernel)) rfl (by rw [hml]; exact hl.1) rfl dX4_init_1 (Nat.le_of_ble_eq_true rfl) (Nat.le_of_ble_eq_true rfl) ?_
  refine W.eq (g2 := F0 m 4 ls []) rfl ?_
  exact W.vret hx hb hr (fun t ht hW => ⟨⟨(), rfl, trivial, by show va_P _ _ _ t.heap; rw [ht]; exact hP⟩, hS.F ht⟩) hS.2.2 dX4_init_4 hlocks
set_option maxHeartbeats 4000000 in
theorem c_X2_init (l : Launch) : IN0 l yX2_init wsX2_init ({ frames := 1, cells := 0, slots := 0, locals := 40 } : Room) := by
  intro z w a sz
  refine Met.ofW (cc := cX2_init) (maxL := 1) (ret := none) (by decide) rfl ?_
  intro p e s m args below meth c s₁ B hml hv
  obtain ⟨rfl, hsz, hP, hK, hD0⟩ := hv
  have C0 : Cx p s m (([.ref a] : List Value).toArray) meth c cX2_init 1 none yX2_init.cls wsX2_init := ⟨B.exec, B.bytes, B.returns, hml, findClass_of_methodNamed B.named, atoms_spec (ws := wsX2_init) B.pre, B.notSynchronized⟩
  obtain ⟨hx, hb, hr, hml, hown, hts, hlocks⟩ := id C0
  subst hsz
  have hS : va_S (va_A w s.heap.size) s.heap s.heap [] := va_S.rf
  have hl := lv_entry ([.ref a]) (n := 1) (Nat.le_of_ble_eq_true rfl)
  rw [lg_entry_eq]
  generalize (lg_sl ([.ref a]) ++ List.replicate (1 - (lg_sl ([.ref a])).length) Slot.unset).toArray = ls at hl ⊢
  have hl : lv_has ls 1 [(0, .ref a)] := hl
  refine lv_aload_n hx hb dX2_init_0 rfl (lv_at hl 0 rfl) ?_
  refine W.objInit hx hb hown (hts (.methodLink RX2 1 objectInit) (by decide +kernel)) (hts (.instanceMethod objectInit) (by decide +kernel)) (hts (.code objectInit ⟨#[0xb1]⟩ 1 none) (by decide +kernel)) rfl (by rw [hml]; exact hl.1) rfl dX2_init_1 (Nat.le_of_ble_eq_true rfl) (Nat.le_of_ble_eq_true rfl) ?_
  refine W.eq (g2 := F0 m 4 ls []) rfl ?_
  exact W.vret hx hb hr (fun t ht hW => ⟨⟨(), rfl, trivial, by show va_P _ _ _ t.heap; rw [ht]; exact hP⟩, hS.F ht⟩) hS.2.2 dX2_init_4 hlocks
set_option maxHeartbeats 4000000 in
set_option maxRecDepth 100000 in
theorem c_X3_build {l : Launch} {z : QZ} {ix : Nat → Nat} {X Y S : QLs} {f : Nat → Nat × (Nat → Int32)} (ht : qt S < 10) (x y v : Int32) : NV l yX3_build wsX3_build ({ frames := 2, cells := 2, slots := 20, locals := 62 } : Room) z [.ref (za z 55), .int x, .int y, .int v] 2 20 ix (X, Y, S, f) (fun v9 => v9.2.2 = (X, Y, sBuild S x y v, f)) := by
  intro ct sz hq9 hat
  refine n_entry (cc := cX3_build) (maxL := 6) (ret := none) (by decide) rfl (Nat.le_of_ble_eq_true rfl) hq9 hat ?_
  intro p e s m below meth c ls C0 hK hsz h hl
  subst hsz
  obtain ⟨hx, hb, hr, hml, hown, hts, hlocks⟩ := id C0
  have hix0 := (gw_ix h).1
  obtain ⟨⟨h10, h14, h56⟩, -, -⟩ := id hix0
  have hin3 : ∀ w ∈ u_ws RX3 TX3 3, w ∈ wsX3_build := by decide +kernel
  have hin4 : ∀ w ∈ u_ws RX4 TX4 8, w ∈ wsX3_build := by decide +kernel
  have hl : lv_has ls 6 [(0, .ref (za z 55)), (1, .int x), (2, .int y), (3, .int v)] := hl
  refine lv_aload_n hx hb dX3_build_0 rfl (lv_at hl 0 rfl) ?_
  refine U_gO C0 hK h hin3 0 (by decide) (by decide +kernel) rfl dX3_build_1 ?_
  refine U_lT C0 hK h dX3_build_4 ?_
  refine lv_iconst (v := 1) hx hb dX3_build_5 (by decide) ?_
  refine lv_iadd hx hb dX3_build_6 ?_
  refine B_new (t0 := 2) C0 hK h rfl hK.2.2.2.1.1 rfl (by decide +kernel) (n := qt S + 1) (q_add rfl rfl) (by omega) (Nat.le_of_ble_eq_true rfl) (by show 0 + (qt S + 1) ≤ 20; omega) dX3_build_7 (fun z1 c0 H hX1 hzn hK h => ?_)
  have e55 := hX1.2.2.1 55 (by omega)
  rw [← e55] at hl
  refine lv_astore (lv' := [(4, .ref (za z1 (zn z))), (0, .ref (za z1 55)), (1, .int x), (2, .int y), (3, .int v)]) hx hb dX3_build_10 hl (by decide) rfl (fun ls hl => ?_)
  refine lv_iconst (v := 0) hx hb dX3_build_12 (by decide) ?_
  refine lv_istore (lv' := [(5, .int 0), (4, .ref (za z1 (zn z))), (0, .ref (za z1 55)), (1, .int x), (2, .int y), (3, .int v)]) hx hb dX3_build_13 hl (by decide) rfl (fun ls hl => ?_)
  have hixB : ∀ a, sUsed (qt S) (qp S) a → 56 ≤ ix a ∧ ix a < zn z := fun a ha => hix0.2.1 a ha
  have L15 : ∀ (d i : Nat), i + d = qt S → ∀ (H : Heap) (locs : List Loc) (ls : Array Slot), GW z1 (BAt z1 ix (qt S) (qp S) (zn z) (zA z1) (qt S + 1)) 0 (zn z + 1) s.heap c0 ((X, Y, S, f), gT z1 ix 2 i) H locs → lv_has ls 6 [(5, .int (nI i)), (4, .ref (za z1 (zn z))), (0, .ref (za z1 55)), (1, .int x), (2, .int y), (3, .int v)] → W p l e ({ frames := 2, cells := 2, slots := 20, locals := 62 } : Room) s m ([Value.ref (za z 55), .int x, .int y, .int v]).toArray below meth c H locs (0 + 1) (0 + (qt S + 1)) (MQ below (va_Qv (fun v8 : QZ × (Nat → Nat) × US => XZ s.heap.size z v8.1 ∧ (fun v9 : QZ × (Nat → Nat) × US => v9.2.2 = (X, Y, sBuild S x y v, f)) v8) UEnd (qA (zn z) (za z) s.heap.size)) ([Value.ref (za z 55), .int x, .int y, .int v]).toArray s 2 20 (qA (zn z) (za z) s.heap.size)) (F0 m 15 ls []) := by
    intro d
    induction d with
    | zero =>
      intro i hi H locs ls h hl
      have hE : i = qt S := by omega
      refine lv_iload hx hb dX3_build_15 (lv_at hl 0 rfl) ?_
      refine lv_aload_n hx hb dX3_build_17 rfl (lv_at hl 2 rfl) ?_
      refine U_gO C0 hK (B_rd h) hin3 0 (by decide) (by decide +kernel) rfl dX3_build_18 ?_
      refine U_lT C0 hK (B_rd h) dX3_build_21 ?_
      refine lv_icmp_ge (tgt := 43) hx hb dX3_build_22 (by decide) (fun _ => ?_) (fun q9 => absurd (nI_le (by omega) (by omega)) q9)
      refine C_new (ci := 4) (fs := tkV (fun _ => 0)) C0 hK h hzn hin4 tyX4 tyX4_ok (by decide +kernel) (by decide +kernel) (by decide +kernel) rfl (fun j hj => by rcases (show j = 0 ∨ j = 1 ∨ j = 2 ∨ j = 3 ∨ j = 4 ∨ j = 5 ∨ j = 6 ∨ j = 7 by omega) with rfl | rfl | rfl | rfl | rfl | rfl | rfl | rfl <;> rfl) (Nat.le_of_ble_eq_true rfl) (by show 0 + (qt S + 1) + 8 ≤ 20; omega) dX3_build_43 (fun z2 c2 H hX2 hzn2 hK2 h => ?_)
      have e55b := hX2.2.2.1 55 (by omega)
      have eb := hX2.2.2.1 (zn z) (by omega)
      rw [← e55b, ← eb] at hl
      have eA : zA z1 = zA z2 := hX2.1.2.2.2.1.symm
      have eg : gT z1 ix 2 i = gT z2 ix 2 i := by
        funext k; unfold gT; by_cases hk : k < i
        · rw [if_pos hk, if_pos hk, hX2.2.2.1 _ (by have := (gw_ix (C_rd h)).1.2.1 _ (suT (show k < qt S by omega)); have := hixB _ (suT (show k < qt S by omega)); omega)]
        · rw [if_neg hk, if_neg hk]
      rw [eA, eg] at h
      refine lv_dup hx hb dX3_build_46 rfl ?_
      refine I_call C0 hK2 h (c_X4_init l) gX3_build_X4_init_n33 rfl rfl rfl hK2.2.2.2.2.1 (by decide +kernel) (by decide +kernel) rfl (by decide +kernel) ⟨Nat.le_of_ble_eq_true rfl, Nat.le_of_ble_eq_true rfl⟩ hl.1 (Nat.le_of_ble_eq_true rfl) ⟨Nat.le_of_ble_eq_true rfl, by show 0 + (qt S + 1) + 8 + 0 ≤ 20; omega⟩ dX3_build_47 (fun H locs h => ?_)
      refine lv_astore (lv' := [(5, .ref (za z2 (zn z + 1))), (4, .ref (za z2 (zn z))), (0, .ref (za z2 55)), (1, .int x), (2, .int y), (3, .int v)]) hx hb dX3_build_50 hl (by decide) rfl (fun ls hl => ?_)
      refine lv_aload hx hb dX3_build_52 (lv_at hl 0 rfl) ?_
      refine lv_iload_n hx hb dX3_build_54 rfl (lv_at hl 3 rfl) ?_
      refine C_put C0 hK2 h hin4 rfl tyX4 tyX4_ok nmX4 0 (by decide) (by decide +kernel) rfl (tyX4_ok 0 (by decide)) (show 0 < 8 by decide) dX3_build_55 (fun H locs h => ?_)
      refine lv_aload hx hb dX3_build_58 (lv_at hl 0 rfl) ?_
      refine lv_iload_n hx hb dX3_build_60 rfl (lv_at hl 4 rfl) ?_
      refine C_put C0 hK2 h hin4 rfl tyX4 tyX4_ok nmX4 1 (by decide) (by decide +kernel) rfl (tyX4_ok 1 (by decide)) (show 1 < 8 by decide) dX3_build_61 (fun H locs h => ?_)
      refine lv_aload hx hb dX3_build_64 (lv_at hl 0 rfl) ?_
      refine lv_iload_n hx hb dX3_build_66 rfl (lv_at hl 5 rfl) ?_
      refine C_put C0 hK2 h hin4 rfl tyX4 tyX4_ok nmX4 2 (by decide) (by decide +kernel) rfl (tyX4_ok 2 (by decide)) (show 2 < 8 by decide) dX3_build_67 (fun H locs h => ?_)
      refine lv_aload hx hb dX3_build_70 (lv_at hl 1 rfl) ?_
      refine lv_aload_n hx hb dX3_build_72 rfl (lv_at hl 2 rfl) ?_
      refine U_gO C0 hK2 (C_rd h) hin3 0 (by decide) (by decide +kernel) rfl dX3_build_73 ?_
      refine U_lT C0 hK2 (C_rd h) dX3_build_76 ?_
      refine lv_aload hx hb dX3_build_77 (lv_at hl 0 rfl) ?_
      refine C_st (t0 := 2) C0 hK2 h (r := (RX4, TX4, 8)) rfl rfl (i := qt S) rfl (by omega) (by omega) dX3_build_79 (fun H locs h => ?_)
      refine lv_aload_n hx hb dX3_build_80 rfl (lv_at hl 2 rfl) ?_
      refine lv_aload hx hb dX3_build_81 (lv_at hl 1 rfl) ?_
      have hrow : List.set (List.set (List.set (tkV (fun _ => (0 : Int32))) 0 (.int x)) 1 (.int y)) 2 (.int v) = tkV (rowT x y v) := by rw [tkV_set (by decide), tkV_set (by decide), tkV_set (by decide)]
      rw [hrow, hE] at h
      refine C_sim C0 hK2 h hin3 0 (by decide) (by decide +kernel) (At2 := UAt z2 (ixT ix (qt S) (zn z)) (qt S + 1) (qp S) (zn z + 2) 0) (u2 := (X, Y, sBuild S x y v, f)) (fun ct hA => C_T ht hA) dX3_build_83 (fun H locs h => ?_)
      have h : GN z2 (ixT ix (qt S) (zn z)) s.heap c2 (X, Y, sBuild S x y v, f) H locs := by show GW z2 (UAt z2 _ _ _ (zn z2) 0) 0 (zn z2 + 0) _ _ _ _ _; rw [hzn2]; exact h
      exact N_vret C0 hK2 (hX1.tr hX2 (Nat.le_refl _)) h rfl (Nat.le_of_ble_eq_true rfl) (by show 0 + (qt S + 1) + 8 + 0 ≤ 20; omega) dX3_build_86
    | succ d ih =>
      intro i hi H locs ls h hl
      have hE : i < qt S := by omega
      refine lv_iload hx hb dX3_build_15 (lv_at hl 0 rfl) ?_
      refine lv_aload_n hx hb dX3_build_17 rfl (lv_at hl 2 rfl) ?_
      refine U_gO C0 hK (B_rd h) hin3 0 (by decide) (by decide +kernel) rfl dX3_build_18 ?_
      refine U_lT C0 hK (B_rd h) dX3_build_21 ?_
      refine lv_icmp_ge (tgt := 43) hx hb dX3_build_22 (by decide) (fun q9 => absurd q9 (nI_ge (by omega) (by omega))) (fun _ => ?_)
      refine lv_aload hx hb dX3_build_25 (lv_at hl 1 rfl) ?_
      refine lv_iload hx hb dX3_build_27 (lv_at hl 0 rfl) ?_
      refine lv_aload_n hx hb dX3_build_29 rfl (lv_at hl 2 rfl) ?_
      refine U_gO C0 hK (B_rd h) hin3 0 (by decide) (by decide +kernel) rfl dX3_build_30 ?_
      refine lv_iload hx hb dX3_build_33 (lv_at hl 0 rfl) ?_
      refine U_aT C0 hK (B_rd h) (i := i) rfl hE dX3_build_35 ?_
      refine B_st (t0 := 2) (k := ix (2 + i)) C0 hK h (r := (RX4, TX4, 8)) rfl rfl (by have := hixB _ (suT hE); omega) (fun ct hA => (hA.2.1.2.2.2.2 _ (suT hE)).trans (simV_T (by omega))) (i := i) rfl (by omega) (by omega) dX3_build_36 (fun H locs h => ?_)
      rw [gT_s] at h
      refine lv_iinc (v := nI (i + 1)) (lv' := [(5, .int (nI (i + 1))), (4, .ref (za z1 (zn z))), (0, .ref (za z1 55)), (1, .int x), (2, .int y), (3, .int v)]) hx hb dX3_build_37 hl (k := 0) rfl (q_inc i 1) (by decide) rfl (fun ls hl => ?_)
      refine lv_goto (tgt := 15) hx hb dX3_build_40 (by decide) ?_
      exact ih (i + 1) (by omega) _ _ _ h hl
  exact L15 (qt S) 0 (by omega) _ _ _ (by rw [gT_0, hX1.1.2.2.2.1]; exact h) hl
set_option maxHeartbeats 4000000 in
set_option maxRecDepth 100000 in
theorem c_X3_lay {l : Launch} {z : QZ} {ix : Nat → Nat} {X Y S : QLs} {f : Nat → Nat × (Nat → Int32)} (ht : qp S < 14) (x y v w : Int32) : NV l yX3_lay wsX3_lay ({ frames := 2, cells := 2, slots := 24, locals := 62 } : Room) z [.ref (za z 55), .int x, .int y, .int v, .int w] 2 24 ix (X, Y, S, f) (fun v9 => v9.2.2 = (X, Y, sLay S x y v w, f)) := by
  intro ct sz hq9 hat
  refine n_entry (cc := cX3_lay) (maxL := 7) (ret := none) (by decide) rfl (Nat.le_of_ble_eq_true rfl) hq9 hat ?_
  intro p e s m below meth c ls C0 hK hsz h hl
  subst hsz
  obtain ⟨hx, hb, hr, hml, hown, hts, hlocks⟩ := id C0
  have hix0 := (gw_ix h).1
  obtain ⟨⟨h10, h14, h56⟩, -, -⟩ := id hix0
  have hin3 : ∀ w ∈ u_ws RX3 TX3 3, w ∈ wsX3_lay := by decide +kernel
  have hin2 : ∀ w ∈ u_ws RX2 TX2 9, w ∈ wsX3_lay := by decide +kernel
  have hl : lv_has ls 7 [(0, .ref (za z 55)), (1, .int x), (2, .int y), (3, .int v), (4, .int w)] := hl
  refine lv_aload_n hx hb dX3_lay_0 rfl (lv_at hl 0 rfl) ?_
  refine U_gO C0 hK h hin3 1 (by decide) (by decide +kernel) rfl dX3_lay_1 ?_
  refine U_lP C0 hK h dX3_lay_4 ?_
  refine lv_iconst (v := 1) hx hb dX3_lay_5 (by decide) ?_
  refine lv_iadd hx hb dX3_lay_6 ?_
  refine B_new (t0 := 3) C0 hK h rfl hK.2.2.2.1.2 rfl (by decide +kernel) (n := qp S + 1) (q_add rfl rfl) (by omega) (Nat.le_of_ble_eq_true rfl) (by show 0 + (qp S + 1) ≤ 24; omega) dX3_lay_7 (fun z1 c0 H hX1 hzn hK h => ?_)
  have e55 := hX1.2.2.1 55 (by omega)
  rw [← e55] at hl
  refine lv_astore (lv' := [(5, .ref (za z1 (zn z))), (0, .ref (za z1 55)), (1, .int x), (2, .int y), (3, .int v), (4, .int w)]) hx hb dX3_lay_10 hl (by decide) rfl (fun ls hl => ?_)
  refine lv_iconst (v := 0) hx hb dX3_lay_12 (by decide) ?_
  refine lv_istore (lv' := [(6, .int 0), (5, .ref (za z1 (zn z))), (0, .ref (za z1 55)), (1, .int x), (2, .int y), (3, .int v), (4, .int w)]) hx hb dX3_lay_13 hl (by decide) rfl (fun ls hl => ?_)
  have hixB : ∀ a, sUsed (qt S) (qp S) a → 56 ≤ ix a ∧ ix a < zn z := fun a ha => hix0.2.1 a ha
  have L15 : ∀ (d i : Nat), i + d = qp S → ∀ (H : Heap) (locs : List Loc) (ls : Array Slot), GW z1 (BAt z1 ix (qt S) (qp S) (zn z) (zB z1) (qp S + 1)) 0 (zn z + 1) s.heap c0 ((X, Y, S, f), gT z1 ix 12 i) H locs → lv_has ls 7 [(6, .int (nI i)), (5, .ref (za z1 (zn z))), (0, .ref (za z1 55)), (1, .int x), (2, .int y), (3, .int v), (4, .int w)] → W p l e ({ frames := 2, cells := 2, slots := 24, locals := 62 } : Room) s m ([Value.ref (za z 55), .int x, .int y, .int v, .int w]).toArray below meth c H locs (0 + 1) (0 + (qp S + 1)) (MQ below (va_Qv (fun v8 : QZ × (Nat → Nat) × US => XZ s.heap.size z v8.1 ∧ (fun v9 : QZ × (Nat → Nat) × US => v9.2.2 = (X, Y, sLay S x y v w, f)) v8) UEnd (qA (zn z) (za z) s.heap.size)) ([Value.ref (za z 55), .int x, .int y, .int v, .int w]).toArray s 2 24 (qA (zn z) (za z) s.heap.size)) (F0 m 15 ls []) := by
    intro d
    induction d with
    | zero =>
      intro i hi H locs ls h hl
      have hE : i = qp S := by omega
      refine lv_iload hx hb dX3_lay_15 (lv_at hl 0 rfl) ?_
      refine lv_aload_n hx hb dX3_lay_17 rfl (lv_at hl 2 rfl) ?_
      refine U_gO C0 hK (B_rd h) hin3 1 (by decide) (by decide +kernel) rfl dX3_lay_18 ?_
      refine U_lP C0 hK (B_rd h) dX3_lay_21 ?_
      refine lv_icmp_ge (tgt := 43) hx hb dX3_lay_22 (by decide) (fun _ => ?_) (fun q9 => absurd (nI_le (by omega) (by omega)) q9)
      refine C_new (ci := 2) (fs := ppV (fun _ => 0)) C0 hK h hzn hin2 tyX2 tyX2_ok (by decide +kernel) (by decide +kernel) (by decide +kernel) rfl (fun j hj => by rcases (show j = 0 ∨ j = 1 ∨ j = 2 ∨ j = 3 ∨ j = 4 ∨ j = 5 ∨ j = 6 ∨ j = 7 ∨ j = 8 by omega) with rfl | rfl | rfl | rfl | rfl | rfl | rfl | rfl | rfl <;> rfl) (Nat.le_of_ble_eq_true rfl) (by show 0 + (qp S + 1) + 9 ≤ 24; omega) dX3_lay_43 (fun z2 c2 H hX2 hzn2 hK2 h => ?_)
      have e55b := hX2.2.2.1 55 (by omega)
      have eb := hX2.2.2.1 (zn z) (by omega)
      rw [← e55b, ← eb] at hl
      have eA : zB z1 = zB z2 := hX2.1.2.2.2.2.symm
      have eg : gT z1 ix 12 i = gT z2 ix 12 i := by
        funext k; unfold gT; by_cases hk : k < i
        · rw [if_pos hk, if_pos hk, hX2.2.2.1 _ (by have := (gw_ix (C_rd h)).1.2.1 _ (suP (show k < qp S by omega)); have := hixB _ (suP (show k < qp S by omega)); omega)]
        · rw [if_neg hk, if_neg hk]
      rw [eA, eg] at h
      refine lv_dup hx hb dX3_lay_46 rfl ?_
      refine I_call C0 hK2 h (c_X2_init l) gX3_lay_X2_init_n43 rfl rfl rfl hK2.2.2.2.2.2.1 (by decide +kernel) (by decide +kernel) rfl (by decide +kernel) ⟨Nat.le_of_ble_eq_true rfl, Nat.le_of_ble_eq_true rfl⟩ hl.1 (Nat.le_of_ble_eq_true rfl) ⟨Nat.le_of_ble_eq_true rfl, by show 0 + (qp S + 1) + 9 + 0 ≤ 24; omega⟩ dX3_lay_47 (fun H locs h => ?_)
      refine lv_astore (lv' := [(6, .ref (za z2 (zn z + 1))), (5, .ref (za z2 (zn z))), (0, .ref (za z2 55)), (1, .int x), (2, .int y), (3, .int v), (4, .int w)]) hx hb dX3_lay_50 hl (by decide) rfl (fun ls hl => ?_)
      refine lv_aload hx hb dX3_lay_52 (lv_at hl 0 rfl) ?_
      refine lv_iload_n hx hb dX3_lay_54 rfl (lv_at hl 3 rfl) ?_
      refine C_put C0 hK2 h hin2 rfl tyX2 tyX2_ok nmX2 0 (by decide) (by decide +kernel) rfl (tyX2_ok 0 (by decide)) (show 0 < 9 by decide) dX3_lay_55 (fun H locs h => ?_)
      refine lv_aload hx hb dX3_lay_58 (lv_at hl 0 rfl) ?_
      refine lv_iload_n hx hb dX3_lay_60 rfl (lv_at hl 4 rfl) ?_
      refine C_put C0 hK2 h hin2 rfl tyX2 tyX2_ok nmX2 1 (by decide) (by decide +kernel) rfl (tyX2_ok 1 (by decide)) (show 1 < 9 by decide) dX3_lay_61 (fun H locs h => ?_)
      refine lv_aload hx hb dX3_lay_64 (lv_at hl 0 rfl) ?_
      refine lv_iload_n hx hb dX3_lay_66 rfl (lv_at hl 5 rfl) ?_
      refine C_put C0 hK2 h hin2 rfl tyX2 tyX2_ok nmX2 2 (by decide) (by decide +kernel) rfl (tyX2_ok 2 (by decide)) (show 2 < 9 by decide) dX3_lay_67 (fun H locs h => ?_)
      refine lv_aload hx hb dX3_lay_70 (lv_at hl 0 rfl) ?_
      refine lv_iload hx hb dX3_lay_72 (lv_at hl 6 rfl) ?_
      refine C_put C0 hK2 h hin2 rfl tyX2 tyX2_ok nmX2 3 (by decide) (by decide +kernel) rfl (tyX2_ok 3 (by decide)) (show 3 < 9 by decide) dX3_lay_74 (fun H locs h => ?_)
      refine lv_aload hx hb dX3_lay_77 (lv_at hl 1 rfl) ?_
      refine lv_aload_n hx hb dX3_lay_79 rfl (lv_at hl 2 rfl) ?_
      refine U_gO C0 hK2 (C_rd h) hin3 1 (by decide) (by decide +kernel) rfl dX3_lay_80 ?_
      refine U_lP C0 hK2 (C_rd h) dX3_lay_83 ?_
      refine lv_aload hx hb dX3_lay_84 (lv_at hl 0 rfl) ?_
      refine C_st (t0 := 3) C0 hK2 h (r := (RX2, TX2, 9)) rfl rfl (i := qp S) rfl (by omega) (by omega) dX3_lay_86 (fun H locs h => ?_)
      refine lv_aload_n hx hb dX3_lay_87 rfl (lv_at hl 2 rfl) ?_
      refine lv_aload hx hb dX3_lay_88 (lv_at hl 1 rfl) ?_
      have hrow : List.set (List.set (List.set (List.set (ppV (fun _ => (0 : Int32))) 0 (.int x)) 1 (.int y)) 2 (.int v)) 3 (.int w) = ppV (rowP x y v w) := by rw [ppV_set (by decide), ppV_set (by decide), ppV_set (by decide), ppV_set (by decide)]; rfl
      rw [hrow, hE] at h
      refine C_sim C0 hK2 h hin3 1 (by decide) (by decide +kernel) (At2 := UAt z2 (ixP ix (qp S) (zn z)) (qt S) (qp S + 1) (zn z + 2) 0) (u2 := (X, Y, sLay S x y v w, f)) (fun ct hA => C_P ht hA) dX3_lay_90 (fun H locs h => ?_)
      have h : GN z2 (ixP ix (qp S) (zn z)) s.heap c2 (X, Y, sLay S x y v w, f) H locs := by show GW z2 (UAt z2 _ _ _ (zn z2) 0) 0 (zn z2 + 0) _ _ _ _ _; rw [hzn2]; exact h
      exact N_vret C0 hK2 (hX1.tr hX2 (Nat.le_refl _)) h rfl (Nat.le_of_ble_eq_true rfl) (by show 0 + (qp S + 1) + 9 + 0 ≤ 24; omega) dX3_lay_93
    | succ d ih =>
      intro i hi H locs ls h hl
      have hE : i < qp S := by omega
      refine lv_iload hx hb dX3_lay_15 (lv_at hl 0 rfl) ?_
      refine lv_aload_n hx hb dX3_lay_17 rfl (lv_at hl 2 rfl) ?_
      refine U_gO C0 hK (B_rd h) hin3 1 (by decide) (by decide +kernel) rfl dX3_lay_18 ?_
      refine U_lP C0 hK (B_rd h) dX3_lay_21 ?_
      refine lv_icmp_ge (tgt := 43) hx hb dX3_lay_22 (by decide) (fun q9 => absurd q9 (nI_ge (by omega) (by omega))) (fun _ => ?_)
      refine lv_aload hx hb dX3_lay_25 (lv_at hl 1 rfl) ?_
      refine lv_iload hx hb dX3_lay_27 (lv_at hl 0 rfl) ?_
      refine lv_aload_n hx hb dX3_lay_29 rfl (lv_at hl 2 rfl) ?_
      refine U_gO C0 hK (B_rd h) hin3 1 (by decide) (by decide +kernel) rfl dX3_lay_30 ?_
      refine lv_iload hx hb dX3_lay_33 (lv_at hl 0 rfl) ?_
      refine U_aP C0 hK (B_rd h) (i := i) rfl hE dX3_lay_35 ?_
      refine B_st (t0 := 3) (k := ix (12 + i)) C0 hK h (r := (RX2, TX2, 9)) rfl rfl (by have := hixB _ (suP hE); omega) (fun ct hA => (hA.2.1.2.2.2.2 _ (suP hE)).trans simV_P) (i := i) rfl (by omega) (by omega) dX3_lay_36 (fun H locs h => ?_)
      rw [gT_s] at h
      refine lv_iinc (v := nI (i + 1)) (lv' := [(6, .int (nI (i + 1))), (5, .ref (za z1 (zn z))), (0, .ref (za z1 55)), (1, .int x), (2, .int y), (3, .int v), (4, .int w)]) hx hb dX3_lay_37 hl (k := 0) rfl (q_inc i 1) (by decide) rfl (fun ls hl => ?_)
      refine lv_goto (tgt := 15) hx hb dX3_lay_40 (by decide) ?_
      exact ih (i + 1) (by omega) _ _ _ h hl
  exact L15 (qp S) 0 (by omega) _ _ _ (by rw [gT_0, hX1.1.2.2.2.2]; exact h) hl
