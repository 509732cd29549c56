/-! PART 53: the class's constructor -/
theorem gX1i : GoodIn wsX1_init wsX0_init := goodIn_of _ (by decide +kernel)
theorem vaA_sub {A : Nat → Prop} {w : va_W} {H0 H : Heap} {locs : List Loc} (hD : va_D A w) (hS : va_S A H0 H locs) (hA : ∀ q, H0.size ≤ q → A q) : ∀ q, va_A w H.size q → A q := by
  rintro q (⟨k, e, hk⟩ | h)
  · exact hD.2 k _ hk
  · exact hA q (Nat.le_trans hS.1 h)
theorem w2X0_snoc {z : QZ} {w : va_W} {b : Nat} {r : Nat × Nat} {y : Nat × va_E} : w2X0 z (w ++ [y]) w.length b r = w ++ ((b, (.inr (0, [.ref r.1, .ref r.2, .int 0, .int 0, .int 0]) : va_E)) :: landW z r.1 r.2) := by
  unfold w2X0
  rw [List.set_append_right _ _ (Nat.le_refl _), Nat.sub_self, List.append_assoc]
  rfl
theorem snoc_get {w : va_W} {y : Nat × va_E} : (w ++ [y])[w.length]? = some y := by simp
abbrev landO (z : QZ) (b : Nat) (r : Nat × Nat) : va_W := (b, (.inr (0, [.ref r.1, .ref r.2, .int 0, .int 0, .int 0]) : va_E)) :: landW z r.1 r.2
def w2X1 (z : QZ) (w : va_W) (k0 a : Nat) (r : (Nat × Nat × Nat) × (Nat × Nat × Nat)) : va_W := w.set k0 (a, .inr (1, [.ref r.1.1, .ref r.2.1])) ++ (landO z r.1.1 r.1.2 ++ landO z r.2.1 r.2.2)
set_option maxHeartbeats 4000000 in
set_option maxRecDepth 100000 in
theorem c_X1_init (l : Launch) (z : QZ) (w : va_W) (k0 a sz : Nat) (hw : w[k0]? = some (a, .inr (1, [.null, .null]))) : Met l yX1_init wsX1_init ({ frames := 2, cells := 54, slots := 498, locals := 80 } : Room) (va_Pc [.ref a] (PreN z w sz)) (va_Qv (fun _ : (Nat × Nat × Nat) × (Nat × Nat × Nat) => True) (fun r t => va_P (zG z) vwCl (w2X1 z w k0 a r) t.heap ∧ va_D (va_A w sz) (w2X1 z w k0 a r)) (va_A w sz)) 54 498 (va_A w sz) := by
  refine Met.ofW (cc := cX1_init) (maxL := 1) (ret := none) (by decide) rfl ?_
  intro p e s m args below meth c s₁ B hml hv
  obtain ⟨rfl, hsz, hP, hK, hD0⟩ := hv
  have hin : meth.name = "<init>" := (name_of_methodNamed B.named B.method).1
  have C0 : Cx p s m (([.ref a] : List Value).toArray) meth c cX1_init 1 none yX1_init.cls wsX1_init := ⟨B.exec, B.bytes, B.returns, hml, findClass_of_methodNamed B.named, atoms_spec (ws := wsX1_init) B.pre, B.notSynchronized⟩
  obtain ⟨hx, hb, hr, hml, hown, hts, hlocks⟩ := id C0
  subst hsz
  have hD := hD0.self (sz := s.heap.size)
  generalize hAe : va_A w s.heap.size = A at hD ⊢
  have hA : ∀ q : Nat, s.heap.size ≤ q → A q := fun q h => by rw [← hAe]; exact Or.inr h
  have hS : va_S A s.heap s.heap [] := va_S.rf
  have hl := lv_entry ([.ref a]) (n := 1) (Nat.le_of_ble_eq_true rfl)
  rw [lg_entry_eq]
  generalize (lg_sl ([.ref a]) ++ List.replicate (1 - (lg_sl ([.ref a])).length) Slot.unset).toArray = ls at hl ⊢
  have hl : lv_has ls 1 [(0, .ref a)] := hl
  have hin0 : ∀ w ∈ u_ws RX0 TX0 5, w ∈ wsX1_init := by decide +kernel
  have hin1 : ∀ w ∈ u_ws RX1 TX1 2, w ∈ wsX1_init := by decide +kernel
  refine lv_aload_n hx hb dX1_init_0 rfl (lv_at hl 0 rfl) ?_
  refine W.objInit hx hb hown (hts (.methodLink RX1 1 objectInit) (by decide +kernel)) (hts (.instanceMethod objectInit) (by decide +kernel)) (hts _ (List.mem_cons_of_mem _ (List.mem_append_left _ (List.mem_append_left _ (List.mem_of_getElem? (i := 2) rfl))))) rfl (by rw [hml]; exact hl.1) rfl dX1_init_1 (Nat.le_of_ble_eq_true rfl) (Nat.le_of_ble_eq_true rfl) ?_
  refine W.eq (g2 := F0 m 4 ls []) rfl ?_
  refine lv_aload_n hx hb dX1_init_4 rfl (lv_at hl 0 rfl) ?_
  refine va_new (ci := 0) (fs := [.null, .null, .int 0, .int 0, .int 0]) (C := RX0) (T := TX0) (N := 5) hx hb hts hin0 tyX0 tyX0_ok hown (hts (.classLink RX1 7 RX0) (by decide +kernel)) (hts (.instantiable RX0 5) (by decide +kernel)) (hts (.initialized RX0) (by decide +kernel)) hK.1 hP hD hS hA rfl (fun j hj => by rcases (show j = 0 ∨ j = 1 ∨ j = 2 ∨ j = 3 ∨ j = 4 by omega) with rfl | rfl | rfl | rfl | rfl <;> rfl) (Nat.le_of_ble_eq_true rfl) (Nat.le_of_ble_eq_true rfl) dX1_init_5 (fun b1 H hP hD hS => ?_)
  refine lv_dup hx hb dX1_init_8 rfl ?_
  refine va_callv (va_runI (As := []) (rest := [.ref b1, .ref a]) ⟨hx, hb, hml, hown, hts⟩ (c_X0_init l z _ w.length b1 H.size snoc_get) (cwI 0 hts gX1i rfl rfl rfl (hts (.initialized RX0) (by decide +kernel)) (hts (.methodLink RX1 9 yX0_init) (by decide +kernel)) (hts (.instanceMethod yX0_init) (by decide +kernel)) rfl (by decide +kernel) ⟨Nat.le_of_ble_eq_true rfl, Nat.le_of_ble_eq_true rfl⟩) ⟨preN_blind, fun U hU hW => ⟨rfl, by rw [hU], by rw [hU]; exact hP, QK.warm hW hK, hD.weaken (fun _ _ _ _ => trivial)⟩⟩ rfl rfl hl.1 rfl (lv_room (Nat.le_of_ble_eq_true rfl)) dX1_init_9 ⟨Nat.le_of_ble_eq_true rfl, Nat.le_of_ble_eq_true rfl⟩) hS (fun q _ h => vaA_sub hD hS hA q h) (vaA_sub hD hS hA) (fun r1 t H1 locs1 ht hvm h5 hB hz1 hk1 hS1 => ?_)
  obtain ⟨hP1, hD1⟩ := hB
  rw [ht] at hP1
  have hD1 := hD1.weaken (B := A) (fun _ q _ h => vaA_sub hD hS hA q.1 h)
  rw [w2X0_snoc] at hP1 hD1
  clear hP hD hS h5 hz1 hk1
  refine va_putF hx hb hts hin1 tyX1 tyX1_ok nmX1 hown hK.1 hP1 hD1 hS1 k0 (get_app hw) (ci := 1) rfl 0 (by decide) (hts _ (by decide +kernel : Cond.fieldLink RX1 10 (TX1 0).1 (TX1 0).2.1 (TX1 0).2.2.1 ∈ wsX1_init)) (fun _ h9 => h9) rfl hin rfl (tyX1_ok 0 (by decide)) rfl rfl (show 0 < 2 by decide) dX1_init_12 (fun H locs hP hD hS => ?_)
  rw [set_app hw] at hP hD
  have hw1 := get_set (y := (a, (.inr (1, [.ref b1, .null]) : va_E))) hw
  have hP : va_P (zG z) vwCl (w.set k0 (a, .inr (1, [.ref b1, .null])) ++ landO z b1 r1) H := hP
  have hD : va_D A (w.set k0 (a, .inr (1, [.ref b1, .null])) ++ landO z b1 r1) := hD
  generalize hW1 : w.set k0 (a, (.inr (1, [.ref b1, .null]) : va_E)) = W1 at hP hD hw1
  refine lv_aload_n hx hb dX1_init_15 rfl (lv_at hl 0 rfl) ?_
  refine va_new (ci := 0) (fs := [.null, .null, .int 0, .int 0, .int 0]) (C := RX0) (T := TX0) (N := 5) hx hb hts hin0 tyX0 tyX0_ok hown (hts (.classLink RX1 7 RX0) (by decide +kernel)) (hts (.instantiable RX0 5) (by decide +kernel)) (hts (.initialized RX0) (by decide +kernel)) hK.1 hP hD hS hA rfl (fun j hj => by rcases (show j = 0 ∨ j = 1 ∨ j = 2 ∨ j = 3 ∨ j = 4 by omega) with rfl | rfl | rfl | rfl | rfl <;> rfl) (Nat.le_of_ble_eq_true rfl) (Nat.le_of_ble_eq_true rfl) dX1_init_16 (fun b2 H hP hD hS => ?_)
  refine lv_dup hx hb dX1_init_19 rfl ?_
  refine va_callv (va_runI (As := []) (rest := [.ref b2, .ref a]) ⟨hx, hb, hml, hown, hts⟩ (c_X0_init l z _ (W1 ++ landO z b1 r1).length b2 H.size snoc_get) (cwI 0 hts gX1i rfl rfl rfl (hts (.initialized RX0) (by decide +kernel)) (hts (.methodLink RX1 9 yX0_init) (by decide +kernel)) (hts (.instanceMethod yX0_init) (by decide +kernel)) rfl (by decide +kernel) ⟨Nat.le_of_ble_eq_true rfl, Nat.le_of_ble_eq_true rfl⟩) ⟨preN_blind, fun U hU hW => ⟨rfl, by rw [hU], by rw [hU]; exact hP, QK.warm hW hK, hD.weaken (fun _ _ _ _ => trivial)⟩⟩ rfl rfl hl.1 rfl (lv_room (Nat.le_of_ble_eq_true rfl)) dX1_init_20 ⟨Nat.le_of_ble_eq_true rfl, Nat.le_of_ble_eq_true rfl⟩) hS (fun q _ h => vaA_sub hD hS hA q h) (vaA_sub hD hS hA) (fun r2 t H1 locs1 ht hvm h5 hB hz1 hk1 hS1 => ?_)
  obtain ⟨hP1, hD1⟩ := hB
  rw [ht] at hP1
  have hD1 := hD1.weaken (B := A) (fun _ q _ h => vaA_sub hD hS hA q.1 h)
  rw [w2X0_snoc, List.append_assoc] at hP1 hD1
  clear hP hD hS h5 hz1 hk1
  refine va_putF hx hb hts hin1 tyX1 tyX1_ok nmX1 hown hK.1 hP1 hD1 hS1 k0 (get_app hw1) (ci := 1) rfl 1 (by decide) (hts _ (by decide +kernel : Cond.fieldLink RX1 16 (TX1 1).1 (TX1 1).2.1 (TX1 1).2.2.1 ∈ wsX1_init)) (fun _ h9 => h9) rfl hin rfl (tyX1_ok 1 (by decide)) rfl rfl (show 1 < 2 by decide) dX1_init_23 (fun H locs hP hD hS => ?_)
  rw [set_app hw1] at hP hD
  have e6 : W1.set k0 (a, (.inr (1, [Value.ref b1, .null].set 1 (.ref b2)) : va_E)) = w.set k0 (a, .inr (1, [.ref b1, .ref b2])) := by
    rw [← hW1, List.set_set]; rfl
  rw [e6] at hP hD
  refine W.widen (k := 54) (n := 498) (Nat.le_of_ble_eq_true rfl) (Nat.le_of_ble_eq_true rfl) ?_
  exact W.vret hx hb hr (fun t ht hW => ⟨⟨((b1, r1), (b2, r2)), rfl, trivial, by rw [ht]; exact hP, hD⟩, hS.F ht⟩) hS.2.2 dX1_init_26 hlocks
