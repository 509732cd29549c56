/-! PART 50: constructors: the reference's -/
def w2X2 (z : QZ) (w : va_W) (k0 a : Nat) (r : Nat × Nat × Nat) : va_W := (w.set k0 (a, .inr (2, [.int 0, .int 0, .int 0, .ref r.1, .ref r.2.1, .ref r.2.2]))) ++ [(r.1, .inl (zI z, 80, .inl (fun _ => 0))), (r.2.1, .inl (zI z, 126, .inl (fun _ => 0))), (r.2.2, .inl (zI z, 1, .inl (fun _ => 0)))]
def PreN (z : QZ) (w : va_W) (sz : Nat) : State → Prop := fun U => U.heap.size = sz ∧ va_P (zG z) vwCl w U.heap ∧ QK z U ∧ va_D (fun _ => True) w
theorem preN_blind {z : QZ} {w : va_W} {sz : Nat} {av : List Value} : FrameBlind (va_Pc av (PreN z w sz)) := fun a U g mk q => by
  obtain ⟨q0, q1, qP, qK, qD⟩ := q
  exact ⟨q0, q1, qP, QK.same rfl qK, qD⟩
theorem set_app {w X : va_W} {k : Nat} {y : Nat × va_E} {q : Nat × va_E} (h : w[k]? = some q) : (w ++ X).set k y = w.set k y ++ X := List.set_append_left _ _ (List.getElem?_eq_some_iff.mp h).1
theorem get_app {w X : va_W} {k : Nat} {q : Nat × va_E} (h : w[k]? = some q) : (w ++ X)[k]? = some q := by
  rw [List.getElem?_append_left (List.getElem?_eq_some_iff.mp h).1]; exact h
theorem get_set {w : va_W} {k : Nat} {q y : Nat × va_E} (h : w[k]? = some q) : (w.set k y)[k]? = some y := by
  rw [List.getElem?_set_self (List.getElem?_eq_some_iff.mp h).1]
set_option maxHeartbeats 4000000 in
set_option maxRecDepth 100000 in
theorem c_X2_init (l : Launch) (z : QZ) (w : va_W) (k0 a sz : Nat) (hw : w[k0]? = some (a, .inr (2, [.int 0, .int 0, .int 0, .null, .null, .null]))) : Met l yX2_init wsX2_init ({ frames := 1, cells := 3, slots := 207, locals := 40 } : Room) (va_Pc [.ref a] (PreN z w sz)) (va_Qv (fun _ : Nat × Nat × Nat => True) (fun r t => va_P (zG z) vwCl (w2X2 z w k0 a r) t.heap ∧ va_D (va_A w sz) (w2X2 z w k0 a r)) (va_A w sz)) 3 207 (va_A w sz) := by
  refine Met.ofW (cc := cX2_init) (maxL := 1) (ret := none) (by decide) rfl ?_
  intro p e s m args below meth c s₁ B hml hv
  obtain ⟨rfl, hsz, hP, hK, hD0⟩ := hv
  have hin : meth.name = "<init>" := (name_of_methodNamed B.named B.method).1
  have C0 : Cx p s m (([.ref a] : List Value).toArray) meth c cX2_init 1 none yX2_init.cls wsX2_init := ⟨B.exec, B.bytes, B.returns, hml, findClass_of_methodNamed B.named, atoms_spec (ws := wsX2_init) B.pre, B.notSynchronized⟩
  obtain ⟨hx, hb, hr, hml, hown, hts, hlocks⟩ := id C0
  subst hsz
  have hD := hD0.self (sz := s.heap.size)
  generalize hAe : va_A w s.heap.size = A at hD ⊢
  have hA : ∀ q : Nat, s.heap.size ≤ q → A q := fun q h => by rw [← hAe]; exact Or.inr h
  have hS : va_S A s.heap s.heap [] := va_S.rf
  have hl := lv_entry ([.ref a]) (n := 1) (Nat.le_of_ble_eq_true rfl)
  rw [lg_entry_eq]
  generalize (lg_sl ([.ref a]) ++ List.replicate (1 - (lg_sl ([.ref a])).length) Slot.unset).toArray = ls at hl ⊢
  have hl : lv_has ls 1 [(0, .ref a)] := hl
  have hin2 : ∀ w ∈ u_ws RX2 TX2 6, w ∈ wsX2_init := by decide +kernel
  refine lv_aload_n hx hb dX2_init_0 rfl (lv_at hl 0 rfl) ?_
  refine W.objInit hx hb hown (hts (.methodLink RX2 1 objectInit) (by decide +kernel)) (hts (.instanceMethod objectInit) (by decide +kernel)) (hts _ (List.mem_cons_of_mem _ (List.mem_append_left _ (List.mem_of_getElem? (i := 2) rfl)))) rfl (by rw [hml]; exact hl.1) rfl dX2_init_1 (Nat.le_of_ble_eq_true rfl) (Nat.le_of_ble_eq_true rfl) ?_
  refine W.eq (g2 := F0 m 4 ls []) rfl ?_
  refine lv_aload_n hx hb dX2_init_4 rfl (lv_at hl 0 rfl) ?_
  refine lv_bipush (v := 80) hx hb dX2_init_5 (by decide) ?_
  refine q_newi C0 hK hP hD hS hA (by decide +kernel) (n := 80) rfl (by decide) (Nat.le_of_ble_eq_true rfl) (Nat.le_of_ble_eq_true rfl) dX2_init_7 (fun r1 H hP hD hS => ?_)
  refine va_putF hx hb hts hin2 tyX2 tyX2_ok nmX2 hown hK.1 hP hD hS k0 (get_app hw) (ci := 2) rfl 3 (by decide) (hts _ (by decide +kernel : Cond.fieldLink RX2 9 (TX2 3).1 (TX2 3).2.1 (TX2 3).2.2.1 ∈ wsX2_init)) (fun _ h9 => h9) rfl hin rfl (tyX2_ok 3 (by decide)) rfl rfl (show 3 < 6 by decide) dX2_init_9 (fun H locs hP hD hS => ?_)
  rw [set_app hw] at hP hD
  have hw1 := get_set (y := (a, (.inr (2, [.int 0, .int 0, .int 0, .ref r1, .null, .null]) : va_E))) hw
  have hP : va_P (zG z) vwCl (w.set k0 (a, .inr (2, [.int 0, .int 0, .int 0, .ref r1, .null, .null])) ++ [(r1, .inl (zI z, 80, .inl (fun _ => 0)))]) H := hP
  have hD : va_D A (w.set k0 (a, .inr (2, [.int 0, .int 0, .int 0, .ref r1, .null, .null])) ++ [(r1, .inl (zI z, 80, .inl (fun _ => 0)))]) := hD
  generalize hW1 : w.set k0 (a, (.inr (2, [.int 0, .int 0, .int 0, .ref r1, .null, .null]) : va_E)) = W1 at hP hD hw1
  refine lv_aload_n hx hb dX2_init_12 rfl (lv_at hl 0 rfl) ?_
  refine lv_bipush (v := 126) hx hb dX2_init_13 (by decide) ?_
  refine q_newi C0 hK hP hD hS hA (by decide +kernel) (n := 126) rfl (by decide) (Nat.le_of_ble_eq_true rfl) (Nat.le_of_ble_eq_true rfl) dX2_init_15 (fun r2 H hP hD hS => ?_)
  rw [List.append_assoc] at hP hD
  refine va_putF hx hb hts hin2 tyX2 tyX2_ok nmX2 hown hK.1 hP hD hS k0 (get_app hw1) (ci := 2) rfl 4 (by decide) (hts _ (by decide +kernel : Cond.fieldLink RX2 13 (TX2 4).1 (TX2 4).2.1 (TX2 4).2.2.1 ∈ wsX2_init)) (fun _ h9 => h9) rfl hin rfl (tyX2_ok 4 (by decide)) rfl rfl (show 4 < 6 by decide) dX2_init_17 (fun H locs hP hD hS => ?_)
  rw [set_app hw1] at hP hD
  have hw2 := get_set (y := (a, (.inr (2, [.int 0, .int 0, .int 0, .ref r1, .ref r2, .null]) : va_E))) hw1
  have hP : va_P (zG z) vwCl (W1.set k0 (a, .inr (2, [.int 0, .int 0, .int 0, .ref r1, .ref r2, .null])) ++ [(r1, .inl (zI z, 80, .inl (fun _ => 0))), (r2, .inl (zI z, 126, .inl (fun _ => 0)))]) H := hP
  have hD : va_D A (W1.set k0 (a, .inr (2, [.int 0, .int 0, .int 0, .ref r1, .ref r2, .null])) ++ [(r1, .inl (zI z, 80, .inl (fun _ => 0))), (r2, .inl (zI z, 126, .inl (fun _ => 0)))]) := hD
  generalize hW2 : W1.set k0 (a, (.inr (2, [.int 0, .int 0, .int 0, .ref r1, .ref r2, .null]) : va_E)) = W2 at hP hD hw2
  refine lv_aload_n hx hb dX2_init_20 rfl (lv_at hl 0 rfl) ?_
  refine lv_iconst (v := 1) hx hb dX2_init_21 (by decide) ?_
  refine q_newi C0 hK hP hD hS hA (by decide +kernel) (n := 1) rfl (by decide) (Nat.le_of_ble_eq_true rfl) (Nat.le_of_ble_eq_true rfl) dX2_init_22 (fun r3 H hP hD hS => ?_)
  rw [List.append_assoc] at hP hD
  refine lv_dup hx hb dX2_init_24 rfl ?_
  refine lv_iconst (v := 0) hx hb dX2_init_25 (by decide) ?_
  refine lv_iconst (v := 0) hx hb dX2_init_26 (by decide) ?_
  have e3 : (W2 ++ (([(r1, .inl (zI z, 80, .inl (fun _ => 0))), (r2, .inl (zI z, 126, .inl (fun _ => 0)))] : va_W) ++ ([(r3, .inl (zI z, 1, .inl (fun _ => 0)))] : va_W)))[W2.length + 2]? = some (r3, .inl (zI z, 1, .inl (fun _ => (0 : Int32)))) := by
    rw [List.getElem?_append_right (by omega), Nat.add_sub_cancel_left]; rfl
  refine va_iast hx hb hK.1 hP hD hS (W2.length + 2) 0 e3 rfl (show vp_in 0 1 from vp_in_nI (n := 0) (by decide) (by decide)) dX2_init_27 (fun H locs hP hD hS => ?_)
  have e4 : ∀ f : Nat → Int32, (W2 ++ (([(r1, .inl (zI z, 80, .inl (fun _ => 0))), (r2, .inl (zI z, 126, .inl (fun _ => 0)))] : va_W) ++ ([(r3, .inl (zI z, 1, .inl (fun _ => 0)))] : va_W))).set (W2.length + 2) ((r3, .inl (zI z, 1, .inl f)) : Nat × va_E) = W2 ++ ([(r1, .inl (zI z, 80, .inl (fun _ => 0))), (r2, .inl (zI z, 126, .inl (fun _ => 0))), (r3, .inl (zI z, 1, .inl f))] : va_W) := fun f => by
    rw [List.set_append_right _ _ (by omega), Nat.add_sub_cancel_left]; rfl
  rw [e4] at hP hD
  have e5 : upd (fun _ => (0 : Int32)) (0 : Int32).toNatClampNeg 0 = fun _ => 0 := by
    funext j; unfold upd; split <;> rfl
  rw [e5] at hP hD
  refine va_putF hx hb hts hin2 tyX2 tyX2_ok nmX2 hown hK.1 hP hD hS k0 (get_app hw2) (ci := 2) rfl 5 (by decide) (hts _ (by decide +kernel : Cond.fieldLink RX2 16 (TX2 5).1 (TX2 5).2.1 (TX2 5).2.2.1 ∈ wsX2_init)) (fun _ h9 => h9) rfl hin rfl (tyX2_ok 5 (by decide)) rfl rfl (show 5 < 6 by decide) dX2_init_28 (fun H locs hP hD hS => ?_)
  rw [set_app hw2] at hP hD
  have e6 : W2.set k0 (a, (.inr (2, [Value.int 0, .int 0, .int 0, .ref r1, .ref r2, .null].set 5 (.ref r3)) : va_E)) = w.set k0 (a, .inr (2, [.int 0, .int 0, .int 0, .ref r1, .ref r2, .ref r3])) := by
    rw [← hW2, ← hW1, List.set_set, List.set_set]; rfl
  rw [e6] at hP hD
  refine W.widen (k := 3) (n := 207) (Nat.le_of_ble_eq_true rfl) (Nat.le_of_ble_eq_true rfl) ?_
  exact W.vret hx hb hr (fun t ht hW => ⟨⟨(r1, r2, r3), rfl, trivial, by rw [ht]; exact hP, hD⟩, hS.F ht⟩) hS.2.2 dX2_init_31 hlocks
