/-! PART 52: constructors: a land, the class -/
abbrev landW (z : QZ) (q1 q2 : Nat) : va_W := (([(q1, mnaO z 10 q1)] ++ mnaR z 10 8 q1) ++ [(q2, mnaO z 14 q2)]) ++ mnaR z 14 10 q2
def w2X0 (z : QZ) (w : va_W) (k0 a : Nat) (r : Nat × Nat) : va_W := (w.set k0 (a, .inr (0, [.ref r.1, .ref r.2, .int 0, .int 0, .int 0]))) ++ landW z r.1 r.2
set_option maxHeartbeats 4000000 in
set_option maxRecDepth 100000 in
theorem c_X0_init (l : Launch) (z : QZ) (w : va_W) (k0 a sz : Nat) (hw : w[k0]? = some (a, .inr (0, [.null, .null, .int 0, .int 0, .int 0]))) : Met l yX0_init wsX0_init ({ frames := 1, cells := 26, slots := 244, locals := 40 } : Room) (va_Pc [.ref a] (PreN z w sz)) (va_Qv (fun _ : Nat × Nat => True) (fun r t => va_P (zG z) vwCl (w2X0 z w k0 a r) t.heap ∧ va_D (va_A w sz) (w2X0 z w k0 a r)) (va_A w sz)) 26 244 (va_A w sz) := by
  refine Met.ofW (cc := cX0_init) (maxL := 1) (ret := none) (by decide) rfl ?_
  intro p e s m args below meth c s₁ B hml hv
  obtain ⟨rfl, hsz, hP, hK, hD0⟩ := hv
  have hin : meth.name = "<init>" := (name_of_methodNamed B.named B.method).1
  have C0 : Cx p s m (([.ref a] : List Value).toArray) meth c cX0_init 1 none yX0_init.cls wsX0_init := ⟨B.exec, B.bytes, B.returns, hml, findClass_of_methodNamed B.named, atoms_spec (ws := wsX0_init) B.pre, B.notSynchronized⟩
  obtain ⟨hx, hb, hr, hml, hown, hts, hlocks⟩ := id C0
  subst hsz
  have hD := hD0.self (sz := s.heap.size)
  generalize hAe : va_A w s.heap.size = A at hD ⊢
  have hA : ∀ q : Nat, s.heap.size ≤ q → A q := fun q h => by rw [← hAe]; exact Or.inr h
  have hS : va_S A s.heap s.heap [] := va_S.rf
  have hl := lv_entry ([.ref a]) (n := 1) (Nat.le_of_ble_eq_true rfl)
  rw [lg_entry_eq]
  generalize (lg_sl ([.ref a]) ++ List.replicate (1 - (lg_sl ([.ref a])).length) Slot.unset).toArray = ls at hl ⊢
  have hl : lv_has ls 1 [(0, .ref a)] := hl
  have hin0 : ∀ w ∈ u_ws RX0 TX0 5, w ∈ wsX0_init := by decide +kernel
  refine lv_aload_n hx hb dX0_init_0 rfl (lv_at hl 0 rfl) ?_
  refine W.objInit hx hb hown (hts (.methodLink RX0 3 objectInit) (by decide +kernel)) (hts (.instanceMethod objectInit) (by decide +kernel)) (hts _ (List.mem_cons_of_mem _ (List.mem_append_left _ (List.mem_of_getElem? (i := 2) rfl)))) rfl (by rw [hml]; exact hl.1) rfl dX0_init_1 (Nat.le_of_ble_eq_true rfl) (Nat.le_of_ble_eq_true rfl) ?_
  refine W.eq (g2 := F0 m 4 ls []) rfl ?_
  refine lv_aload_n hx hb dX0_init_4 rfl (lv_at hl 0 rfl) ?_
  refine lv_bipush (v := 10) hx hb dX0_init_5 (by decide) ?_
  refine lv_bipush (v := 8) hx hb dX0_init_7 (by decide) ?_
  refine q_mna C0 hK hP hD hS hA (by decide +kernel) (by decide +kernel) (N := 10) (K := 8) rfl rfl (by decide) (by decide) (Nat.le_of_ble_eq_true rfl) (Nat.le_of_ble_eq_true rfl) dX0_init_9 (fun q1 H hP hD hS => ?_)
  rw [List.append_assoc] at hP hD
  refine va_putF hx hb hts hin0 tyX0 tyX0_ok nmX0 hown hK.1 hP hD hS k0 (get_app hw) (ci := 0) rfl 0 (by decide) (hts _ (by decide +kernel : Cond.fieldLink RX0 13 (TX0 0).1 (TX0 0).2.1 (TX0 0).2.2.1 ∈ wsX0_init)) (fun _ h9 => h9) rfl hin rfl (tyX0_ok 0 (by decide)) rfl rfl (show 0 < 5 by decide) dX0_init_13 (fun H locs hP hD hS => ?_)
  rw [set_app hw] at hP hD
  have hw1 := get_set (y := (a, (.inr (0, [.ref q1, .null, .int 0, .int 0, .int 0]) : va_E))) hw
  have hP : va_P (zG z) vwCl (w.set k0 (a, .inr (0, [.ref q1, .null, .int 0, .int 0, .int 0])) ++ ([(q1, mnaO z 10 q1)] ++ mnaR z 10 8 q1)) H := hP
  have hD : va_D A (w.set k0 (a, .inr (0, [.ref q1, .null, .int 0, .int 0, .int 0])) ++ ([(q1, mnaO z 10 q1)] ++ mnaR z 10 8 q1)) := hD
  generalize hW1 : w.set k0 (a, (.inr (0, [.ref q1, .null, .int 0, .int 0, .int 0]) : va_E)) = W1 at hP hD hw1
  refine lv_aload_n hx hb dX0_init_16 rfl (lv_at hl 0 rfl) ?_
  refine lv_bipush (v := 14) hx hb dX0_init_17 (by decide) ?_
  refine lv_bipush (v := 10) hx hb dX0_init_19 (by decide) ?_
  refine q_mna C0 hK hP hD hS hA (by decide +kernel) (by decide +kernel) (N := 14) (K := 10) rfl rfl (by decide) (by decide) (Nat.le_of_ble_eq_true rfl) (Nat.le_of_ble_eq_true rfl) dX0_init_21 (fun q2 H hP hD hS => ?_)
  rw [List.append_assoc W1, List.append_assoc W1] at hP hD
  refine va_putF hx hb hts hin0 tyX0 tyX0_ok nmX0 hown hK.1 hP hD hS k0 (get_app hw1) (ci := 0) rfl 1 (by decide) (hts _ (by decide +kernel : Cond.fieldLink RX0 16 (TX0 1).1 (TX0 1).2.1 (TX0 1).2.2.1 ∈ wsX0_init)) (fun _ h9 => h9) rfl hin rfl (tyX0_ok 1 (by decide)) rfl rfl (show 1 < 5 by decide) dX0_init_25 (fun H locs hP hD hS => ?_)
  rw [set_app hw1] at hP hD
  have e6 : W1.set k0 (a, (.inr (0, [Value.ref q1, .null, .int 0, .int 0, .int 0].set 1 (.ref q2)) : va_E)) = w.set k0 (a, .inr (0, [.ref q1, .ref q2, .int 0, .int 0, .int 0])) := by
    rw [← hW1, List.set_set]; rfl
  rw [e6] at hP hD
  refine W.widen (k := 26) (n := 244) (Nat.le_of_ble_eq_true rfl) (Nat.le_of_ble_eq_true rfl) ?_
  exact W.vret hx hb hr (fun t ht hW => ⟨⟨(q1, q2), rfl, trivial, by rw [ht]; exact hP, hD⟩, hS.F ht⟩) hS.2.2 dX0_init_28 hlocks
