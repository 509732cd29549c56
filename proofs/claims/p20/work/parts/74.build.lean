/-! PART 74: the call of cell; the constructor of Sim -/
section CCALL
variable {p : Program} {l : Launch} {e : Env} {R : Room} {s : State} {m : MethodId} {args : Array Value} {below : List Frame} {meth : Method} {c : Code} {H : Heap} {locs : List Loc} {cells slots : Nat} {Q : State → Prop}
variable {cc : ByteArray} {nL : Nat} {ret : Option FieldType} {own : String} {ws : List Cond} {pc : Nat} {ls : Array Slot} {st0 rest : List Value} {z : QZ} {c0 : Nat → va_E}
theorem cell_call {α : Type} {At : α → (Nat → va_E) → Prop} {lo hi : Nat} {a : α} {a0 L k index : Nat} {xs : Nat → Int32} (C0 : Cx p s m args meth c cc nL ret own ws) (hX : va_X a0 L xs s s.heap) (hbl : a0 < s.heap.size) (hnA : ¬ qA (zn z) (za z) s.heap.size a0) (h : GW z At lo hi s.heap c0 a H locs) (hL : L ≤ 260) (hk : k < 1000) (cw : CallB R s args own index yL_cell cL_cell 2 (some .int) wsL_cell ({ frames := 0, cells := 0, slots := 0, locals := 0 } : Room) 0 0 2 ∧ (Cond.static yL_cell).before args s = true) (hsz : ls.size = nL) (hroom : (rest.map fun v => v.category).sum ≤ 8) (hf : cells + 0 ≤ R.cells ∧ slots + 0 ≤ R.slots) (hdg : decode cc pc = .ok (.invokestatic index, 3))
    (kk : ∀ (r : Int32) (H1 : Heap) (locs1 : List Loc), GW z At lo hi s.heap c0 a H1 locs1 → W p l e R s m args below meth c H1 locs1 (cells + 0) (slots + 0) Q (F0 m (pc + 3) ls (.int r :: rest))) : W p l e R s m args below meth c H locs cells slots Q (F0 m pc ls (.int (nI k) :: .ref a0 :: rest)) := by
  obtain ⟨ct, hP, hS, hA, hF, hn, hq⟩ := h
  refine va_calli (va_runS (As := [.ref a0, .int (nI k)]) (rest := rest) ⟨C0.1, C0.2.1, C0.2.2.2.1, C0.2.2.2.2.1, C0.2.2.2.2.2.1⟩ (c_L_cell (a0 := a0) (xs := xs) hL k hk) cw ⟨fun a U g mk q => ⟨q.1, va_X.moved (Vm.Alike.refl _) q.2⟩, fun U hU hW => ⟨rfl, by show va_X _ _ _ U U.heap; rw [hU]; exact (hX.kept (hS.2.1 a0 hbl hnA)).moved hW.alike⟩⟩ rfl rfl hsz rfl (lv_room hroom) hdg hf) hS (fun q _ h => h.elim) (fun q h => h.elim) (fun r u t H1 locs1 ht hvm hp hB hz1 hk1 hS1 => ?_)
  exact kk r H1 locs1 ⟨ct, hP.kept (fun k x hx => hk1 x.1 ((hP k x hx).lt) (fun h => h)), hS1, hA, hF, hn, hq⟩
end CCALL
def w2X3 (z : QZ) (w : va_W) (k0 a : Nat) (r : Nat × Nat) : va_W := (w.set k0 (a, .inr (3, [.ref r.1, .ref r.2, .int 0]))) ++ [(r.1, .inl (zA z, 0, .inr (.inr (.inr (.inr (fun _ => none)))))), (r.2, .inl (zB z, 0, .inr (.inr (.inr (.inr (fun _ => none))))))]
set_option maxHeartbeats 4000000 in
set_option maxRecDepth 100000 in
theorem c_X3_init (l : Launch) (z : QZ) (w : va_W) (k0 a sz : Nat) (hw : w[k0]? = some (a, .inr (3, [.null, .null, .int 0]))) : Met l yX3_init wsX3_init ({ frames := 1, cells := 2, slots := 0, locals := 40 } : Room) (va_Pc [.ref a] (PreN z w sz)) (va_Qv (fun _ : Nat × Nat => True) (fun r t => va_P (zG z) vwCl (w2X3 z w k0 a r) t.heap ∧ va_D (va_A w sz) (w2X3 z w k0 a r)) (va_A w sz)) 2 0 (va_A w sz) := by
  refine Met.ofW (cc := cX3_init) (maxL := 1) (ret := none) (by decide) rfl ?_
  intro p e s m args below meth c s₁ B hml hv
  obtain ⟨rfl, hsz, hP, hK, hD0⟩ := hv
  have C0 : Cx p s m (([.ref a] : List Value).toArray) meth c cX3_init 1 none yX3_init.cls wsX3_init := ⟨B.exec, B.bytes, B.returns, hml, findClass_of_methodNamed B.named, atoms_spec (ws := wsX3_init) B.pre, B.notSynchronized⟩
  obtain ⟨hx, hb, hr, hml, hown, hts, hlocks⟩ := id C0
  subst hsz
  have hD := hD0.self (sz := s.heap.size)
  generalize hAe : va_A w s.heap.size = A at hD ⊢
  have hA : ∀ q : Nat, s.heap.size ≤ q → A q := fun q h => by rw [← hAe]; exact Or.inr h
  have hS : va_S A s.heap s.heap [] := va_S.rf
  have hl := lv_entry ([.ref a]) (n := 1) (Nat.le_of_ble_eq_true rfl)
  rw [lg_entry_eq]
  generalize (lg_sl ([.ref a]) ++ List.replicate (1 - (lg_sl ([.ref a])).length) Slot.unset).toArray = ls at hl ⊢
  have hl : lv_has ls 1 [(0, .ref a)] := hl
  have hin3 : ∀ w ∈ u_ws RX3 TX3 3, w ∈ wsX3_init := by decide +kernel
  refine lv_aload_n hx hb dX3_init_0 rfl (lv_at hl 0 rfl) ?_
  refine W.objInit hx hb hown (hts (.methodLink RX3 1 objectInit) (by decide +kernel)) (hts (.instanceMethod objectInit) (by decide +kernel)) (hts (.code objectInit ⟨#[0xb1]⟩ 1 none) (by decide +kernel)) rfl (by rw [hml]; exact hl.1) rfl dX3_init_1 (Nat.le_of_ble_eq_true rfl) (Nat.le_of_ble_eq_true rfl) ?_
  refine W.eq (g2 := F0 m 4 ls []) rfl ?_
  refine lv_aload_n hx hb dX3_init_4 rfl (lv_at hl 0 rfl) ?_
  refine lv_iconst (v := 0) hx hb dX3_init_5 (by decide) ?_
  refine q_newq (t0 := 2) C0 hK hP hD hS hA hK.2.2.2.1.1 rfl (by decide +kernel) (n := 0) rfl (by decide) (Nat.le_of_ble_eq_true rfl) (Nat.le_of_ble_eq_true rfl) dX3_init_6 (fun r1 H hP hD hS => ?_)
  refine va_put hx hb hts hin3 tyX3 tyX3_ok nmX3 hown hK.1 hP hD hS k0 (get_app hw) (ci := 3) rfl 0 (by decide) (hts _ (by decide +kernel : Cond.fieldLink RX3 9 (TX3 0).1 (TX3 0).2.1 (TX3 0).2.2.1 ∈ wsX3_init)) (fun _ h9 => h9) rfl (tyX3_ok 0 (by decide)) rfl rfl (show 0 < 3 by decide) dX3_init_9 (fun H locs hP hD hS => ?_)
  rw [set_app hw] at hP hD
  have hw1 := get_set (y := (a, (.inr (3, [.ref r1, .null, .int 0]) : va_E))) hw
  have hP : va_P (zG z) vwCl (w.set k0 (a, .inr (3, [.ref r1, .null, .int 0])) ++ [(r1, .inl (zA z, 0, .inr (.inr (.inr (.inr (fun _ => none))))))]) H := hP
  have hD : va_D A (w.set k0 (a, .inr (3, [.ref r1, .null, .int 0])) ++ [(r1, .inl (zA z, 0, .inr (.inr (.inr (.inr (fun _ => none))))))]) := hD
  generalize hW1 : w.set k0 (a, (.inr (3, [.ref r1, .null, .int 0]) : va_E)) = W1 at hP hD hw1
  refine lv_aload_n hx hb dX3_init_12 rfl (lv_at hl 0 rfl) ?_
  refine lv_iconst (v := 0) hx hb dX3_init_13 (by decide) ?_
  refine q_newq (t0 := 3) C0 hK hP hD hS hA hK.2.2.2.1.2 rfl (by decide +kernel) (n := 0) rfl (by decide) (Nat.le_of_ble_eq_true rfl) (Nat.le_of_ble_eq_true rfl) dX3_init_14 (fun r2 H hP hD hS => ?_)
  rw [List.append_assoc] at hP hD
  refine va_put hx hb hts hin3 tyX3 tyX3_ok nmX3 hown hK.1 hP hD hS k0 (get_app hw1) (ci := 3) rfl 1 (by decide) (hts _ (by decide +kernel : Cond.fieldLink RX3 17 (TX3 1).1 (TX3 1).2.1 (TX3 1).2.2.1 ∈ wsX3_init)) (fun _ h9 => h9) rfl (tyX3_ok 1 (by decide)) rfl rfl (show 1 < 3 by decide) dX3_init_17 (fun H locs hP hD hS => ?_)
  rw [set_app hw1] at hP hD
  have e6 : W1.set k0 (a, (.inr (3, [Value.ref r1, .null, .int 0].set 1 (.ref r2)) : va_E)) = w.set k0 (a, .inr (3, [.ref r1, .ref r2, .int 0])) := by
    rw [← hW1, List.set_set]; rfl
  rw [e6] at hP hD
  refine W.widen (k := 2) (n := 0) (Nat.le_of_ble_eq_true rfl) (Nat.le_of_ble_eq_true rfl) ?_
  exact W.vret hx hb hr (fun t ht hW => ⟨⟨(r1, r2), rfl, trivial, by rw [ht]; exact hP, hD⟩, hS.F ht⟩) hS.2.2 dX3_init_20 hlocks
/-- cells behind a world: the world grows by them -/
theorem grow_list {sz : Nat} {H1 : Heap} : ∀ (Y : va_W) (z : QZ) (ct : Nat → va_E), va_P (zG z) vwCl (wd (zn z) (za z) ct ++ Y) H1 → va_D (qA (zn z) (za z) sz) (wd (zn z) (za z) ct ++ Y) → qI (zn z) (za z) → ∃ (z2 : QZ) (ct2 : Nat → va_E), XZ sz z z2 ∧ zn z2 = zn z + Y.length ∧ va_P (zG z2) vwCl (wd (zn z2) (za z2) ct2) H1 ∧ (∀ k, k < zn z → ct2 k = ct k) ∧ ∀ j q, Y[j]? = some q → za z2 (zn z + j) = q.1 ∧ ct2 (zn z + j) = q.2
  | [], z, ct, hP, _, hq => ⟨z, ct, XZ.rf hq, rfl, by rw [List.append_nil] at hP; exact hP, fun _ _ => rfl, fun j q h => by simp at h⟩
  | y :: Y, z, ct, hP, hD, hq => by
    obtain ⟨q, e⟩ := y
    have hsnoc := wd_snoc (n := zn z) (q := q) (ad := za z) (ct := ct) (e := e)
    have hl : (wd (zn z) (za z) ct).length = zn z := wd_len
    have hP2 : va_P (zG z) vwCl (wd (zn z + 1) (va_up (za z) (zn z) q) (va_up ct (zn z) e) ++ Y) H1 := by rw [hsnoc, List.append_assoc]; exact hP
    have hD2 : va_D (qA (zn z) (za z) sz) (wd (zn z + 1) (va_up (za z) (zn z) q) (va_up ct (zn z) e) ++ Y) := by rw [hsnoc, List.append_assoc]; exact hD
    have hw : ∀ k, k < zn z + 1 → (wd (zn z + 1) (va_up (za z) (zn z) q) (va_up ct (zn z) e) ++ Y)[k]? = some (va_up (za z) (zn z) q k, va_up ct (zn z) e k) := fun k hk => by
      rw [List.getElem?_append_left (by rw [wd_len]; exact hk)]; exact wd_get hk
    have hq2 : qI (zn z + 1) (va_up (za z) (zn z) q) := fun i j hi hj hij => hD2.1 i j _ _ (hw i hi) (hw j hj) hij
    have hqs : sz ≤ q := by
      have h1 := hD2.2 (zn z) _ (hw (zn z) (by omega))
      have h1 : qA (zn z) (za z) sz q := by rw [va_up_self] at h1; exact h1
      rcases h1 with ⟨k, hk, h2⟩ | h1
      · have := hq2 k (zn z) (by omega) (by omega) (by rw [va_up_ne _ _ (by omega), va_up_self]; exact h2)
        omega
      · exact h1
    have hX : XZ sz z (zx z q) := ⟨⟨rfl, rfl, rfl, rfl, rfl⟩, Nat.le_succ _, fun k hk => va_up_ne _ _ (by omega), fun k h1 h2 => by
      have h2 : k < zn z + 1 := h2
      show sz ≤ va_up (za z) (zn z) q k
      rw [show k = zn z by omega, va_up_self]; exact hqs, hq2⟩
    obtain ⟨z2, ct2, g1, g2, g3, g4, g5⟩ := grow_list Y (zx z q) (va_up ct (zn z) e) hP2 ⟨hD2.1, fun k x hx => (hX.A (Nat.le_refl _) _).mpr (hD2.2 k x hx)⟩ hq2
    have hn : zn (zx z q) = zn z + 1 := rfl
    refine ⟨z2, ct2, hX.tr g1 (Nat.le_refl _), by rw [g2, hn, List.length_cons]; omega, g3, fun k hk => ?_, fun j x hx => ?_⟩
    · rw [g4 k (by rw [hn]; omega), va_up_ne _ _ (by omega)]
    · cases j with
      | zero =>
        simp at hx
        subst hx
        refine ⟨?_, ?_⟩
        · rw [g1.2.2.1 (zn z + 0) (by rw [hn]; omega)]; exact va_up_self _ _ _
        · rw [g4 (zn z + 0) (by rw [hn]; omega)]; exact va_up_self _ _ _
      | succ j =>
        have h5 := g5 j x (by simpa using hx)
        rw [hn] at h5
        rw [show zn z + (j + 1) = zn z + 1 + j by omega]; exact h5
/-- the hand-made land at its beginning -/
theorem sim_new {z z2 : QZ} {ct ct2 : Nat → va_E} {sz d r1 r2 : Nat} {f : Nat → Nat × (Nat → Int32)} (hz : zn z = 55) (hX : XZ sz z z2) (hn : zn z2 = 58) (hu : XAt z (pr S00 S00) ct) (h4 : ∀ k, k < zn z → ct2 k = ct k) (h5 : ∀ (j : Nat) (q : Nat × va_E), ([(d, .inr (3, [.ref r1, .ref r2, .int 0])), (r1, .inl (zA z, 0, .inr (.inr (.inr (.inr (fun _ => none)))))), (r2, .inl (zB z, 0, .inr (.inr (.inr (.inr (fun _ => none))))))] : va_W)[j]? = some q → za z2 (zn z + j) = q.1 ∧ ct2 (zn z + j) = q.2) : za z2 55 = d ∧ UAt z2 (fun a => 56 + a) 0 0 58 0 (S00, S00, S00, f) ct2 := by
  have a0 := h5 0 _ rfl
  have a1 := h5 1 _ rfl
  have a2 := h5 2 _ rfl
  rw [hz] at a0 a1 a2
  refine ⟨a0.1, (hu.ext hX (by omega)).off (fun k hk => h4 k (by omega)), ⟨⟨⟨by omega, by omega, by omega⟩, fun a ha => ?_, fun a c _ _ h => by have h : 56 + a = 56 + c := h; omega⟩, rfl, rfl, ?_, fun a ha => ?_⟩, fun j hj => by omega⟩
  · show 56 ≤ 56 + a ∧ 56 + a < 58
    rcases ha with ha | ha <;> omega
  · rw [show (55 : Nat) = 55 + 0 from rfl, a0.2]
    show _ = (.inr (3, [.ref (za z2 56), .ref (za z2 57), .int 0]) : va_E)
    rw [show (56 : Nat) = 55 + 1 from rfl, show (57 : Nat) = 55 + 2 from rfl, a1.1, a2.1]
  · have h2 : a = 0 ∨ a = 1 := by rcases ha with ha | ha <;> omega
    rcases h2 with rfl | rfl
    · show ct2 (55 + 1) = _
      rw [a1.2]; unfold simV; rw [if_pos rfl, hX.1.2.2.2.1]
      refine congrArg (fun g => (.inl (zA z, 0, .inr (.inr (.inr (.inr g)))) : va_E)) (funext fun k => ?_)
      rw [if_neg (by omega)]
    · show ct2 (55 + 2) = _
      rw [a2.2]; unfold simV; rw [if_neg (by omega), if_pos rfl, hX.1.2.2.2.2]
      refine congrArg (fun g => (.inl (zB z, 0, .inr (.inr (.inr (.inr g)))) : va_E)) (funext fun k => ?_)
      rw [if_neg (by omega)]
