/-! PART 11: Land.copyFrom, the trial land (1) from the true one (0) -/
theorem arrV_same {cA : ClassId} {n : Nat} {f g : Nat → Value} (h : ∀ j, j < n → f j = g j) : arrV cA n f = arrV cA n g := by
  unfold arrV
  congr 1
  apply Array.ext
  · simp
  · intro j h1 h2
    simp at h1 ⊢
    exact h j h1
theorem wd_repl {D : va_G} {n k : Nat} {ad : Nat → Nat} {ct : Nat → va_E} {e e2 : va_E} {H : Heap} (hP : va_P D vwCl (wd n ad (va_up ct k e)) H) (he : ∀ a, va_at D vwCl (a, e) H → va_at D vwCl (a, e2) H) : va_P D vwCl (wd n ad (va_up ct k e2)) H := by
  intro j q hj
  obtain ⟨hn, rfl⟩ := wd_of hj
  have h0 := hP j _ (wd_get hn)
  by_cases e : j = k
  · subst e
    rw [va_up_self] at h0 ⊢
    exact he _ h0
  · rw [va_up_ne _ _ e] at h0 ⊢
    exact h0
theorem va_at_int {D : va_G} {a n : Nat} {cA : ClassId} {f g : Nat → Int32} {H : Heap} (h : ∀ j, j < n → f j = g j) (hP : va_at D vwCl (a, .inl (cA, n, .inl f)) H) : va_at D vwCl (a, .inl (cA, n, .inl g)) H := by
  have h2 : H[a]? = some (vp_cell cA (n, .inl f)) := hP
  show H[a]? = some (vp_cell cA (n, .inl g))
  rw [h2, vp_cell_i, vp_cell_i, arrV_same (fun j hj => by rw [h j hj])]
section QCP
variable {p : Program} {l : Launch} {e : Env} {R : Room} {s : State} {m : MethodId} {args : Array Value} {below : List Frame} {meth : Method} {c : Code} {H : Heap} {locs : List Loc} {cells slots : Nat} {Q : State → Prop}
variable {cc : ByteArray} {nL : Nat} {ret : Option FieldType} {own : String} {ws : List Cond} {pc : Nat} {ls : Array Slot} {rest : List Value} {z : QZ} {c0 : Nat → va_E} {σ : Nat → QLs} {b : Nat} {S : QLs} {M : QMs} {α : Type} {At : α → (Nat → va_E) → Prop} {lo hi : Nat} {a : α}
/-- arraycopy of the first n places of the int array k0 to those of k1 -/
theorem G_copy (C0 : Cx p s m args meth c cc nL ret own ws) (hK : QK z s) (hsz : ls.size = nL) (h : GW z At lo hi s.heap c0 a H locs) {k0 k1 n0 n1 sp dp n : Nat} {f g f2 : Nat → Int32} (hk0 : k0 < hi) (hk1 : lo ≤ k1 ∧ k1 < hi) (hc0 : ∀ ct, At a ct → ct k0 = .inl (zI z, n0, .inl f)) (hc1 : ∀ ct, At a ct → ct k1 = .inl (zI z, n1, .inl g)) {i0 i1 i2 : Int32} (e0 : i0 = nI sp) (e1 : i1 = nI dp) (e2 : i2 = nI n) (h0 : sp + n ≤ n0) (h1 : dp + n ≤ n1) (hb0 : n0 < 2147483648) (hb1 : n1 < 2147483648) (hf2 : ∀ j, j < n1 → va_cpy f g sp dp n j = f2 j) {a' : α} (hu : ∀ ct, At a ct → At a' (va_up ct k1 (.inl (zI z, n1, .inl f2))))
    {index : Nat} (hl : Cond.methodLink own index arraycopyName ∈ ws) (hn : Cond.native arraycopyName ∈ ws) (hs : Cond.static arraycopyName ∈ ws) (hi9 : Cond.initialized "java/lang/System" ∈ ws) (hr : 1 ≤ R.frames ∧ (rest.map fun v => v.category).sum + (nativeFrameWords "java/lang/System" "arraycopy" 5 + 11) ≤ R.locals) (hdg : decode cc pc = .ok (.invokestatic index, 3))
    (kk : ∀ (H1 : Heap) (locs1 : List Loc), GW z At lo hi s.heap c0 a' H1 locs1 → W p l e R s m args below meth c H1 locs1 cells slots Q (F0 m (pc + 3) ls rest)) : W p l e R s m args below meth c H locs cells slots Q (F0 m pc ls (.int i2 :: .int i1 :: .ref (za z k1) :: .int i0 :: .ref (za z k0) :: rest)) := by
  obtain ⟨ct, hP, hS, hA, hF, hn9, hq⟩ := h
  subst e0; subst e1; subst e2
  have t0 : (nI sp).toNatClampNeg = sp := nI_clamp (by omega)
  have t1 : (nI dp).toNatClampNeg = dp := nI_clamp (by omega)
  have t2 : (nI n).toNatClampNeg = n := nI_clamp (by omega)
  refine va_copyi C0.1 C0.2.1 (C0.2.2.2.1.trans hsz.symm) C0.2.2.2.2.1 (C0.2.2.2.2.2.1 _ hl) (C0.2.2.2.2.2.1 _ hn) (C0.2.2.2.2.2.1 _ hs) (C0.2.2.2.2.2.1 _ hi9) hK.1 hP (wd_DA hq) hS k0 k1 0 0 ((wd_get (Nat.lt_of_lt_of_le hk0 hn9)).trans (by rw [hc0 ct hA])) ((wd_get (Nat.lt_of_lt_of_le hk1.2 hn9)).trans (by rw [hc1 ct hA])) rfl rfl rfl (nI_pos (by omega)) (nI_pos (by omega)) (nI_pos (by omega)) (by rw [t0, t2]; exact h0) (by rw [t1, t2]; exact h1) (fun _ _ => rfl) hr.1 hr.2 hdg (fun H1 locs1 hP1 hD1 hS1 => kk H1 locs1 ⟨_, ?_, hS1, hu ct hA, hF.up hk1, hn9, hq⟩)
  rw [t0, t1, t2, wd_set] at hP1
  exact wd_repl hP1 (fun a ha => va_at_int hf2 ha)
theorem K_cpT (C0 : Cx p s m args meth c cc nL ret own ws) (hK : QK z s) (hsz : ls.size = nL) (h : GW z (XAt z) 0 55 s.heap c0 (va_up σ 1 S) H locs) {i : Nat} (hi : i < 10)
    {index : Nat} (hl : Cond.methodLink own index arraycopyName ∈ ws) (hn : Cond.native arraycopyName ∈ ws) (hs : Cond.static arraycopyName ∈ ws) (hi9 : Cond.initialized "java/lang/System" ∈ ws) (hr : 1 ≤ R.frames ∧ (rest.map fun v => v.category).sum + (nativeFrameWords "java/lang/System" "arraycopy" 5 + 11) ≤ R.locals) (hdg : decode cc pc = .ok (.invokestatic index, 3))
    (kk : ∀ (H1 : Heap) (locs1 : List Loc) (S1 : QLs), S1 = sT S i (qT (σ 0) i) → GW z (XAt z) 0 55 s.heap c0 (va_up σ 1 S1) H1 locs1 → W p l e R s m args below meth c H1 locs1 cells slots Q (F0 m (pc + 3) ls rest)) : W p l e R s m args below meth c H locs cells slots Q (F0 m pc ls (.int 8 :: .int 0 :: .ref (za z (1 + 27 * 1 + (3 + i))) :: .int 0 :: .ref (za z (1 + 27 * 0 + (3 + i))) :: rest)) := by
  refine G_copy C0 hK hsz h (k0 := 1 + 27 * 0 + (3 + i)) (k1 := 1 + 27 * 1 + (3 + i)) (n := 8) (sp := 0) (dp := 0) (by omega) (by omega) (fun ct hA => (hA.2 0 (by omega)).2.2.2.1 i hi) (fun ct hA => (hA.2 1 (by omega)).2.2.2.1 i hi) rfl rfl rfl (by omega) (by omega) (by omega) (by omega) (f2 := qT (σ 0) i) (fun j hj => ?_) (a' := va_up (va_up σ 1 S) 1 (sT ((va_up σ 1 S) 1) i (qT (σ 0) i))) (fun ct hA => hA.T (by omega) hi _) hl hn hs hi9 hr hdg (fun H1 locs1 h1 => kk H1 locs1 _ rfl ?_)
  · rw [pk_cpy_in (by omega) (by omega), va_up_ne _ _ (by omega)]
    congr 1
    omega
  · rw [va_up_self, bx_uu] at h1; exact h1
theorem K_cpP (C0 : Cx p s m args meth c cc nL ret own ws) (hK : QK z s) (hsz : ls.size = nL) (h : GW z (XAt z) 0 55 s.heap c0 (va_up σ 1 S) H locs) {i : Nat} (hi : i < 14)
    {index : Nat} (hl : Cond.methodLink own index arraycopyName ∈ ws) (hn : Cond.native arraycopyName ∈ ws) (hs : Cond.static arraycopyName ∈ ws) (hi9 : Cond.initialized "java/lang/System" ∈ ws) (hr : 1 ≤ R.frames ∧ (rest.map fun v => v.category).sum + (nativeFrameWords "java/lang/System" "arraycopy" 5 + 11) ≤ R.locals) (hdg : decode cc pc = .ok (.invokestatic index, 3))
    (kk : ∀ (H1 : Heap) (locs1 : List Loc) (S1 : QLs), S1 = sP S i (qP (σ 0) i) → GW z (XAt z) 0 55 s.heap c0 (va_up σ 1 S1) H1 locs1 → W p l e R s m args below meth c H1 locs1 cells slots Q (F0 m (pc + 3) ls rest)) : W p l e R s m args below meth c H locs cells slots Q (F0 m pc ls (.int 10 :: .int 0 :: .ref (za z (1 + 27 * 1 + (13 + i))) :: .int 0 :: .ref (za z (1 + 27 * 0 + (13 + i))) :: rest)) := by
  refine G_copy C0 hK hsz h (k0 := 1 + 27 * 0 + (13 + i)) (k1 := 1 + 27 * 1 + (13 + i)) (n := 10) (sp := 0) (dp := 0) (by omega) (by omega) (fun ct hA => (hA.2 0 (by omega)).2.2.2.2 i hi) (fun ct hA => (hA.2 1 (by omega)).2.2.2.2 i hi) rfl rfl rfl (by omega) (by omega) (by omega) (by omega) (f2 := qP (σ 0) i) (fun j hj => ?_) (a' := va_up (va_up σ 1 S) 1 (sP ((va_up σ 1 S) 1) i (qP (σ 0) i))) (fun ct hA => hA.P (by omega) hi _) hl hn hs hi9 hr hdg (fun H1 locs1 h1 => kk H1 locs1 _ rfl ?_)
  · rw [pk_cpy_in (by omega) (by omega), va_up_ne _ _ (by omega)]
    congr 1
    omega
  · rw [va_up_self, bx_uu] at h1; exact h1
/-- a field of the other land -/
theorem K_gO (C0 : Cx p s m args meth c cc nL ret own ws) (hK : QK z s) (h : GW z (XAt z) 0 55 s.heap c0 (va_up σ 1 S) H locs) (hin : ∀ w ∈ u_ws RX0 TX0 5, w ∈ ws) (j : Nat) (hj : j < 5) {index : Nat} (hlink : Cond.fieldLink own index (TX0 j).1 (TX0 j).2.1 (TX0 j).2.2.1 ∈ ws) {v : Value} (hv : [Value.ref (za z (1 + 27 * 0 + 1)), .ref (za z (1 + 27 * 0 + 2)), .int (nI (qt (σ 0))), .int (nI (qp (σ 0))), .int (qD (σ 0))][j]? = some v) (hdg : decode cc pc = .ok (.getfield index, 3))
    (kk : W p l e R s m args below meth c H locs cells slots Q (F0 m (pc + 3) ls (v :: rest))) : W p l e R s m args below meth c H locs cells slots Q (F0 m pc ls (.ref (za z (1 + 27 * 0)) :: rest)) :=
  X_gL C0 hK h (b := 0) (by omega) hin j hj hlink (by rw [va_up_ne _ _ (by omega)]; exact hv) hdg kk
end QCP
abbrev cpTF (S0 : QLs) : Nat → QLs → QLs := fun i X => sT X i (qT S0 i)
abbrev cpPF (S0 : QLs) : Nat → QLs → QLs := fun i X => sP X i (qP S0 i)
def copyL (S0 S1 : QLs) : QLs := itN (cpPF S0) (qp S0) (itN (cpTF S0) (qt S0) (sp_ (st_ (sD S1 (qD S0)) (qt S0)) (qp S0)))
theorem cpT_t (S0 X : QLs) : ∀ n, qt (itN (cpTF S0) n X) = qt X ∧ qp (itN (cpTF S0) n X) = qp X
  | 0 => ⟨rfl, rfl⟩
  | n + 1 => cpT_t S0 X n
theorem cpP_t (S0 X : QLs) : ∀ n, qt (itN (cpPF S0) n X) = qt X ∧ qp (itN (cpPF S0) n X) = qp X
  | 0 => ⟨rfl, rfl⟩
  | n + 1 => cpP_t S0 X n
