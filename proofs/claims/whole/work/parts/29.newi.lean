/-! PART 29: new int arrays -/
/-- the reference's state, a new int array as the world's last cell -/
def NAt (z : QZ) (K n : Nat) (c0 : Nat → va_E) (a : QMs × (Nat → Int32)) (ct : Nat → va_E) : Prop := MAt z a.1 ct ∧ ct K = .inl (zI z, n, .inl a.2) ∧ ∀ k, 59 ≤ k → k < K → ct k = c0 k
theorem NAt.up {z : QZ} {K n : Nat} {c0 : Nat → va_E} {M M2 : QMs} {f : Nat → Int32} {ct : Nat → va_E} {k : Nat} {e : va_E} (h : NAt z K n c0 (M, f) ct) (hk : k < 59) (hK : 59 ≤ K) (h2 : MAt z M2 (va_up ct k e)) : NAt z K n c0 (M2, f) (va_up ct k e) :=
  ⟨h2, by rw [va_up_ne _ _ (by omega)]; exact h.2.1, fun j h3 h4 => by rw [va_up_ne _ _ (by omega)]; exact h.2.2 j h3 h4⟩
theorem NAt.st {z : QZ} {K n : Nat} {c0 : Nat → va_E} {M : QMs} {f f2 : Nat → Int32} {ct : Nat → va_E} (h : NAt z K n c0 (M, f) ct) (hK : 59 ≤ K) : NAt z K n c0 (M, f2) (va_up ct K (.inl (zI z, n, .inl f2))) :=
  ⟨h.1.off (fun k h1 h2 => va_up_ne _ _ (by omega)), va_up_self _ _ _, fun j h3 h4 => by rw [va_up_ne _ _ (by omega)]; exact h.2.2 j h3 h4⟩
theorem GW_backN {z zk : QZ} {H0 H1 : Heap} {c0 c1 : Nat → va_E} {M : QMs} {f : Nat → Int32} {n : Nat} {locs : List Loc} (h : GW zk (NAt zk (zn z) n c0) 55 (zn z + 1) H0 c1 (M, f) H1 locs) (hout : ∀ k, zn z ≤ k → k < zn zk → H0.size ≤ za zk k) (hag : ∀ k, k < zn z → za zk k = za z k) (hN : zn z ≤ zn zk) (hG : zG zk = zG z) (hI : zI zk = zI z) (hc : ∀ k, k < 55 → c1 k = c0 k) (h59 : 59 ≤ zn z) : GW z (MAt z) 55 59 H0 c0 M H1 locs := by
  obtain ⟨ct, hP, hS, ⟨hM, -, h9⟩, hF, -, hq⟩ := h
  refine ⟨fun k => if k < zn z then ct k else c0 k, ?_, hS.iff (qA_two hN hag hout), hM.same (fun k h1 h2 => (hag k (by omega)).symm) hI.symm (fun k h1 h2 => if_pos (by omega)), ?_, h59, fun i j hi hj e => hq i j (by omega) (by omega) (by rw [hag i hi, hag j hj]; exact e)⟩
  · intro k x hk
    obtain ⟨h1, rfl⟩ := wd_of hk
    have h2 := hP k _ (wd_get (show k < zn zk by omega))
    rw [hag k h1, hG] at h2
    show va_at (zG z) vwCl (za z k, if k < zn z then ct k else c0 k) H1
    rw [if_pos h1]; exact h2
  · intro k hk
    show (if k < zn z then ct k else c0 k) = c0 k
    by_cases h1 : k < zn z
    · rw [if_pos h1]
      by_cases h2 : k < 55
      · rw [hF k (by omega), hc k h2]
      · exact h9 k (by omega) h1
    · rw [if_neg h1]
section QNW
variable {p : Program} {l : Launch} {e : Env} {R : Room} {s : State} {m : MethodId} {args : Array Value} {below : List Frame} {meth : Method} {c : Code} {H : Heap} {locs : List Loc} {cells slots : Nat} {Q : State → Prop}
variable {cc : ByteArray} {nL : Nat} {ret : Option FieldType} {own : String} {ws : List Cond} {pc : Nat} {ls : Array Slot} {rest : List Value} {z : QZ} {w : va_W} {A : Nat → Prop} {H0 : Heap} {c0 : Nat → va_E} {M : QMs}
theorem q_newi (C0 : Cx p s m args meth c cc nL ret own ws) (hK : QK z s) (hP : va_P (zG z) vwCl w H) (hD : va_D A w) (hS : va_S A H0 H locs) (hA : ∀ q, H0.size ≤ q → A q) (hw : Cond.arrayClass .int ∈ ws) {n : Nat} {x : Int32} (hx : x = nI n) (hn : n < 1000) (hc : cells + 1 ≤ R.cells) (hs : slots + n ≤ R.slots) (hdg : decode cc pc = .ok (.newarray .int, 2))
    (kk : ∀ (q : Nat) (H1 : Heap), va_P (zG z) vwCl (w ++ [(q, .inl (zI z, n, .inl (fun _ => 0)))]) H1 → va_D A (w ++ [(q, .inl (zI z, n, .inl (fun _ => 0)))]) → va_S A H0 H1 locs → W p l e R s m args below meth c H1 locs (cells + 1) (slots + n) Q (F0 m (pc + 2) ls (.ref q :: rest))) : W p l e R s m args below meth c H locs cells slots Q (F0 m pc ls (.int x :: rest)) := by
  subst hx
  have t0 : (nI n).toNatClampNeg = n := nI_clamp (by omega)
  refine W.newa C0.1 C0.2.1 (atype := .int) (C0.2.2.2.2.2.1 _ hw) rfl hdg rfl (nI_pos (by omega)) (by rw [t0]; show n * 4 ≤ _; omega) hc (by rw [t0]; exact hs) fun cA kA comp f1 f2 f3 => ?_
  have ec : cA = zI z := Option.some.inj (f1.symm.trans (q_nmI hK))
  subst ec
  rw [t0]
  generalize hH1 : H.push ({ cls := zI z, slots := Array.replicate n (defaultValue (newarray.typeOf .int)), vm := .none } : Cell) = H1
  have z1 : H1.size = H.size + 1 := by rw [← hH1, Array.size_push]
  have e1 : H1[H.size]? = some (arrV (zI z) n (fun _ => .int 0)) := by rw [← hH1, Array.getElem?_push_size, ← arrV_new]; rfl
  have o1 : ∀ q : Nat, q < H.size → H1[q]? = H[q]? := fun q hq => by rw [← hH1, Array.getElem?_push, if_neg (Nat.ne_of_lt hq)]
  refine kk H.size H1 ((hP.kept (fun k y hy => o1 y.1 ((hP k y hy).lt))).app (fun k y hy => ?_)) (hD.push hP rfl (hA _ hS.1)) ⟨Nat.le_trans hS.1 (by omega), fun y h1 h2 => (o1 y (Nat.lt_of_lt_of_le h1 hS.1)).trans (hS.2.1 y h1 h2), hS.2.2⟩
  have hz : k < 1 := (List.getElem?_eq_some_iff.mp hy).1
  rw [show k = 0 by omega] at hy
  cases hy
  show H1[H.size]? = some (vp_cell _ _)
  rw [e1]
  rfl
theorem G_newi (C0 : Cx p s m args meth c cc nL ret own ws) (hK : QK z s) (h : GW z (MAt z) 55 59 s.heap c0 M H locs) (hw : Cond.arrayClass .int ∈ ws) {n : Nat} {x : Int32} (hx : x = nI n) (hn : n < 1000) (hc : cells + 1 ≤ R.cells) (hs : slots + n ≤ R.slots) (hdg : decode cc pc = .ok (.newarray .int, 2))
    (kk : ∀ (zk : QZ) (c1 : Nat → va_E) (H1 : Heap), QK zk s → zn zk = zn z + 1 → 59 ≤ zn z → (∀ k, k < zn z → za zk k = za z k) → GW zk (NAt zk (zn z) n c0) 55 (zn z + 1) s.heap c1 (M, fun _ => 0) H1 locs → (∀ M2 f2 H2 locs2, GW zk (NAt zk (zn z) n c0) 55 (zn z + 1) s.heap c1 (M2, f2) H2 locs2 → GW z (MAt z) 55 59 s.heap c0 M2 H2 locs2) → W p l e R s m args below meth c H1 locs (cells + 1) (slots + n) Q (F0 m (pc + 2) ls (.ref (za zk (zn z)) :: rest))) : W p l e R s m args below meth c H locs cells slots Q (F0 m pc ls (.int x :: rest)) := by
  obtain ⟨ct, hP, hS, hA, hF, hn9, hq⟩ := h
  refine q_newi C0 hK hP (wd_DA hq) hS (fun q h => Or.inr h) hw hx hn hc hs hdg (fun q H1 hP1 hD1 hS1 => ?_)
  have hq9 := wd_new hD1
  rw [wd_snoc] at hP1 hD1
  have hag : ∀ k, k < zn z → za (zx z q) k = za z k := fun k hk => va_up_ne _ _ (by omega)
  have hout : ∀ k, zn z ≤ k → k < zn (zx z q) → s.heap.size ≤ za (zx z q) k := fun k h1 h2 => by
    have h3 : k < zn z + 1 := h2
    rw [show k = zn z by omega]
    show s.heap.size ≤ va_up (za z) (zn z) q (zn z)
    rw [va_up_self]; exact hq9
  rw [show (.ref q : Value) = .ref (za (zx z q) (zn z)) from by
    show (.ref q : Value) = .ref (va_up (za z) (zn z) q (zn z))
    rw [va_up_self]]
  refine kk (zx z q) (va_up ct (zn z) (.inl (zI z, n, .inl (fun _ => 0)))) H1 hK rfl hn9 hag (GW_grow (z := z) (by show zn z ≤ zn z + 1; omega) rfl hag hout hP1 (wd_qI hD1) hS1 ⟨?_, va_up_self _ _ _, ?_⟩ (Nat.le_refl _)) (fun M2 f2 H2 locs2 h2 => GW_backN h2 hout hag (by show zn z ≤ zn z + 1; omega) rfl rfl (fun k hk => by rw [va_up_ne _ _ (by omega)]; exact hF k (by omega)) hn9)
  · exact hA.same (fun k h1 h2 => hag k (by omega)) rfl (fun k h1 h2 => va_up_ne _ _ (by omega))
  · intro k h1 h2
    rw [va_up_ne _ _ (by omega)]; exact hF k (by omega)
end QNW
