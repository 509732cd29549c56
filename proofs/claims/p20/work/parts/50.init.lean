/-! PART 50: constructors -/
def PreN (z : QZ) (w : va_W) (sz : Nat) : State → Prop := fun U => U.heap.size = sz ∧ va_P (zG z) vwCl w U.heap ∧ QK z U ∧ va_D (fun _ => True) w
theorem preN_blind {z : QZ} {w : va_W} {sz : Nat} {av : List Value} : FrameBlind (va_Pc av (PreN z w sz)) := fun a U g mk q => by
  obtain ⟨q0, q1, qP, qK, qD⟩ := q
  exact ⟨q0, q1, qP, QK.same rfl qK, qD⟩
theorem set_app {w X : va_W} {k : Nat} {y : Nat × va_E} {q : Nat × va_E} (h : w[k]? = some q) : (w ++ X).set k y = w.set k y ++ X := List.set_append_left _ _ (List.getElem?_eq_some_iff.mp h).1
theorem get_app {w X : va_W} {k : Nat} {q : Nat × va_E} (h : w[k]? = some q) : (w ++ X)[k]? = some q := by
  rw [List.getElem?_append_left (List.getElem?_eq_some_iff.mp h).1]; exact h
theorem get_set {w : va_W} {k : Nat} {q y : Nat × va_E} (h : w[k]? = some q) : (w.set k y)[k]? = some y := by
  rw [List.getElem?_set_self (List.getElem?_eq_some_iff.mp h).1]
section QNW
variable {p : Program} {l : Launch} {e : Env} {R : Room} {s : State} {m : MethodId} {args : Array Value} {below : List Frame} {meth : Method} {c : Code} {H : Heap} {locs : List Loc} {cells slots : Nat} {Q : State → Prop}
variable {cc : ByteArray} {nL : Nat} {ret : Option FieldType} {own : String} {ws : List Cond} {pc : Nat} {ls : Array Slot} {rest : List Value} {z : QZ} {w : va_W} {A : Nat → Prop} {H0 : Heap} {c0 : Nat → va_E} {M : QMs}
theorem q_nmI (hK : QK z s) : s.vm.findClass "[I" = some (zI z) := (hK.1.2 0 _ rfl).2
theorem q_nmR (hK : QK z s) : s.vm.findClass "[[I" = some (zR z) := (hK.1.2 1 _ rfl).2
theorem q_newi (C0 : Cx p s m args meth c cc nL ret own ws) (hK : QK z s) (hP : va_P (zG z) vwCl w H) (hD : va_D A w) (hS : va_S A H0 H locs) (hA : ∀ q, H0.size ≤ q → A q) (hw : Cond.arrayClass .int ∈ ws) {n : Nat} {x : Int32} (hx : x = nI n) (hn : n < 1000) (hc : cells + 1 ≤ R.cells) (hs : slots + n ≤ R.slots) (hdg : decode cc pc = .ok (.newarray .int, 2))
    (kk : ∀ (q : Nat) (H1 : Heap), va_P (zG z) vwCl (w ++ [(q, .inl (zI z, n, .inl (fun _ => 0)))]) H1 → va_D A (w ++ [(q, .inl (zI z, n, .inl (fun _ => 0)))]) → va_S A H0 H1 locs → W p l e R s m args below meth c H1 locs (cells + 1) (slots + n) Q (F0 m (pc + 2) ls (.ref q :: rest))) : W p l e R s m args below meth c H locs cells slots Q (F0 m pc ls (.int x :: rest)) := by
  subst hx
  have t0 : (nI n).toNatClampNeg = n := nI_clamp (by omega)
  refine W.newa C0.1 C0.2.1 (atype := .int) (C0.2.2.2.2.2.1 _ hw) rfl hdg rfl (nI_pos (by omega)) (by rw [t0]; show n * 4 ≤ _; omega) hc (by rw [t0]; exact hs) fun cA kA comp f1 f2 f3 => ?_
  have ec : cA = zI z := Option.some.inj (f1.symm.trans (q_nmI hK))
  subst ec
  rw [t0]
  generalize hH1 : H.push ({ cls := zI z, slots := Array.replicate n (defaultValue (newarray.typeOf .int)), vm := .none } : Cell) = H1
  have z1 : H1.size = H.size + 1 := by rw [← hH1, Array.size_push]
  have e1 : H1[H.size]? = some (arrV (zI z) n (fun _ => .int 0)) := by rw [← hH1, Array.getElem?_push_size, ← arrV_new]; rfl
  have o1 : ∀ q : Nat, q < H.size → H1[q]? = H[q]? := fun q hq => by rw [← hH1, Array.getElem?_push, if_neg (Nat.ne_of_lt hq)]
  refine kk H.size H1 ((hP.kept (fun k y hy => o1 y.1 ((hP k y hy).lt))).app (fun k y hy => ?_)) (hD.push hP rfl (hA _ hS.1)) ⟨Nat.le_trans hS.1 (by omega), fun y h1 h2 => (o1 y (Nat.lt_of_lt_of_le h1 hS.1)).trans (hS.2.1 y h1 h2), hS.2.2⟩
  have hz : k < 1 := (List.getElem?_eq_some_iff.mp hy).1
  rw [show k = 0 by omega] at hy
  cases hy
  show H1[H.size]? = some (vp_cell _ _)
  rw [e1]
  rfl
end QNW
