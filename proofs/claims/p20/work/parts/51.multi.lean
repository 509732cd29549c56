/-! PART 51: new int[n][m], all of it new cells of the world -/
theorem q_outer (c : ClassId) (N h0 : Nat) : ∀ i : Nat, Jvm.Free.Multi.outerC c N h0 i = arrV c N (fun j => va_rf (if j < i then some (h0 + 1 + j) else none))
  | 0 => by
    show ({ cls := c, slots := Array.replicate N .null, vm := .none } : Cell) = _
    rw [arrV_new]
    refine congrArg (arrV c N) (funext fun j => ?_)
    simp [va_rf]
  | i + 1 => by
    show (Jvm.Free.Multi.outerC c N h0 i).setSlot i (.ref (h0 + 1 + i)) = _
    rw [q_outer c N h0 i, arrV_store]
    refine congrArg (arrV c N) (funext fun j => ?_)
    by_cases e : j = i
    · subst e
      simp [updV, va_rf]
    · by_cases h : j < i
      · simp [updV, e, h, Nat.lt_succ_of_lt h]
      · simp [updV, e, h, show ¬ j < i + 1 by omega]
abbrev qR (n : Nat) (c : ClassId) (f : Nat → Option Nat) : va_E := .inl (c, n, .inr (.inr (.inr (.inr f))))
abbrev mnaO (z : QZ) (N q : Nat) : va_E := qR N (zR z) (fun i => if i < N then some (q + 1 + i) else none)
abbrev mnaR (z : QZ) (N K q : Nat) : va_W := (List.range N).map (fun i => (q + 1 + i, (.inl (zI z, K, .inl (fun _ => (0 : Int32))) : va_E)))
theorem mnaR_get {z : QZ} {N K q k : Nat} {x : Nat × va_E} (h : (mnaR z N K q)[k]? = some x) : k < N ∧ x = (q + 1 + k, .inl (zI z, K, .inl (fun _ => 0))) := by
  have hk : k < N := by
    have := (List.getElem?_eq_some_iff.mp h).1
    simpa [mnaR] using this
  rw [List.getElem?_map, List.getElem?_range hk] at h
  exact ⟨hk, (Option.some.inj h).symm⟩
section QMN
variable {p : Program} {l : Launch} {e : Env} {R : Room} {s : State} {m : MethodId} {args : Array Value} {below : List Frame} {meth : Method} {c : Code} {H : Heap} {locs : List Loc} {cells slots : Nat} {Q : State → Prop}
variable {cc : ByteArray} {nL : Nat} {ret : Option FieldType} {own : String} {ws : List Cond} {pc : Nat} {ls : Array Slot} {rest : List Value} {z : QZ} {w : va_W} {A : Nat → Prop} {H0 : Heap}
theorem q_mna (C0 : Cx p s m args meth c cc nL ret own ws) (hK : QK z s) (hP : va_P (zG z) vwCl w H) (hD : va_D A w) (hS : va_S A H0 H locs) (hA : ∀ q, H0.size ≤ q → A q) {index : Nat} (hl : Cond.classLink own index "[[I" ∈ ws) (hac : Cond.arrayClass .int ∈ ws) {N K : Nat} {n k : Int32} (hn : n = nI N) (hk : k = nI K) (hN : N < 1000) (hK9 : K < 1000) (hc : cells + (1 + N) ≤ R.cells) (hs : slots + (N + N * K) ≤ R.slots) (hdg : decode cc pc = .ok (.multianewarray index 2, 4))
    (kk : ∀ (q : Nat) (H1 : Heap), va_P (zG z) vwCl ((w ++ [(q, mnaO z N q)]) ++ mnaR z N K q) H1 → va_D A ((w ++ [(q, mnaO z N q)]) ++ mnaR z N K q) → va_S A H0 H1 locs → W p l e R s m args below meth c H1 locs (cells + 1 + N) (slots + N + N * K) Q (F0 m (pc + 4) ls (.ref q :: rest))) : W p l e R s m args below meth c H locs cells slots Q (F0 m pc ls (.int k :: .int n :: rest)) := by
  subst hn; subst hk
  have tN : (nI N).toNatClampNeg = N := nI_clamp (by omega)
  have tK : (nI K).toNatClampNeg = K := nI_clamp (by omega)
  intro T hT Xs
  obtain ⟨vm₁, cA, comp, -, fA, fC, hO, -, X', step⟩ := Xs.multianewarray2F C0.1 C0.2.2.2.2.1 (C0.2.2.2.2.2.1 _ hl) (ty := .int) (show (Cond.arrayOver (.array .int)).before args s = true from hK.2.1) (C0.2.2.2.2.2.1 _ hac) (g := F0 m pc ls (.int (nI K) :: .int (nI N) :: rest)) rfl (by rw [C0.2.1]; exact hdg) rfl (nI_pos (by omega)) (nI_pos (by omega)) (by rw [tN]; omega) (by rw [tK]; show K * 4 ≤ _; omega) (by rw [tK]; omega) rfl rfl (by rw [tN]; exact hc) (by rw [tN, tK]; exact hs)
  have ec : comp = zI z := Option.some.inj (fC.symm.trans (q_nmI hK))
  have eA : cA = zR z := Option.some.inj (fA.symm.trans (q_nmR hK))
  subst ec; subst eA
  rw [tN, tK] at X' step
  generalize hF : Jvm.Free.Multi.fill (T.setVm vm₁) (zR z) (zI z) N K (defaultValue .int) N = F at X' step
  have hTh : (T.setVm vm₁).heap = H := hT
  obtain ⟨f1, f2, -, -⟩ := Jvm.Free.Multi.fill_facts (T.setVm vm₁) (zR z) (zI z) N K (defaultValue .int) N
  rw [hF, hTh] at f1 f2
  have hold : ∀ x : Nat, x < H.size → F.heap[x]? = H[x]? := fun x hx => by
    have := Jvm.Free.Multi.fill_old (T.setVm vm₁) (zR z) (zI z) N K (defaultValue .int) (a := x) (by rw [hTh]; exact hx) N
    rw [hF, hTh] at this
    exact this
  have hz : Jvm.Free.Multi.innerC (zI z) K (defaultValue .int) = vp_cell (zI z) (K, .inl (fun _ => (0 : Int32))) := by
    show ({ cls := zI z, slots := Array.replicate K (defaultValue .int), vm := .none } : Cell) = _
    rw [arrV_new]; rfl
  have hrow : ∀ j : Nat, j < N → F.heap[H.size + 1 + j]? = some (vp_cell (zI z) (K, .inl (fun _ => (0 : Int32)))) := fun j hj => by
    have := Jvm.Free.Multi.fill_inner (T.setVm vm₁) (zR z) (zI z) N K (defaultValue .int) N j hj
    rw [hF, hTh, hz] at this
    exact this
  have hout : Jvm.Free.Multi.outerC (zR z) N H.size N = vp_cell (zR z) (N, .inr (.inr (.inr (.inr (fun i => if i < N then some (H.size + 1 + i) else none))))) := by
    rw [vp_cell_q]
    exact q_outer (zR z) N H.size N
  rw [hout] at f2
  have hP0 : va_P (zG z) vwCl w F.heap := hP.kept (fun k9 x hx => hold x.1 ((hP k9 x hx).lt))
  have hP1 : va_P (zG z) vwCl (w ++ [(H.size, mnaO z N H.size)]) F.heap := hP0.app (fun k9 x hx => by
    have h0 : k9 < 1 := (List.getElem?_eq_some_iff.mp hx).1
    rw [show k9 = 0 by omega] at hx
    cases hx
    exact f2)
  have hP2 : va_P (zG z) vwCl ((w ++ [(H.size, mnaO z N H.size)]) ++ mnaR z N K H.size) F.heap := hP1.app (fun k9 x hx => by
    obtain ⟨h1, rfl⟩ := mnaR_get hx
    exact hrow k9 h1)
  have hD1 : va_D A (w ++ [(H.size, mnaO z N H.size)]) := hD.push hP rfl (hA _ hS.1)
  have hD2 : va_D A ((w ++ [(H.size, mnaO z N H.size)]) ++ mnaR z N K H.size) := by
    generalize hW1 : w ++ [(H.size, mnaO z N H.size)] = W1 at hD1
    have hle : ∀ (k9 : Nat) (x : Nat × va_E), W1[k9]? = some x → x.1 ≤ H.size := fun k9 x hx => by
      rw [← hW1] at hx
      by_cases hl : k9 < w.length
      · rw [List.getElem?_append_left hl] at hx
        exact Nat.le_of_lt ((hP k9 x hx).lt)
      · rw [List.getElem?_append_right (by omega)] at hx
        have h0 : k9 - w.length < 1 := (List.getElem?_eq_some_iff.mp hx).1
        rw [show k9 - w.length = 0 by omega] at hx
        cases hx
        exact Nat.le_refl _
    refine ⟨fun i j x y hi hj hxy => ?_, fun k9 x hx => ?_⟩
    · by_cases h1 : i < W1.length <;> by_cases h2 : j < W1.length
      · rw [List.getElem?_append_left h1] at hi
        rw [List.getElem?_append_left h2] at hj
        exact hD1.1 i j x y hi hj hxy
      · rw [List.getElem?_append_left h1] at hi
        rw [List.getElem?_append_right (by omega)] at hj
        have := hle _ _ hi
        obtain ⟨-, rfl⟩ := mnaR_get hj
        have h9 : x.1 = H.size + 1 + (j - W1.length) := hxy
        omega
      · rw [List.getElem?_append_right (by omega)] at hi
        rw [List.getElem?_append_left h2] at hj
        have := hle _ _ hj
        obtain ⟨-, rfl⟩ := mnaR_get hi
        have h9 : H.size + 1 + (i - W1.length) = y.1 := hxy
        omega
      · rw [List.getElem?_append_right (by omega)] at hi hj
        obtain ⟨-, rfl⟩ := mnaR_get hi
        obtain ⟨-, rfl⟩ := mnaR_get hj
        have h9 : H.size + 1 + (i - W1.length) = H.size + 1 + (j - W1.length) := hxy
        omega
    · by_cases h1 : k9 < W1.length
      · rw [List.getElem?_append_left h1] at hx
        exact hD1.2 k9 x hx
      · rw [List.getElem?_append_right (by omega)] at hx
        obtain ⟨-, rfl⟩ := mnaR_get hx
        exact hA _ (by have := hS.1; show H0.size ≤ H.size + 1 + _; omega)
  obtain ⟨t, a1, b1⟩ := kk H.size F.heap hP2 hD2 ⟨by rw [f1]; have := hS.1; omega, fun x h1 h2 => (hold x (Nat.lt_of_lt_of_le h1 hS.1)).trans (hS.2.1 x h1 h2), hS.2.2⟩ F rfl X'
  refine ⟨t, step t ?_, b1⟩
  have e : T.heap.size = H.size := by rw [hT]
  rw [e]
  exact a1
end QMN
