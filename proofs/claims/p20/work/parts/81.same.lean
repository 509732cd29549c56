/-! PART 81: what isSame needs: arrays with names for what they hold, the suspect from behind, doubles -/
section UI
variable {p : Program} {l : Launch} {e : Env} {R : Room} {s : State} {m : MethodId} {args : Array Value} {below : List Frame} {meth : Method} {c : Code} {H : Heap} {locs : List Loc} {cells slots : Nat} {Q : State → Prop}
variable {cc : ByteArray} {nL : Nat} {ret : Option FieldType} {own : String} {ws : List Cond} {pc : Nat} {ls : Array Slot} {rest : List Value} {z : QZ} {c0 : Nat → va_E}
variable {ix : Nat → Nat} {t q b n : Nat} {X Y S : QLs} {f : Nat → Nat × (Nat → Int32)}
theorem U_ni2 (C0 : Cx p s m args meth c cc nL ret own ws) (hK : QK z s) (h : GW z (UAt z ix t q b n) 0 (b + n) s.heap c0 (X, Y, S, f) H locs) (hzn : zn z = b + n) (hw : Cond.arrayClass .int ∈ ws) {len : Nat} {x : Int32} (hx : x = nI len) (hlen : len < 1000) (hc : cells + 1 ≤ R.cells) (hs : slots + len ≤ R.slots) (hdg : decode cc pc = .ok (.newarray .int, 2))
    (kk : ∀ (z2 : QZ) (c1 : Nat → va_E) (H1 : Heap) (f1 : Nat → Nat × (Nat → Int32)), XZ s.heap.size z z2 → zn z2 = b + (n + 1) → QK z2 s → f1 n = (len, fun _ => 0) → (∀ k, k ≠ n → f1 k = f k) → GW z2 (UAt z2 ix t q b (n + 1)) 0 (b + (n + 1)) s.heap c1 (X, Y, S, f1) H1 locs → W p l e R s m args below meth c H1 locs (cells + 1) (slots + len) Q (F0 m (pc + 2) ls (.ref (za z2 (b + n)) :: rest))) : W p l e R s m args below meth c H locs cells slots Q (F0 m pc ls (.int x :: rest)) :=
  U_ni C0 hK h hzn hw hx hlen hc hs hdg (fun z2 c1 H1 hX hz hK2 h1 => kk z2 c1 H1 _ hX hz hK2 (va_up_self _ _ _) (fun k hk => va_up_ne _ _ hk) h1)
theorem U_is2 (C0 : Cx p s m args meth c cc nL ret own ws) (hK : QK z s) (h : GW z (UAt z ix t q b n) 0 (b + n) s.heap c0 (X, Y, S, f) H locs) {j i len : Nat} {g : Nat → Int32} (hj : j < n) (hf : f j = (len, g)) {x v : Int32} (hx : x = nI i) (hi : i < len) (hl : len < 1000) (hdg : decode cc pc = .ok (.iastore, 1))
    (kk : ∀ (H1 : Heap) (locs1 : List Loc) (f1 : Nat → Nat × (Nat → Int32)), f1 j = (len, upd g i v) → (∀ k, k ≠ j → f1 k = f k) → GW z (UAt z ix t q b n) 0 (b + n) s.heap c0 (X, Y, S, f1) H1 locs1 → W p l e R s m args below meth c H1 locs1 cells slots Q (F0 m (pc + 1) ls rest)) : W p l e R s m args below meth c H locs cells slots Q (F0 m pc ls (.int v :: .int x :: .ref (za z (b + j)) :: rest)) :=
  U_is C0 hK h hj hx (by rw [hf]; exact hi) (by rw [hf]; exact hl) hdg (fun H1 locs1 h1 => kk H1 locs1 _ (by rw [va_up_self, hf]) (fun k hk => va_up_ne _ _ hk) h1)
theorem U_il2 (C0 : Cx p s m args meth c cc nL ret own ws) (hK : QK z s) (h : GW z (UAt z ix t q b n) 0 (b + n) s.heap c0 (X, Y, S, f) H locs) {j i len : Nat} {g : Nat → Int32} (hj : j < n) (hf : f j = (len, g)) {x : Int32} (hx : x = nI i) (hi : i < len) (hl : len < 1000) (hdg : decode cc pc = .ok (.iaload, 1))
    (kk : W p l e R s m args below meth c H locs cells slots Q (F0 m (pc + 1) ls (.int (g i) :: rest))) : W p l e R s m args below meth c H locs cells slots Q (F0 m pc ls (.int x :: .ref (za z (b + j)) :: rest)) := by
  refine U_il C0 hK h hj hx (by rw [hf]; exact hi) (by rw [hf]; exact hl) hdg ?_
  rw [hf]; exact kk
end UI
def SUp (X : QLs) (q k : Nat) (su : Int32) : Prop := (su = -1 ∧ ∀ i, k ≤ i → i < q → qP X i 6 ≤ 0) ∨ ∃ j, (k ≤ j ∧ j < q) ∧ su = nI j ∧ 0 < qP X j 6 ∧ (∀ i, k ≤ i → i < q → qP X i 6 ≤ qP X j 6) ∧ ∀ i, k ≤ i → i < j → qP X i 6 < qP X j 6
theorem SUp.st {X : QLs} {q : Nat} : SUp X q q (-1) := Or.inl ⟨rfl, fun i h1 h2 => by omega⟩
theorem SUp.pos {X : QLs} {q k : Nat} {su : Int32} (h : SUp X q k su) (hs : ¬ su < 0) : ∃ j, (k ≤ j ∧ j < q) ∧ su = nI j ∧ 0 < qP X j 6 ∧ (∀ i, k ≤ i → i < q → qP X i 6 ≤ qP X j 6) ∧ ∀ i, k ≤ i → i < j → qP X i 6 < qP X j 6 := by
  rcases h with ⟨h1, -⟩ | h
  · exact absurd (by rw [h1]; decide) hs
  · exact h
theorem SUp.low {X : QLs} {q k : Nat} {su : Int32} (h : SUp X q (k + 1) su) (hq : k < q) (c : qP X k 6 ≤ 0) : SUp X q k su := by
  rcases h with ⟨h1, h2⟩ | ⟨j, h1, h2, h3, h4, h5⟩
  · refine Or.inl ⟨h1, fun i a b => ?_⟩
    by_cases e : i = k
    · subst e; exact c
    · exact h2 i (by omega) b
  · have c1 := i_le.mp c; have c2 := i_lt.mp h3
    refine Or.inr ⟨j, ⟨by omega, h1.2⟩, h2, h3, fun i a b => ?_, fun i a b => ?_⟩
    · by_cases e : i = k
      · subst e; rw [i_le]; omega
      · exact h4 i (by omega) b
    · by_cases e : i = k
      · subst e; rw [i_lt]; omega
      · exact h5 i (by omega) b
theorem SUp.less {X : QLs} {q k j : Nat} (h : SUp X q (k + 1) (nI j)) (hj : j < q) (hq : q < 1000) (c : qP X k 6 < qP X j 6) : SUp X q k (nI j) := by
  rcases h with ⟨h1, -⟩ | ⟨i, h1, h2, h3, h4, h5⟩
  · have := congrArg Int32.toInt h1
    rw [nI_toInt (by omega), show (-1 : Int32).toInt = -1 by decide] at this
    omega
  · have e : j = i := (nI_eq (by omega) (by omega)).mp h2
    subst e
    have c1 := i_lt.mp c
    refine Or.inr ⟨j, ⟨by omega, h1.2⟩, rfl, h3, fun i a b => ?_, fun i a b => ?_⟩
    · by_cases e : i = k
      · subst e; rw [i_le]; omega
      · exact h4 i (by omega) b
    · by_cases e : i = k
      · subst e; exact c
      · exact h5 i (by omega) b
theorem SUp.new1 {X : QLs} {q k : Nat} {su : Int32} (h : SUp X q (k + 1) su) (hq : k < q) (hq9 : q < 1000) (c : ¬ qP X k 6 ≤ 0) (hs : su < 0) : SUp X q k (nI k) := by
  have c0 : 0 < qP X k 6 := Int32.not_le.mp c
  have c1 := i_lt.mp c0
  rcases h with ⟨h1, h2⟩ | ⟨j, h1, h2, -⟩
  · refine Or.inr ⟨k, ⟨Nat.le_refl _, hq⟩, rfl, c0, fun i a b => ?_, fun i a b => by omega⟩
    by_cases e : i = k
    · subst e; rw [i_le]; omega
    · have := i_le.mp (h2 i (by omega) b); rw [i_le]; omega
  · rw [h2] at hs
    exact absurd hs (nI_pos (by omega))
theorem SUp.new2 {X : QLs} {q k j : Nat} (h : SUp X q (k + 1) (nI j)) (hq : k < q) (hj : j < q) (hq9 : q < 1000) (c : ¬ qP X k 6 ≤ 0) (c2 : ¬ qP X k 6 < qP X j 6) : SUp X q k (nI k) := by
  have c0 : 0 < qP X k 6 := Int32.not_le.mp c
  have c3 := i_nlt c2
  rcases h with ⟨h1, -⟩ | ⟨i, h1, h2, h3, h4, h5⟩
  · have := congrArg Int32.toInt h1
    rw [nI_toInt (by omega), show (-1 : Int32).toInt = -1 by decide] at this
    omega
  · have e : j = i := (nI_eq (by omega) (by omega)).mp h2
    subst e
    refine Or.inr ⟨k, ⟨Nat.le_refl _, hq⟩, rfl, c0, fun i a b => ?_, fun i a b => by omega⟩
    by_cases e : i = k
    · subst e; rw [i_le]; omega
    · have := i_le.mp (h4 i (by omega) b); rw [i_le]; omega
theorem SUp.eq {X : QLs} {q : Nat} {su : Int32} (h : SUp X q 0 su) (hq : q < 1000) : (qsus X q).1 = su := by
  obtain ⟨-, hs⟩ := sus_mx X q hq
  rcases h with ⟨h1, h2⟩ | ⟨j, h1, h2, h3, h4, h5⟩ <;> rcases hs with ⟨a1, a2, a3⟩ | ⟨i, a1, a2, a3, a4, a5, a6⟩
  · rw [h1, a1]
  · have b1 := i_le.mp (h2 i (by omega) a1); have b2 := i_lt.mp a4; omega
  · have b1 := i_le.mp (a3 j h1.2); have b2 := i_lt.mp h3; omega
  · have e : i = j := by
      rcases Nat.lt_trichotomy i j with q | q | q
      · have b1 := i_lt.mp (h5 i (by omega) q); have b2 := i_le.mp (a5 j h1.2); omega
      · exact q
      · have b1 := i_lt.mp (a6 j q); have b2 := i_le.mp (h4 i (by omega) a1); omega
    rw [a2, h2, e]
theorem dcmp_same {a : UInt64} (h : FP.Core.dIsNaN a = false) (op : CmpOp) : Op.cmpValue (FP.dcmp a a) op = 0 := by
  have e : FP.dcmp a a = some .eq := FP.Core.dcmp_refl h
  rw [e]; rfl
theorem mean_same {X : QLs} (op : CmpOp) : (qD X = 0 → Op.cmpValue (FP.dcmp (qmean X) FP.dconst0) op = 0) ∧ (¬ qD X = 0 → Op.cmpValue (FP.dcmp (qmean X) (FP.ddiv (FP.i2d (sumT X 6)) (FP.i2d (qD X)))) op = 0) := by
  refine ⟨fun c => ?_, fun c => ?_⟩
  · have e : qmean X = FP.dconst0 := if_pos c
    rw [e]
    exact dcmp_same (by decide +kernel) op
  · have e : qmean X = FP.ddiv (FP.i2d (sumT X 6)) (FP.i2d (qD X)) := if_neg c
    rw [e]
    refine dcmp_same ?_ op
    exact FP.Core.ddiv_out (FP.Core.i2d_fin _).notNaN (FP.Core.i2d_fin _) (fun hz => FP.Core.i2d_ne_zero c ((FP.Core.zero_bits2 _).mp hz))
