/-! PART 69: what always holds of the class's land; numbers of the law -/
def Inv (D : Nat) (X : QLs) : Prop := (∃ M, RR D X M) ∧ ZZ X ∧ ∀ i, i < qt X → 0 ≤ (qT X i 7).toInt ∧ (qT X i 7).toInt ≤ 300 * D
theorem Inv.ok {D : Nat} {X : QLs} (h : Inv D X) : LOk X := by
  obtain ⟨⟨M, h⟩, -⟩ := h
  exact h.1
theorem Inv.new : Inv 0 S00 := ⟨⟨M00, RR.new.1⟩, RR.new.2, fun i hi => by have : i < 0 := hi; omega⟩
theorem sBuild_eq {X : QLs} (hz : ZZ X) (x y v : Int32) : sBuild X x y v = addT X x y v := by
  have zf : qT X (qt X) = fun _ => 0 := funext (hz.1 _ (Nat.le_refl _))
  unfold sBuild addT
  rw [zf]
theorem sLay_eq {X : QLs} (hz : ZZ X) (x y v w : Int32) : sLay X x y v w = addP X x y v w := by
  have zf : qP X (qp X) = fun _ => 0 := funext (hz.2 _ (Nat.le_refl _))
  unfold sLay addP
  rw [zf]
theorem Inv.build {D : Nat} {X : QLs} (h : Inv D X) (ht : qt X < 10) {x y v : Int32} (h9 : (0 ≤ x ∧ x ≤ 99) ∧ (0 ≤ y ∧ y ≤ 20) ∧ (0 ≤ v ∧ v ≤ 20)) : Inv D (addT X x y v) := by
  obtain ⟨⟨M, hR⟩, hz, h7⟩ := h
  obtain ⟨h1, h2⟩ := hR.build hz ht h9
  refine ⟨⟨_, h1⟩, h2, fun i hi => ?_⟩
  have zf : qT X (qt X) = fun _ => 0 := funext (hz.1 _ (Nat.le_refl _))
  have hi2 : i < qt X + 1 := hi
  show 0 ≤ (va_up (qT X) (qt X) (upd (upd (upd (qT X (qt X)) 0 x) 1 y) 2 v) i 7).toInt ∧ _
  by_cases e : i = qt X
  · subst e
    have e7 : qT (addT X x y v) (qt X) 7 = 0 := by
      show va_up (qT X) (qt X) (upd (upd (upd (qT X (qt X)) 0 x) 1 y) 2 v) (qt X) 7 = 0
      rw [va_up_self, zf]; rfl
    have e8 : va_up (qT X) (qt X) (upd (upd (upd (qT X (qt X)) 0 x) 1 y) 2 v) (qt X) 7 = 0 := e7
    rw [e7, e8, i_0]; omega
  · have e7 : qT (addT X x y v) i 7 = qT X i 7 := by
      show va_up (qT X) (qt X) (upd (upd (upd (qT X (qt X)) 0 x) 1 y) 2 v) i 7 = _
      rw [va_up_ne _ _ e]
    have e8 : va_up (qT X) (qt X) (upd (upd (upd (qT X (qt X)) 0 x) 1 y) 2 v) i 7 = qT X i 7 := e7
    rw [e7, e8]; exact h7 i (by omega)
theorem Inv.lay {D : Nat} {X : QLs} (h : Inv D X) (hp : qp X < 14) {i j : Nat} (hi : i < qt X) (hj : j < qt X) (hne : i ≠ j) {x y : Int32} (h9 : (1 ≤ x ∧ x ≤ 20) ∧ (0 ≤ y ∧ y ≤ 60)) : Inv D (addP X (nI i) (nI j) x y) := by
  obtain ⟨⟨M, hR⟩, hz, h7⟩ := h
  obtain ⟨h1, h2⟩ := hR.lay hz hp hi hj hne h9
  exact ⟨⟨_, h1⟩, h2, h7⟩
theorem inv_T {D : Nat} {X : QLs} (h : Inv D X) {i k : Nat} (hi : i < qt X) (hk : k ≠ 7) {v : Int32} (h2 : ∃ M, RR D (sT X i (upd (qT X i) k v)) M) : Inv D (sT X i (upd (qT X i) k v)) := by
  obtain ⟨-, hz, h7⟩ := h
  refine ⟨h2, hz.ext (ext_sT hi), fun j hj => ?_⟩
  have hj2 : j < qt X := hj
  by_cases e : j = i
  · subst e; rw [qT_sT, pk_un (fun q => hk q.symm)]; exact h7 j hj2
  · rw [qT_sTn _ _ e]; exact h7 j hj2
theorem Inv.set {D : Nat} {X : QLs} (h : Inv D X) {i : Nat} {x y : Int32} (hi : i < qt X) (hx : 0 ≤ x ∧ x ≤ 20) (hy : 0 ≤ y ∧ y ≤ 20) : Inv D (sT (sT X i (upd (qT X i) 1 x)) i (upd (qT (sT X i (upd (qT X i) 1 x)) i) 2 y)) := by
  obtain ⟨⟨M, hR⟩, hz, h7⟩ := id h
  have hx' := i_rng hx
  rw [i_0, i_20] at hx'
  have g1 : Inv D (sT X i (upd (qT X i) 1 x)) := inv_T h hi (by decide) ⟨_, hR.setAt hi (by decide) ((hR.2.2.2.2.2.2.1 i hi).s1 hx')⟩
  exact inv_T g1 hi (by decide) ⟨_, hR.set hi hx hy⟩
theorem Inv.flush {D : Nat} {X : QLs} (h : Inv D X) {i : Nat} (hi : i < qt X) : Inv D (sT (sT X i (upd (qT X i) 4 0)) i (upd (qT (sT X i (upd (qT X i) 4 0)) i) 3 (qT (sT X i (upd (qT X i) 4 0)) i 3 / 2))) := by
  obtain ⟨⟨M, hR⟩, hz, h7⟩ := id h
  have g1 : Inv D (sT X i (upd (qT X i) 4 0)) := inv_T h hi (by decide) ⟨_, hR.setAt hi (by decide) ((hR.2.2.2.2.2.2.1 i hi).s4 (by rw [i_0]; omega))⟩
  exact inv_T g1 hi (by decide) ⟨_, hR.flush hi⟩
theorem Inv.scrape {D : Nat} {X : QLs} (h : Inv D X) {i : Nat} (hi : i < qp X) : Inv D (sP X i (upd (qP X i) 4 0)) := by
  obtain ⟨⟨M, hR⟩, hz, h7⟩ := h
  exact ⟨⟨_, hR.scrape hi⟩, hz.ext (ext_sP hi), h7⟩
theorem Inv.steal {D : Nat} {X : QLs} (h : Inv D X) {i : Nat} {x : Int32} (hi : i < qp X) (hx : 0 ≤ x ∧ x ≤ 9) : Inv D (sP X i (upd (qP X i) 9 x)) := by
  obtain ⟨⟨M, hR⟩, hz, h7⟩ := h
  exact ⟨⟨_, hR.steal hi hx⟩, hz.ext (ext_sP hi), h7⟩
/-- the law's remainders -/
def bl (x : Int32) (n : Nat) : Nat := (x &&& 2147483647).toInt.toNat % n
theorem bl_lt {x : Int32} {n : Nat} (h : 0 < n) : bl x n < n := Nat.mod_lt _ h
theorem bl_pos (x : Int32) : 0 ≤ (x &&& 2147483647).toInt := by
  have h : (x &&& 2147483647).toBitVec.msb = false := by
    show (x.toBitVec &&& (2147483647 : Int32).toBitVec).msb = false
    rw [BitVec.msb_and, show ((2147483647 : Int32).toBitVec).msb = false by decide, Bool.and_false]
  show 0 ≤ (x &&& 2147483647).toBitVec.toInt
  rw [BitVec.toInt_eq_msb_cond, h]
  simp
theorem rem_nI {a : Int32} {n : Nat} (ha : 0 ≤ a.toInt) (h0 : 0 < n) (h : n < 1000) : a - a / nI n * nI n = nI (a.toInt.toNat % n) := by
  apply i_eq
  have h3 : a.toInt.toNat % n < n := Nat.mod_lt _ h0
  rw [rem_toInt, nI_toInt (by omega), nI_toInt (by omega)]
  obtain ⟨k, hk⟩ := Int.eq_ofNat_of_zero_le ha
  rw [hk]
  exact (Int.ofNat_tmod k n).symm
theorem bl_eq {x : Int32} {n : Nat} (h0 : 0 < n) (h : n < 1000) : (x &&& 2147483647) - (x &&& 2147483647) / nI n * nI n = nI (bl x n) := rem_nI (bl_pos x) h0 h
theorem rem_nn {a n : Nat} (ha : a < 1000000) (h0 : 0 < n) (h : n < 1000) : nI a - nI a / nI n * nI n = nI (a % n) := by
  have e : (nI a).toInt = (a : Int) := nI_toInt (by omega)
  rw [rem_nI (by rw [e]; omega) h0 h, e]
  rfl
theorem nI_rng {k a b : Nat} (h1 : a ≤ k) (h2 : k ≤ b) (h3 : b < 1000) : nI a ≤ nI k ∧ nI k ≤ nI b := ⟨nI_le h1 (by omega), nI_le h2 (by omega)⟩
theorem to_ne {a k n : Nat} (ha : a < n) (hk : k < n - 1) : (a + 1 + k) % n ≠ a := by
  intro h
  by_cases h1 : a + 1 + k < n
  · rw [Nat.mod_eq_of_lt h1] at h; omega
  · rw [Nat.mod_eq_sub_mod (by omega), Nat.mod_eq_of_lt (by omega)] at h; omega
theorem nI_sub1 {n : Nat} (h : 0 < n) : nI n - 1 = nI (n - 1) := by
  obtain ⟨m, rfl⟩ : ∃ m, n = m + 1 := ⟨n - 1, by omega⟩
  exact nI_pred m
