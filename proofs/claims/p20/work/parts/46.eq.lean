def mBuild (M : QMs) (x y v : Int32) : QMs := ut (uA M (va_cpy (upd (upd (upd (upd (upd (upd (upd (upd (fun _ => 0) 0 x) 1 y) 2 v) 3 0) 4 0) 5 0) 6 0) 7 0) (mA M) 0 (8 * mt_ M) 8)) (mt_ M + 1)
def mLay (M : QMs) (i j : Nat) (x y : Int32) : QMs := up_ (uB M (va_cpy (upd (upd (upd (upd (upd (upd (upd (upd (upd (fun _ => 0) 0 (nI i)) 1 (nI j)) 2 x) 3 y) 4 0) 5 0) 6 0) 7 0) 8 0) (mB M) 0 (9 * mp_ M) 9)) (mp_ M + 1)
/-! PART 46: rows that are not there yet; build and lay -/
def Ext (S S2 : QLs) : Prop := qt S2 = qt S ∧ qp S2 = qp S ∧ (∀ i, qt S ≤ i → qT S2 i = qT S i) ∧ (∀ i, qp S ≤ i → qP S2 i = qP S i)
theorem Ext.rf {S : QLs} : Ext S S := ⟨rfl, rfl, fun _ _ => rfl, fun _ _ => rfl⟩
theorem Ext.tr {S S2 S3 : QLs} (h : Ext S S2) (h2 : Ext S2 S3) : Ext S S3 := ⟨h2.1.trans h.1, h2.2.1.trans h.2.1, fun i hi => (h2.2.2.1 i (by rw [h.1]; exact hi)).trans (h.2.2.1 i hi), fun i hi => (h2.2.2.2 i (by rw [h.2.1]; exact hi)).trans (h.2.2.2 i hi)⟩
theorem ext_sT {S : QLs} {i : Nat} {r : Nat → Int32} (hi : i < qt S) : Ext S (sT S i r) := ⟨rfl, rfl, fun j hj => qT_sTn _ _ (by omega), fun _ _ => rfl⟩
theorem ext_sP {S : QLs} {i : Nat} {r : Nat → Int32} (hi : i < qp S) : Ext S (sP S i r) := ⟨rfl, rfl, fun _ _ => rfl, fun j hj => qP_sPn _ _ (by omega)⟩
theorem ext_sD {S : QLs} {d : Int32} : Ext S (sD S d) := ⟨rfl, rfl, fun _ _ => rfl, fun _ _ => rfl⟩
theorem ext_wander {S : QLs} {f t : Nat} {x : Int32} (hf : f < qt S) (ht : t < qt S) : Ext S (wander S f t x) := by
  unfold wander
  split
  · exact (ext_sT hf).tr (ext_sT ht)
  · exact Ext.rf
theorem ext_flow {S : QLs} {k : Nat} (hk : LOk S) (h : k < qp S) : Ext S (flowL S k) := by
  obtain ⟨hf, ht, -⟩ := hk.2.2 k h
  have hw := ext_wander (x := canF S k) hf ht
  unfold flowL
  simp only []
  refine ((((hw.tr (ext_sT ?_)).tr (ext_sT ?_)).tr (ext_sP ?_)).tr (ext_sP ?_)).tr (ext_sP ?_)
  · rw [hw.1]; exact hf
  · show _ < qt (wander _ _ _ _); rw [hw.1]; exact ht
  · show _ < qp (wander _ _ _ _); rw [hw.2.1]; exact h
  · show _ < qp (wander _ _ _ _); rw [hw.2.1]; exact h
  · show _ < qp (wander _ _ _ _); rw [hw.2.1]; exact h
theorem ext_crust {S : QLs} {k : Nat} (h : k < qp S) : Ext S (crustL S k) := by
  unfold crustL
  split
  · exact Ext.rf
  · exact ext_sP h
theorem ext_itT {f : Nat → QLs → QLs} (hf : ∀ i S, LOk S → i < qt S → Ext S (f i S)) (hs : ∀ i S, Shp S (f i S)) {S : QLs} (hk : LOk S) : ∀ m, m ≤ qt S → Ext S (itN f m S)
  | 0, _ => Ext.rf
  | m + 1, hm => (ext_itT hf hs hk m (by omega)).tr (hf m _ ((shp_it hs S m).ok hk) (by rw [(shp_it hs S m).1]; omega))
theorem ext_itP {f : Nat → QLs → QLs} (hf : ∀ i S, LOk S → i < qp S → Ext S (f i S)) (hs : ∀ i S, Shp S (f i S)) {S : QLs} (hk : LOk S) : ∀ m, m ≤ qp S → Ext S (itN f m S)
  | 0, _ => Ext.rf
  | m + 1, hm => (ext_itP hf hs hk m (by omega)).tr (hf m _ ((shp_it hs S m).ok hk) (by rw [(shp_it hs S m).2.1]; omega))
theorem ext_day {S : QLs} (hk : LOk S) : Ext S (dayL S) := by
  unfold dayL
  simp only []
  have h1 := ext_itT (f := feedF) (fun i S _ hi => ext_sT hi) (fun _ _ => shp_sT) hk (qt S) (Nat.le_refl _)
  have k1 := (shp_it (f := feedF) (fun _ _ => shp_sT) S (qt S)).ok hk
  generalize itN feedF (qt S) S = S1 at h1 k1
  have h2 := ext_itP (f := flowF) (fun i S hk hi => ext_flow hk hi) (fun _ _ => shp_flow) k1 (qp S1) (Nat.le_refl _)
  have k2 := (shp_it (f := flowF) (fun _ _ => shp_flow) S1 (qp S1)).ok k1
  generalize itN flowF (qp S1) S1 = S2 at h2 k2
  have h3 : Ext S2 (if qD S2 - qD S2 / 4 * 4 = 0 then crustAll S2 else S2) ∧ LOk (if qD S2 - qD S2 / 4 * 4 = 0 then crustAll S2 else S2) := by
    split
    · exact ⟨ext_itP (f := crustF) (fun i S _ hi => ext_crust hi) (fun _ _ => shp_crust) k2 _ (Nat.le_refl _), shp_crustAll.ok k2⟩
    · exact ⟨Ext.rf, k2⟩
  obtain ⟨h3, k3⟩ := h3
  generalize (if qD S2 - qD S2 / 4 * 4 = 0 then crustAll S2 else S2) = S3 at h3 k3
  have h4 := ext_itT (f := drinkF) (fun i S _ hi => ext_sT hi) (fun _ _ => shp_sT) k3 (qt S3) (Nat.le_refl _)
  exact (((h1.tr h2).tr h3).tr h4).tr ext_sD
theorem ext_days {S : QLs} (hk : LOk S) : ∀ n, Ext S (itN dayF n S)
  | 0 => Ext.rf
  | n + 1 => (ext_days hk n).tr (ext_day ((shp_days S n).ok hk))
def ZZ (S : QLs) : Prop := (∀ i, qt S ≤ i → ∀ k, qT S i k = 0) ∧ (∀ i, qp S ≤ i → ∀ k, qP S i k = 0)
theorem ZZ.ext {S S2 : QLs} (h : ZZ S) (he : Ext S S2) : ZZ S2 := ⟨fun i hi k => by rw [he.1] at hi; rw [he.2.2.1 i hi]; exact h.1 i hi k, fun i hi k => by rw [he.2.1] at hi; rw [he.2.2.2 i hi]; exact h.2 i hi k⟩
theorem RR.build {D : Nat} {S : QLs} {M : QMs} (h : RR D S M) (hz : ZZ S) (ht : qt S < 10) {x y v : Int32} (h9 : (0 ≤ x ∧ x ≤ 99) ∧ (0 ≤ y ∧ y ≤ 20) ∧ (0 ≤ v ∧ v ≤ 20)) : RR D (addT S x y v) (mBuild M x y v) ∧ ZZ (addT S x y v) := by
  have hx := i_rng h9.1; have hy := i_rng h9.2.1; have hv := i_rng h9.2.2
  rw [i_0, i_99] at hx
  rw [i_0, i_20] at hy hv
  obtain ⟨h1, h2, h3, h4, h5, h6, h7, h8⟩ := h
  have z0 : ∀ k, qT S (qt S) k = 0 := hz.1 _ (Nat.le_refl _)
  have zf : qT S (qt S) = fun _ => 0 := funext z0
  have rT : ∀ j, qT (addT S x y v) j = if j = qt S then upd (upd (upd (fun _ => 0) 0 x) 1 y) 2 v else qT S j := fun j => by
    show qT (sT S (qt S) _) j = _
    by_cases e : j = qt S
    · subst e; rw [qT_sT, if_pos rfl, zf]
    · rw [qT_sTn _ _ e, if_neg e]
  refine ⟨⟨⟨by show qt S + 1 ≤ 10; omega, h1.2.1, fun k hk => ?_⟩, by show mt_ M + 1 = qt S + 1; omega, h3, h4, fun i hi => ?_, h6, fun i hi => ?_, h8⟩, fun i hi k => ?_, hz.2⟩
  · obtain ⟨a1, a2, a3⟩ := h1.2.2 k hk
    exact ⟨Nat.lt_succ_of_lt a1, Nat.lt_succ_of_lt a2, a3⟩
  · have hi2 : i < qt S + 1 := hi
    intro k hk
    rw [rT]
    show va_cpy _ (mA M) 0 (8 * mt_ M) 8 (8 * i + k) = _
    by_cases e : i = qt S
    · subst e
      rw [if_pos rfl, pk_cpy_in (by omega) (by omega), h2, show 0 + (8 * qt S + k - 8 * qt S) = k by omega]
      rcases (show k = 0 ∨ k = 1 ∨ k = 2 ∨ k = 3 ∨ k = 4 ∨ k = 5 ∨ k = 6 ∨ k = 7 by omega) with rfl | rfl | rfl | rfl | rfl | rfl | rfl | rfl <;> rfl
    · rw [if_neg e, pk_cpy_out (by omega)]; exact h5 i (by omega) k hk
  · have hi2 : i < qt S + 1 := hi
    rw [rT]
    by_cases e : i = qt S
    · rw [if_pos e]
      unfold TI
      rw [show upd (upd (upd (fun _ => (0 : Int32)) 0 x) 1 y) 2 v 0 = x from rfl, show upd (upd (upd (fun _ => (0 : Int32)) 0 x) 1 y) 2 v 1 = y from rfl, show upd (upd (upd (fun _ => (0 : Int32)) 0 x) 1 y) 2 v 2 = v from rfl, show upd (upd (upd (fun _ => (0 : Int32)) 0 x) 1 y) 2 v 3 = 0 from rfl, show upd (upd (upd (fun _ => (0 : Int32)) 0 x) 1 y) 2 v 4 = 0 from rfl, show upd (upd (upd (fun _ => (0 : Int32)) 0 x) 1 y) 2 v 6 = 0 from rfl, i_0]
      exact ⟨hx, hy, hv, by omega, by omega, by omega⟩
    · rw [if_neg e]; exact h7 i (by omega)
  · have hi2 : qt S + 1 ≤ i := hi
    rw [rT, if_neg (by omega)]; exact hz.1 i (by omega) k
theorem RR.lay {D : Nat} {S : QLs} {M : QMs} (h : RR D S M) (hz : ZZ S) (ht : qp S < 14) {i j : Nat} (hi : i < qt S) (hj : j < qt S) (hne : i ≠ j) {x y : Int32} (h9 : (1 ≤ x ∧ x ≤ 20) ∧ (0 ≤ y ∧ y ≤ 60)) : RR D (addP S (nI i) (nI j) x y) (mLay M i j x y) ∧ ZZ (addP S (nI i) (nI j) x y) := by
  have hx := i_rng h9.1; have hy := i_rng h9.2
  rw [i_1, i_20] at hx
  rw [i_0, show (60 : Int32).toInt = 60 by decide] at hy
  obtain ⟨h1, h2, h3, h4, h5, h6, h7, h8⟩ := h
  have hk1 := h1.1
  have zf : qP S (qp S) = fun _ => 0 := funext (hz.2 _ (Nat.le_refl _))
  have rP : ∀ k, qP (addP S (nI i) (nI j) x y) k = if k = qp S then upd (upd (upd (upd (fun _ => 0) 0 (nI i)) 1 (nI j)) 2 x) 3 y else qP S k := fun k => by
    show qP (sP S (qp S) _) k = _
    by_cases e : k = qp S
    · subst e; rw [qP_sP, if_pos rfl, zf]
    · rw [qP_sPn _ _ e, if_neg e]
  refine ⟨⟨⟨h1.1, by show qp S + 1 ≤ 14; omega, fun k hk => ?_⟩, h2, by show mp_ M + 1 = qp S + 1; omega, h4, h5, fun k hk => ?_, h7, fun k hk => ?_⟩, hz.1, fun k hk q => ?_⟩
  · have hk2 : k < qp S + 1 := hk
    unfold qf qo
    rw [rP]
    by_cases e : k = qp S
    · rw [if_pos e, show upd (upd (upd (upd (fun _ => (0 : Int32)) 0 (nI i)) 1 (nI j)) 2 x) 3 y 0 = nI i from rfl, show upd (upd (upd (upd (fun _ => (0 : Int32)) 0 (nI i)) 1 (nI j)) 2 x) 3 y 1 = nI j from rfl, nI_clamp (by omega), nI_clamp (by omega)]
      exact ⟨hi, hj, hne, rfl, rfl⟩
    · rw [if_neg e]; exact h1.2.2 k (by omega)
  · have hk2 : k < qp S + 1 := hk
    rw [rP]
    by_cases e : k = qp S
    · subst e
      rw [if_pos rfl]
      refine ⟨fun q hq => ?_, ?_⟩
      · show va_cpy _ (mB M) 0 (9 * mp_ M) 9 (9 * qp S + q) = _
        rw [pk_cpy_in (by omega) (by omega), h3, show 0 + (9 * qp S + q - 9 * qp S) = q by omega]
        rcases (show q = 0 ∨ q = 1 ∨ q = 2 ∨ q = 3 ∨ q = 4 ∨ q = 5 ∨ q = 6 ∨ q = 7 by omega) with rfl | rfl | rfl | rfl | rfl | rfl | rfl | rfl <;> rfl
      · show va_cpy _ (mB M) 0 (9 * mp_ M) 9 (9 * qp S + 8) = _
        rw [pk_cpy_in (by omega) (by omega), h3, show 0 + (9 * qp S + 8 - 9 * qp S) = 8 by omega]
        rfl
    · rw [if_neg e]
      obtain ⟨a, b⟩ := h6 k (by omega)
      refine ⟨fun q hq => ?_, ?_⟩
      · show va_cpy _ (mB M) 0 (9 * mp_ M) 9 (9 * k + q) = _
        rw [pk_cpy_out (by omega)]; exact a q hq
      · show va_cpy _ (mB M) 0 (9 * mp_ M) 9 (9 * k + 8) = _
        rw [pk_cpy_out (by omega)]; exact b
  · have hk2 : k < qp S + 1 := hk
    rw [rP]
    by_cases e : k = qp S
    · rw [if_pos e]
      unfold PI
      rw [show upd (upd (upd (upd (fun _ => (0 : Int32)) 0 (nI i)) 1 (nI j)) 2 x) 3 y 2 = x from rfl, show upd (upd (upd (upd (fun _ => (0 : Int32)) 0 (nI i)) 1 (nI j)) 2 x) 3 y 3 = y from rfl, show upd (upd (upd (upd (fun _ => (0 : Int32)) 0 (nI i)) 1 (nI j)) 2 x) 3 y 4 = 0 from rfl, show upd (upd (upd (upd (fun _ => (0 : Int32)) 0 (nI i)) 1 (nI j)) 2 x) 3 y 9 = 0 from rfl, i_0]
      exact ⟨hx, hy, by omega, by omega⟩
    · rw [if_neg e]; exact h8 k (by omega)
  · have hk2 : qp S + 1 ≤ k := hk
    rw [rP, if_neg (by omega)]; exact hz.2 k (by omega) q
/-- an empty land -/
def S00 : QLs := (fun _ _ => 0, fun _ _ => 0, 0, 0, 0)
def M00 : QMs := (0, 0, 0, fun _ => 0, fun _ => 0, fun _ => 0)
theorem RR.new : RR 0 S00 M00 ∧ ZZ S00 := by
  refine ⟨⟨⟨by decide, by decide, fun k hk => ?_⟩, rfl, rfl, rfl, fun i hi => ?_, fun i hi => ?_, fun i hi => ?_, fun i hi => ?_⟩, fun _ _ _ => rfl, fun _ _ _ => rfl⟩
  · exact absurd hk (Nat.not_lt_zero _)
  · exact absurd hi (Nat.not_lt_zero _)
  · exact absurd hi (Nat.not_lt_zero _)
  · exact absurd hi (Nat.not_lt_zero _)
  · exact absurd hi (Nat.not_lt_zero _)
