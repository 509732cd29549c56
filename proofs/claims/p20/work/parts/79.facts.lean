/-! PART 79: what a day does, fact by fact -/
theorem it_rows {g : (Nat → Int32) → Nat → Int32} {S : QLs} : ∀ m j, qT (itN (fun i X => sT X i (g (qT X i))) m S) j = if j < m then g (qT S j) else qT S j
  | 0, j => by rw [if_neg (by omega)]; rfl
  | m + 1, j => by
    show qT (sT (itN (fun i X => sT X i (g (qT X i))) m S) m (g (qT (itN (fun i X => sT X i (g (qT X i))) m S) m))) j = _
    by_cases e : j = m
    · subst e
      rw [qT_sT, it_rows j j, if_neg (by omega), if_pos (by omega)]
    · rw [qT_sTn _ _ e, it_rows m j]
      by_cases h : j < m
      · rw [if_pos h, if_pos (by omega)]
      · rw [if_neg h, if_neg (by omega)]
theorem it_P0 {g : (Nat → Int32) → Nat → Int32} {S : QLs} : ∀ m, qP (itN (fun i X => sT X i (g (qT X i))) m S) = qP S ∧ qD (itN (fun i X => sT X i (g (qT X i))) m S) = qD S
  | 0 => ⟨rfl, rfl⟩
  | m + 1 => it_P0 m
def crR (p : Nat → Int32) : Nat → Int32 := if p 5 ≤ 0 then p else upd p 4 (qmin 20 (p 4 + 1))
theorem crust_rows {S : QLs} : ∀ m, (∀ j, qP (itN crustF m S) j = if j < m then crR (qP S j) else qP S j) ∧ qT (itN crustF m S) = qT S ∧ qD (itN crustF m S) = qD S
  | 0 => ⟨fun j => by rw [if_neg (by omega)]; rfl, rfl, rfl⟩
  | m + 1 => by
    obtain ⟨h1, h2, h3⟩ := crust_rows (S := S) m
    have hm : qP (itN crustF m S) m = qP S m := by rw [h1, if_neg (by omega)]
    have e0 : itN crustF (m + 1) S = crustL (itN crustF m S) m := rfl
    rw [e0]
    generalize itN crustF m S = A at h1 h2 h3 hm ⊢
    refine ⟨fun j => ?_, ?_, ?_⟩
    · show qP (crustL A m) j = _
      unfold crustL
      by_cases e : j = m
      · subst e
        rw [if_pos (show j < j + 1 by omega)]
        unfold crR
        rw [hm]
        split
        · exact hm
        · rw [qP_sP]
      · have e2 : ∀ r : Nat → Int32, qP (if qP A m 5 ≤ 0 then A else sP A m r) j = qP A j := fun r => by
          split
          · rfl
          · rw [qP_sPn _ _ e]
        rw [e2, h1]
        by_cases h : j < m
        · rw [if_pos h, if_pos (by omega)]
        · rw [if_neg h, if_neg (by omega)]
    · show qT (crustL A m) = _
      unfold crustL
      split
      · exact h2
      · rw [qT_sP]; exact h2
    · show qD (crustL A m) = _
      unfold crustL
      split
      · exact h3
      · rw [sP_D]; exact h3
/-- what stays of a tank's row behind feeding, flowing -/
def TK_ (r q : Nat → Int32) : Prop := q 0 = r 0 ∧ q 1 = r 1 ∧ q 2 = r 2 ∧ q 6 = r 6
theorem flow_keep {D : Nat} {S : QLs} (h : BD D S) {k : Nat} (hk : k < qp S) (j : Nat) : TK_ (qT S j) (qT (flowL S k) j) := by
  obtain ⟨w, -, r1, r2, r3, -⟩ := flow_rows h hk
  by_cases h1 : j = qf S k
  · subst h1; rw [r1]; unfold TK_
    rw [pk_un (by decide), pk_un (by decide), pk_un (by decide), pk_un (by decide), pk_un (by decide), pk_un (by decide), pk_un (by decide), pk_un (by decide)]
    exact ⟨rfl, rfl, rfl, rfl⟩
  · by_cases h2 : j = qo S k
    · subst h2; rw [r2]; unfold TK_
      rw [takeW_3.2.2.2.2.1, takeW_3.2.2.1, takeW_3.2.2.2.1, takeW_3.2.1, takeM_o (by decide), takeM_o (by decide), takeM_o (by decide), takeM_o (by decide)]
      exact ⟨rfl, rfl, rfl, rfl⟩
    · rw [r3 j h1 h2]; exact ⟨rfl, rfl, rfl, rfl⟩
/-- what is spilled at a flow -/
theorem spill_v {r : Nat → Int32} {x : Int32} (h3 : 0 ≤ (r 3).toInt ∧ (r 3).toInt ≤ 200) (hx : 0 ≤ x.toInt ∧ x.toInt ≤ 20) (h7 : 0 ≤ (r 7).toInt ∧ (r 7).toInt ≤ 1000000) : (r 7).toInt ≤ (takeW r x 7).toInt ∧ (takeW r x 7).toInt ≤ (r 7).toInt + 20 := by
  have e1 : (r 3 + x).toInt = (r 3).toInt + x.toInt := i_add (by omega) (by omega)
  have e3 : (r 3 + x - 200).toInt = (r 3).toInt + x.toInt - 200 := by rw [i_sub, e1, i_200] <;> rw [e1, i_200] <;> omega
  have e4 := i_mx 0 (r 3 + x - 200)
  rw [e3, i_0] at e4
  unfold takeW
  rw [pk_us, pk_un (show 7 ≠ 3 by decide)]
  have e5 : (r 7 + qmax 0 (r 3 + x - 200)).toInt = (r 7).toInt + (qmax 0 (r 3 + x - 200)).toInt := i_add (by omega) (by omega)
  rw [e5]; omega
def m4 (S : QLs) : Int := isum (fun i => (qT S i 4).toInt) (qt S)
theorem m4_sT {S : QLs} {j : Nat} {r : Nat → Int32} (hj : j < qt S) : m4 (sT S j r) = m4 S - (qT S j 4).toInt + (r 4).toInt := by
  show isum (fun i => (va_up (qT S) j r i 4).toInt) (qt S) = _
  have e : (fun i => (va_up (qT S) j r i 4).toInt) = va_up (fun i => (qT S i 4).toInt) j (r 4).toInt := by
    funext i
    by_cases e : i = j
    · subst e; rw [va_up_self, va_up_self]
    · rw [va_up_ne _ _ e, va_up_ne _ _ e]
  rw [e, isum_up _ hj]; rfl
theorem takeM_v {r : Nat → Int32} {y : Int32} (h4 : 0 ≤ (r 4).toInt ∧ (r 4).toInt ≤ 99) (hy : 0 ≤ y.toInt ∧ y.toInt ≤ 99) : (takeM r y 4).toInt ≤ (r 4).toInt + y.toInt := by
  have e2 : (r 4 + y).toInt = (r 4).toInt + y.toInt := i_add (by omega) (by omega)
  unfold takeM
  rw [pk_us, i_mn, e2, i_99]; omega
theorem m4_feed {D : Nat} {S : QLs} (h : BD D S) {i : Nat} (hi : i < qt S) : m4 (feedF i S) ≤ m4 S + (qT S i 1 / 4).toInt := by
  have hT := h.ti hi
  have hb := i_quart hT.2.1
  show m4 (sT S i _) ≤ _
  rw [m4_sT hi, feedR_1]
  have h4 : takeW (qT S i) (qT S i 1) 4 = qT S i 4 := takeW_4
  have e := takeM_v (r := takeW (qT S i) (qT S i 1)) (y := qT S i 1 / 4) (by rw [h4]; exact hT.2.2.2.2.1) ⟨hb.1, by omega⟩
  rw [h4] at e
  omega
theorem m4_flow {D : Nat} {S : QLs} (h : BD D S) {k : Nat} (hk : k < qp S) : m4 (flowF k S) ≤ m4 S := by
  obtain ⟨hf, ho, hne, -, -⟩ := h.ok.2.2 k hk
  obtain ⟨w, hw, r1, r2, r3, -⟩ := flow_rows h hk
  have hF := h.ti hf; have hT := h.ti ho
  have e1 : qt (flowL S k) = qt S := shp_flow.1
  show m4 (flowL S k) ≤ _
  unfold m4
  rw [e1, isum_c (g := va_up (va_up (fun i => (qT S i 4).toInt) (qf S k) (qT (flowL S k) (qf S k) 4).toInt) (qo S k) (qT (flowL S k) (qo S k) 4).toInt) _ (fun i hi => ?_), isum_up _ ho, isum_up _ hf, va_up_ne _ _ (fun q => hne q.symm)]
  · have e2 : (qT (flowL S k) (qf S k) 4).toInt = (qT S (qf S k) 4).toInt - w.toInt := by
      rw [r1, pk_un (show 4 ≠ 3 by decide), pk_us]
      exact i_sub (by have := hF.2.2.2.2.1; omega) (by have := hF.2.2.2.2.1; omega)
    have e3 : (qT (flowL S k) (qo S k) 4).toInt ≤ (qT S (qo S k) 4).toInt + w.toInt := by
      rw [r2, takeW_4]
      exact takeM_v hT.2.2.2.2.1 (by have := hF.2.2.2.2.1; omega)
    omega
  · by_cases h1 : i = qo S k
    · subst h1; rw [va_up_self]
    · rw [va_up_ne _ _ h1]
      by_cases h2 : i = qf S k
      · subst h2; rw [va_up_self]
      · rw [va_up_ne _ _ h2, r3 i h2 h1]
/-- all flows of a day -/
theorem flows_all {D : Nat} {S : QLs} (h : BD D S) : ∀ m, m ≤ qp S → EE (itN flowF m S) = EE S ∧ m4 (itN flowF m S) ≤ m4 S ∧ (∀ j, TK_ (qT S j) (qT (itN flowF m S) j)) ∧ qD (itN flowF m S) = qD S ∧ ((∀ j, j < qt S → 0 ≤ (qT S j 7).toInt ∧ (qT S j 7).toInt ≤ 500000) → ∀ j, j < qt S → (qT S j 7).toInt ≤ (qT (itN flowF m S) j 7).toInt ∧ (qT (itN flowF m S) j 7).toInt ≤ (qT S j 7).toInt + 20 * m) ∧
    (∀ k, qP (itN flowF m S) k = if k < m then flowP (qP S k) (canF (itN flowF k S) k) (qmin (qP S k 9) (canF (itN flowF k S) k)) else qP S k)
  | 0, _ => ⟨rfl, Int.le_refl _, fun j => ⟨rfl, rfl, rfl, rfl⟩, rfl, fun h7 j hj => ⟨Int.le_refl _, by show (qT S j 7).toInt ≤ (qT S j 7).toInt + 20 * ((0 : Nat) : Int); omega⟩, fun k => by rw [if_neg (by omega)]; rfl⟩
  | m + 1, hm => by
    obtain ⟨a1, a2, a3, a4, a5, a6⟩ := flows_all h m (by omega)
    have hb := h.flow m (by omega)
    have hs := shp_it (f := flowF) (fun _ _ => shp_flow) S m
    have hmq : m < qp (itN flowF m S) := by rw [hs.2.1]; omega
    have hP := hb.pi hmq
    have hc := hb.can hmq
    obtain ⟨w, hw, r1, r2, r3, rP⟩ := flow_rows hb hmq
    obtain ⟨w9, -, -, -, -, -, rD⟩ := flow_r hb hmq
    obtain ⟨hf, ho, hne, -, -⟩ := hb.ok.2.2 m hmq
    have hT := hb.ti ho
    have pm : qP (itN flowF m S) m = qP S m := by rw [a6, if_neg (by omega)]
    refine ⟨(EE_flow hb hmq).trans a1, Int.le_trans (m4_flow hb hmq) a2, fun j => ?_, rD.trans a4, fun h7 j hj => ?_, fun k => ?_⟩
    · have g1 := a3 j
      have g2 := flow_keep hb hmq j
      exact ⟨g2.1.trans g1.1, g2.2.1.trans g1.2.1, g2.2.2.1.trans g1.2.2.1, g2.2.2.2.trans g1.2.2.2⟩
    · have g1 := a5 h7 j hj
      have g0 := h7 j hj
      have hm14 : m ≤ 14 := by have := h.ok.2.1; omega
      show (qT S j 7).toInt ≤ (qT (flowL (itN flowF m S) m) j 7).toInt ∧ (qT (flowL (itN flowF m S) m) j 7).toInt ≤ (qT S j 7).toInt + 20 * ((m + 1 : Nat) : Int)
      by_cases h2 : j = qo (itN flowF m S) m
      · rw [← h2] at r2 hT
        rw [r2]
        have hp9 := hP.2.2.2
        have hy := i_mn (qP (itN flowF m S) m 9) (canF (itN flowF m S) m)
        have hxy : (canF (itN flowF m S) m - qmin (qP (itN flowF m S) m 9) (canF (itN flowF m S) m)).toInt = (canF (itN flowF m S) m).toInt - (qmin (qP (itN flowF m S) m 9) (canF (itN flowF m S) m)).toInt := i_sub (by omega) (by omega)
        have e := spill_v (r := takeM (qT (itN flowF m S) j) w) (x := canF (itN flowF m S) m - qmin (qP (itN flowF m S) m 9) (canF (itN flowF m S) m)) (by rw [takeM_o (by decide)]; exact hT.2.2.2.1) (by rw [hxy]; omega) (by rw [takeM_o (by decide)]; omega)
        rw [takeM_o (show 7 ≠ 4 by decide)] at e
        omega
      · have e : qT (flowL (itN flowF m S) m) j 7 = qT (itN flowF m S) j 7 := by
          by_cases h1 : j = qf (itN flowF m S) m
          · rw [h1, r1, pk_un (by decide), pk_un (by decide)]
          · rw [r3 j h1 h2]
        rw [e]; omega
    · show qP (flowL (itN flowF m S) m) k = _
      rw [rP]
      by_cases e : k = m
      · subst e
        rw [if_pos rfl, if_pos (by omega), pm]
      · rw [if_neg e, a6]
        by_cases h1 : k < m
        · rw [if_pos h1, if_pos (by omega)]
        · rw [if_neg h1, if_neg (by omega)]
theorem feeds_all {D : Nat} {S : QLs} (h : BD D S) : ∀ m, m ≤ qt S → EE (itN feedF m S) = EE S + qsum (fun i => qT S i 1) m ∧ m4 (itN feedF m S) ≤ m4 S + isum (fun i => (qT S i 1 / 4).toInt) m
  | 0, _ => ⟨(add0 _).symm, by show m4 S ≤ m4 S + 0; omega⟩
  | m + 1, hm => by
    obtain ⟨a1, a2⟩ := feeds_all h m (by omega)
    have hb := h.feed m (by omega)
    have hs := shp_it (f := feedF) (fun _ _ => shp_sT) S m
    have hmq : m < qt (itN feedF m S) := by rw [hs.1]; omega
    have e1 : qT (itN feedF m S) m = qT S m := (it_rows (g := feedR) (S := S) m m).trans (if_neg (by omega))
    refine ⟨?_, ?_⟩
    · show EE (feedF m (itN feedF m S)) = EE S + (qsum _ m + qT S m 1)
      rw [EE_feed hmq, a1, e1]; grind
    · have e2 := m4_feed hb hmq
      rw [e1] at e2
      show m4 (feedF m (itN feedF m S)) ≤ m4 S + (isum _ m + (qT S m 1 / 4).toInt)
      omega
/-- a day, taken apart: S3 is the land before anybody drinks -/
theorem day_dec {D : Nat} {X : QLs} (h : Inv D X) (hD : D ≤ 1000) : ∃ S3 : QLs, BD D S3 ∧ Shp X S3 ∧ dayL X = sD (itN drinkF (qt X) S3) (qD X + 1) ∧ EE S3 = EE X + sumT X 1 ∧ m4 S3 ≤ m4 X + isum (fun i => (qT X i 1 / 4).toInt) (qt X) ∧ (∀ j, j < qt X → TK_ (qT X j) (qT S3 j)) ∧ (∀ j, j < qt X → (qT X j 7).toInt ≤ (qT S3 j 7).toInt ∧ (qT S3 j 7).toInt ≤ (qT X j 7).toInt + 300) ∧
    (∀ k, k < qp X → ∃ x : Int32, (0 ≤ x.toInt ∧ x.toInt ≤ 20) ∧ x ≤ qmax 0 (qP X k 2 - qP X k 4) ∧ qP S3 k = if qD X - qD X / 4 * 4 = 0 then crR (flowP (qP X k) x (qmin (qP X k 9) x)) else flowP (qP X k) x (qmin (qP X k 9) x)) := by
  have hB := h.bd
  have hok := hB.ok
  have f1 := feeds_all hB (qt X) (Nat.le_refl _)
  have b1 := hB.feed (qt X) (Nat.le_refl _)
  have s1 := shp_it (f := feedF) (fun _ _ => shp_sT) X (qt X)
  have r1 : ∀ j, j < qt X → qT (itN feedF (qt X) X) j = feedR (qT X j) := fun j hj => (it_rows (g := feedR) (S := X) (qt X) j).trans (if_pos hj)
  have p1 : qP (itN feedF (qt X) X) = qP X ∧ qD (itN feedF (qt X) X) = qD X := it_P0 (g := feedR) (qt X)
  obtain ⟨S1, eS1⟩ : ∃ S1, S1 = itN feedF (qt X) X := ⟨_, rfl⟩
  rw [← eS1] at f1 b1 s1 r1 p1
  have f2 := flows_all b1 (qp S1) (Nat.le_refl _)
  have b2 := b1.flow (qp S1) (Nat.le_refl _)
  have s2 := shp_it (f := flowF) (fun _ _ => shp_flow) S1 (qp S1)
  have c2 : ∀ k, k < qp S1 → BD D (itN flowF k S1) ∧ Shp S1 (itN flowF k S1) ∧ qP (itN flowF k S1) k = qP S1 k := fun k hk => ⟨b1.flow k (by omega), shp_it (f := flowF) (fun _ _ => shp_flow) S1 k, by rw [(flows_all b1 k (by omega)).2.2.2.2.2 k, if_neg (by omega)]⟩
  obtain ⟨S2, eS2⟩ : ∃ S2, S2 = itN flowF (qp S1) S1 := ⟨_, rfl⟩
  rw [← eS2] at f2 b2 s2
  obtain ⟨g1, g2, g3, g4, g5, g6⟩ := f2
  have c3 := crust_rows (S := S2) (qp S2)
  have b3 := b2.crust (qp S2) (Nat.le_refl _)
  have s3 := shp_it (f := crustF) (fun _ _ => shp_crust) S2 (qp S2)
  have e3E : ∀ m, m ≤ qp S2 → EE (itN crustF m S2) = EE S2 := fun m => by
    induction m with
    | zero => intro _; rfl
    | succ m ih =>
      intro hm
      exact (EE_crust (S := itN crustF m S2) (k := m) (by rw [(shp_it (f := crustF) (fun _ _ => shp_crust) S2 m).2.1]; omega)).trans (ih (by omega))
  obtain ⟨S3, eS3⟩ : ∃ S3, S3 = if qD S2 - qD S2 / 4 * 4 = 0 then itN crustF (qp S2) S2 else S2 := ⟨_, rfl⟩
  have hT3 : qT S3 = qT S2 := by rw [eS3]; split; exact c3.2.1; rfl
  have hD3 : qD S3 = qD S2 := by rw [eS3]; split; exact c3.2.2; rfl
  have hS3 : Shp S2 S3 := by rw [eS3]; split; exact s3; exact Shp.rf
  have hB3 : BD D S3 := by rw [eS3]; split; exact b3; exact b2
  have hE3 : EE S3 = EE S2 := by rw [eS3]; split; exact e3E _ (Nat.le_refl _); rfl
  have hdD : qD S2 = qD X := g4.trans p1.2
  have shAll : Shp X S3 := (s1.trans s2).trans hS3
  have keepF : ∀ r : Nat → Int32, TK_ r (feedR r) := fun r => by
    unfold TK_
    rw [feedR_1, takeM_o (by decide), takeM_o (by decide), takeM_o (by decide), takeM_o (by decide), takeW_3.2.2.2.2.1, takeW_3.2.2.1, takeW_3.2.2.2.1, takeW_3.2.1]
    exact ⟨rfl, rfl, rfl, rfl⟩
  have sp1 : ∀ j, j < qt X → (qT X j 7).toInt ≤ (qT S1 j 7).toInt ∧ (qT S1 j 7).toInt ≤ (qT X j 7).toInt + 20 := fun j hj => by
    have hT := hB.ti hj
    have h7 := h.2.2 j hj
    rw [r1 j hj, feedR_1, takeM_o (by decide)]
    exact spill_v hT.2.2.2.1 hT.2.1 (by omega)
  refine ⟨S3, hB3, shAll, ?_, ?_, ?_, fun j hj => ?_, fun j hj => ?_, fun k hk => ?_⟩
  · unfold dayL
    simp only []
    rw [← eS1, ← eS2]
    have e9 : (if qD S2 - qD S2 / 4 * 4 = 0 then crustAll S2 else S2) = S3 := eS3.symm
    rw [e9, shAll.1]
    have e8 : qD (itN drinkF (qt X) S3) = qD S3 := (it_P0 (g := drinkR) (S := S3) (qt X)).2
    rw [e8, hD3, hdD]
  · rw [hE3, g1, f1.1]; rfl
  · have e9 : m4 S3 = m4 S2 := by unfold m4; rw [hT3, hS3.1]
    rw [e9]
    exact Int.le_trans g2 f1.2
  · have k1 := keepF (qT X j)
    have k2 := g3 j
    rw [r1 j hj] at k2
    rw [hT3]
    exact ⟨k2.1.trans k1.1, k2.2.1.trans k1.2.1, k2.2.2.1.trans k1.2.2.1, k2.2.2.2.trans k1.2.2.2⟩
  · have hj1 : j < qt S1 := by rw [s1.1]; exact hj
    have h14 := b1.ok.2.1
    have q1 := sp1 j hj
    have q0 := h.2.2 j hj
    have q2 := g5 (fun i hi => by
      have q1 := sp1 i (by rw [← s1.1]; exact hi)
      have q0 := h.2.2 i (by rw [← s1.1]; exact hi)
      omega) j hj1
    rw [hT3]
    omega
  · have hk1 : k < qp S1 := by rw [s1.2.1]; exact hk
    obtain ⟨bk, sk, pk⟩ := c2 k hk1
    have hkk : k < qp (itN flowF k S1) := by rw [sk.2.1]; exact hk1
    have cv := bk.can hkk
    have cl := (can_law bk hkk).2.2
    rw [pk, p1.1] at cl
    have e6 := g6 k
    rw [if_pos hk1, p1.1] at e6
    refine ⟨canF (itN flowF k S1) k, ⟨cv.1, cv.2.1⟩, cl, ?_⟩
    rw [eS3, hdD]
    split
    · rw [c3.1, if_pos (by rw [s2.2.1]; exact hk1), e6]
    · exact e6
