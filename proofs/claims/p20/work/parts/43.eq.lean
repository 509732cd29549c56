/-! PART 43: what flows -/
theorem i_10 : (10 : Int32).toInt = 10 := by decide
theorem i_1 : (1 : Int32).toInt = 1 := by decide
theorem i_20 : (20 : Int32).toInt = 20 := by decide
theorem head_val {D : Nat} {r : Nat → Int32} (h : TI D r) : (headR r).toInt = 10 * (r 0).toInt + (r 3).toInt := by
  obtain ⟨t0, -, -, t3, -, -⟩ := h
  unfold headR
  have e1 : (10 * r 0).toInt = 10 * (r 0).toInt := by rw [i_mul, i_10] <;> rw [i_10] <;> omega
  rw [i_add, e1] <;> rw [e1] <;> omega
theorem RR.head {D : Nat} {S : QLs} {M : QMs} (h : RR D S M) {i : Nat} (hi : i < qt S) : mhead M i = headR (qT S i) := by
  unfold mhead headR
  rw [h.at_ hi (by decide), h.at_ hi (by decide)]
/-- what can flow, both ways; its bounds -/
theorem can_val {D : Nat} {S : QLs} {M : QMs} (h : RR D S M) {k : Nat} (hk : k < qp S) : mflows M k = canF S k ∧ 0 ≤ (canF S k).toInt ∧ (canF S k).toInt ≤ 20 ∧ (canF S k).toInt ≤ (qT S (qf S k) 3).toInt := by
  obtain ⟨hf, ht, -, -, -⟩ := h.1.2.2 k hk
  have hF := h.2.2.2.2.2.2.1 _ hf
  have hT := h.2.2.2.2.2.2.1 _ ht
  have hP := h.2.2.2.2.2.2.2 k hk
  have hw := hF.2.2.2.1
  have d1 : (headR (qT S (qf S k)) - headR (qT S (qo S k))).toInt = (headR (qT S (qf S k))).toInt - (headR (qT S (qo S k))).toInt := by
    have a0 := hF.1; have b0 := hT.1; have b3 := hT.2.2.2.1
    apply i_sub <;> rw [head_val hF, head_val hT] <;> omega
  rw [head_val hF, head_val hT] at d1
  have em : mflows M k = (if headR (qT S (qf S k)) - headR (qT S (qo S k)) ≤ 0 then 0 else if qP S k 3 ≤ headR (qT S (qf S k)) - headR (qT S (qo S k)) then qmin (qT S (qf S k) 3) (qmin ((headR (qT S (qf S k)) - headR (qT S (qo S k))) / 10 + 1) (qmax 0 (qP S k 2 - qP S k 4))) else 0) := by
    unfold mflows
    simp only []
    rw [(h.f0 hk).1, (h.f0 hk).2, h.head hf, h.head ht, h.bt_ hk (show 3 < 8 by decide), h.bt_ hk (show 2 < 8 by decide), h.bt_ hk (show 4 < 8 by decide), h.at_ hf (show 3 < 8 by decide)]
  have ec : canF S k = (if headR (qT S (qf S k)) - headR (qT S (qo S k)) ≤ 0 then 0 else if qP S k 3 ≤ headR (qT S (qf S k)) - headR (qT S (qo S k)) then qmin (qmin (qmax 0 (qP S k 2 - qP S k 4)) ((headR (qT S (qf S k)) - headR (qT S (qo S k))) / 10 + 1)) (qT S (qf S k) 3) else 0) := rfl
  rw [em, ec]
  generalize headR (qT S (qf S k)) - headR (qT S (qo S k)) = d at d1
  by_cases c1 : d ≤ 0
  · rw [if_pos c1, if_pos c1, i_0]; exact ⟨rfl, by omega, by omega, by omega⟩
  · rw [if_neg c1, if_neg c1]
    by_cases c2 : qP S k 3 ≤ d
    · rw [if_pos c2, if_pos c2]
      have c3 : 0 < d.toInt := by
        have := Int32.lt_iff_toInt_lt.mp (Int32.not_le.mp c1)
        rw [i_0] at this; exact this
      have a0 := hF.1; have b0 := hT.1; have b3 := hT.2.2.2.1
      have e5 : (d / 10).toInt = d.toInt / 10 := by rw [i_div (by omega) (by decide), i_10]
      have e6 : (d / 10 + 1).toInt = d.toInt / 10 + 1 := by rw [i_add, e5, i_1] <;> rw [e5, i_1] <;> omega
      have p2 := hP.1; have p4 := hP.2.2.1
      have e7 : (qP S k 2 - qP S k 4).toInt = (qP S k 2).toInt - (qP S k 4).toInt := i_sub (by omega) (by omega)
      have e8 := i_max 0 (qP S k 2 - qP S k 4)
      rw [e7, i_0] at e8
      have e9 := i_min (qmax 0 (qP S k 2 - qP S k 4)) (d / 10 + 1)
      have e10 := i_min (d / 10 + 1) (qmax 0 (qP S k 2 - qP S k 4))
      have e11 := i_min (qmin (qmax 0 (qP S k 2 - qP S k 4)) (d / 10 + 1)) (qT S (qf S k) 3)
      have e12 := i_min (qT S (qf S k) 3) (qmin (d / 10 + 1) (qmax 0 (qP S k 2 - qP S k 4)))
      rw [e6] at e9 e10
      rw [e9] at e11
      rw [e10] at e12
      have hm : 0 ≤ (qmax 0 (qP S k 2 - qP S k 4)).toInt ∧ (qmax 0 (qP S k 2 - qP S k 4)).toInt ≤ 20 := by rw [e8]; constructor <;> split <;> omega
      generalize (qmax 0 (qP S k 2 - qP S k 4)).toInt = a at e11 e12 hm
      refine ⟨i_eq ?_, ?_, ?_, ?_⟩
      · rw [e11, e12]; split <;> split <;> split <;> split <;> omega
      · rw [e11]; split <;> split <;> omega
      · rw [e11]; split <;> split <;> omega
      · rw [e11]; split <;> split <;> omega
    · rw [if_neg c2, if_neg c2, i_0]; exact ⟨rfl, by omega, by omega, by omega⟩
theorem i_mudv {m x w : Int32} (hm : 0 ≤ m.toInt ∧ m.toInt ≤ 99) (hx : 0 ≤ x.toInt ∧ x.toInt ≤ 20 ∧ x.toInt ≤ w.toInt) (hw : 0 < w.toInt) : 0 ≤ (m * x / w).toInt ∧ (m * x / w).toInt ≤ m.toInt := by
  have a1 : 0 ≤ m.toInt * x.toInt := Int.mul_nonneg hm.1 hx.1
  have a2 : m.toInt * x.toInt ≤ 99 * 20 := Int.le_trans (Int.mul_le_mul_of_nonneg_right hm.2 hx.1) (Int.mul_le_mul_of_nonneg_left hx.2.1 (by decide))
  have e1 : (m * x).toInt = m.toInt * x.toInt := i_mul (by omega) (by omega)
  rw [i_div (by rw [e1]; exact a1) hw, e1]
  refine ⟨Int.ediv_nonneg a1 (by omega), ?_⟩
  exact Int.ediv_le_of_le_mul hw (Int.mul_le_mul_of_nonneg_left hx.2.2 hm.1)
theorem qmin_comm (a b : Int32) : qmin a b = qmin b a := i_eq (by rw [i_min, i_min]; split <;> split <;> omega)
theorem pour0 {r : Nat → Int32} (hw : 0 ≤ (r 3).toInt ∧ (r 3).toInt ≤ 200) (hm : 0 ≤ (r 4).toInt ∧ (r 4).toInt ≤ 99) : pourR r 0 0 = r := by
  have e0 : ∀ y : Int32, y + 0 = y := fun y => by simp
  unfold pourR
  have e1 : (r 3 + 0 - 200).toInt = (r 3).toInt - 200 := by rw [e0]; rw [i_sub, i_200] <;> rw [i_200] <;> omega
  have e2 : qmax 0 (r 3 + 0 - 200) = 0 := i_eq (by rw [i_max, e1, i_0]; split <;> omega)
  have e3 : qmin 200 (r 3 + 0) = r 3 := i_eq (by rw [i_min, e0, i_200]; split <;> omega)
  have e4 : qmin 99 (r 4 + 0) = r 4 := i_eq (by rw [i_min, e0, i_99]; split <;> omega)
  rw [e2, e3, e4, e0]
  funext j
  by_cases h4 : j = 4
  · subst h4; rw [pk_us]
  · rw [pk_un h4]
    by_cases h3 : j = 3
    · subst h3; rw [pk_us]
    · rw [pk_un h3]
      by_cases h7 : j = 7
      · subst h7; rw [pk_us]
      · rw [pk_un h7]
/-- a pipe's row behind its flow -/
def flowP (p : Nat → Int32) (x y : Int32) : Nat → Int32 := upd (upd (upd p 5 x) 6 y) 7 (p 7 + y)
theorem flow_P {S : QLs} {k : Nat} : ∃ S3, flowL S k = sP (sP (sP S3 k (upd (qP S3 k) 5 (canF S k))) k (upd (upd (qP S3 k) 5 (canF S k)) 6 (qmin (qP S k 9) (canF S k)))) k (upd (upd (upd (qP S3 k) 5 (canF S k)) 6 (qmin (qP S k 9) (canF S k))) 7 (upd (upd (qP S3 k) 5 (canF S k)) 6 (qmin (qP S k 9) (canF S k)) 7 + qmin (qP S k 9) (canF S k)))
    ∧ S3 = sT (sT (wander S (qf S k) (qo S k) (canF S k)) (qf S k) (upd (qT (wander S (qf S k) (qo S k) (canF S k)) (qf S k)) 3 (qT (wander S (qf S k) (qo S k) (canF S k)) (qf S k) 3 - canF S k))) (qo S k) (takeW (qT (sT (wander S (qf S k) (qo S k) (canF S k)) (qf S k) (upd (qT (wander S (qf S k) (qo S k) (canF S k)) (qf S k)) 3 (qT (wander S (qf S k) (qo S k) (canF S k)) (qf S k) 3 - canF S k))) (qo S k)) (canF S k - qmin (qP S k 9) (canF S k))) := by
  refine ⟨_, ?_, rfl⟩
  unfold flowL
  simp only [qP_sP]
theorem RR.mk2 {D E : Nat} {S S2 : QLs} {M M2 : QMs} (h : RR D S M) (hs : Shp S S2) (hD : mY M2 0 = qD S2) (ht : mt_ M2 = mt_ M) (hp : mp_ M2 = mp_ M) (hA : ∀ i, i < qt S → RE (rowA M2 i) (qT S2 i) ∧ TI E (qT S2 i)) (hB : ∀ k, k < qp S → PE (rowB M2 k) (qP S2 k) ∧ PI (qP S2 k)) : RR E S2 M2 :=
  ⟨hs.ok h.1, by rw [ht, hs.1]; exact h.2.1, by rw [hp, hs.2.1]; exact h.2.2.1, hD, fun i hi => (hA i (by rw [hs.1] at hi; exact hi)).1, fun k hk => (hB k (by rw [hs.2.1] at hk; exact hk)).1, fun i hi => (hA i (by rw [hs.1] at hi; exact hi)).2, fun k hk => (hB k (by rw [hs.2.1] at hk; exact hk)).2⟩
theorem flow_c {S : QLs} {k : Nat} {x y : Int32} (hx : x = canF S k) (hy : y = qmin (qP S k 9) x) {W : QLs} (hW : W = wander S (qf S k) (qo S k) x) (ne : qo S k ≠ qf S k) :
    (∀ j, qT (flowL S k) j = if j = qo S k then takeW (qT W (qo S k)) (x - y) else if j = qf S k then upd (qT W (qf S k)) 3 (qT W (qf S k) 3 - x) else qT W j) ∧ (∀ j, qP (flowL S k) j = if j = k then upd (upd (upd (qP S k) 5 x) 6 y) 7 (upd (upd (qP S k) 5 x) 6 y 7 + y) else qP S j) ∧ qD (flowL S k) = qD S := by
  obtain ⟨S3, e1, e3⟩ := flow_P (S := S) (k := k)
  rw [← hx, ← hW, ← hy] at e3
  rw [← hx, ← hy] at e1
  have hPW : qP W = qP S ∧ qD W = qD S := by
    rw [hW]; unfold wander; split <;> exact ⟨rfl, rfl⟩
  have hP3 : qP S3 = qP S ∧ qD S3 = qD S := by rw [e3]; exact hPW
  have hT3 : ∀ j, qT S3 j = if j = qo S k then takeW (qT W (qo S k)) (x - y) else if j = qf S k then upd (qT W (qf S k)) 3 (qT W (qf S k) 3 - x) else qT W j := fun j => by
    rw [e3]
    by_cases h1 : j = qo S k
    · subst h1; rw [qT_sT, if_pos rfl, qT_sTn _ _ ne]
    · rw [qT_sTn _ _ h1, if_neg h1]
      by_cases h2 : j = qf S k
      · subst h2; rw [qT_sT, if_pos rfl]
      · rw [qT_sTn _ _ h2, if_neg h2]
  rw [hP3.1] at e1
  rw [e1]
  refine ⟨hT3, fun j => ?_, hP3.2⟩
  by_cases hj : j = k
  · subst hj; rw [qP_sP, if_pos rfl]
  · rw [qP_sPn _ _ hj, qP_sPn _ _ hj, qP_sPn _ _ hj, if_neg hj, hP3.1]
set_option maxHeartbeats 1000000 in
theorem s_flow {D : Nat} {S : QLs} {M : QMs} (h : RR D S M) {k : Nat} (hk : k < qp S) : RR D (flowF k S) (mflowF k M) := by
  show RR D (flowL S k) (mflow M k)
  obtain ⟨hf, ht, hne, -, -⟩ := h.1.2.2 k hk
  obtain ⟨hc1, hc2, hc3, hc4⟩ := can_val h hk
  have hF := h.2.2.2.2.2.2.1 _ hf
  have hT := h.2.2.2.2.2.2.1 _ ht
  have hP := h.2.2.2.2.2.2.2 k hk
  obtain ⟨x, ex⟩ : ∃ x, x = canF S k := ⟨_, rfl⟩
  obtain ⟨y, ey⟩ : ∃ y, y = qmin (qP S k 9) x := ⟨_, rfl⟩
  obtain ⟨W, eW⟩ : ∃ W, W = wander S (qf S k) (qo S k) x := ⟨_, rfl⟩
  obtain ⟨r1, r2, r3⟩ := flow_c ex ey eW (fun q => hne q.symm)
  rw [← ex] at hc1 hc2 hc3 hc4
  have hy : 0 ≤ y.toInt ∧ y.toInt ≤ x.toInt := by
    have hp9 := hP.2.2.2
    rw [ey, i_min]; constructor <;> split <;> omega
  have hxy : (x - y).toInt = x.toInt - y.toInt := i_sub (by omega) (by omega)
  obtain ⟨M3, e3⟩ : ∃ M3, M3 = mSetP (mSetP (mSetP M k 5 x) k 6 y) k 7 (mB (mSetP (mSetP M k 5 x) k 6 y) (9 * k + 7) + y) := ⟨_, rfl⟩
  have em : mflow M k = if x = 0 then M3 else mPour (mSetT (mSetT M3 (qf S k) 3 (mA M3 (8 * qf S k + 3) - x)) (qf S k) 4 (mA (mSetT M3 (qf S k) 3 (mA M3 (8 * qf S k + 3) - x)) (8 * qf S k + 4) - mA M3 (8 * qf S k + 4) * x / mA M3 (8 * qf S k + 3))) (qo S k) (x - y) (mA M3 (8 * qf S k + 4) * x / mA M3 (8 * qf S k + 3)) := by
    unfold mflow
    simp only []
    rw [hc1, qmin_comm x, h.tap hk, ← ey, (h.f0 hk).1, (h.f0 hk).2, ← e3]
  have p2 := setP_row (M := mSetP M k 5 x) (x := y) (show 6 < 8 by decide) (setP_row (M := M) (x := x) (show 5 < 8 by decide) (h.2.2.2.2.2.1 k hk))
  have p7 : mB (mSetP (mSetP M k 5 x) k 6 y) (9 * k + 7) = upd (upd (qP S k) 5 x) 6 y 7 := p2.1 7 (by decide)
  have p3 : PE (rowB M3 k) (upd (upd (upd (qP S k) 5 x) 6 y) 7 (upd (upd (qP S k) 5 x) 6 y 7 + y)) := by
    rw [e3, p7]; exact setP_row (by decide) p2
  have pn : ∀ j, j < qp S → j ≠ k → PE (rowB M3 j) (qP S j) := fun j hj hn => by
    rw [e3]; exact setP_ne (by decide) hn (setP_ne (by decide) hn (setP_ne (by decide) hn (h.2.2.2.2.2.1 j hj)))
  have aM : mA M3 = mA M ∧ mt_ M3 = mt_ M ∧ mp_ M3 = mp_ M ∧ mY M3 = mY M := by rw [e3]; exact ⟨rfl, rfl, rfl, rfl⟩
  have hPI : ∀ j, j < qp S → PI (qP (flowL S k) j) := fun j hj => by
    rw [r2]
    by_cases hn : j = k
    · rw [if_pos hn]; unfold PI
      rw [pk_un (show 2 ≠ 7 by decide), pk_un (show 2 ≠ 6 by decide), pk_un (show 2 ≠ 5 by decide), pk_un (show 3 ≠ 7 by decide), pk_un (show 3 ≠ 6 by decide), pk_un (show 3 ≠ 5 by decide), pk_un (show 4 ≠ 7 by decide), pk_un (show 4 ≠ 6 by decide), pk_un (show 4 ≠ 5 by decide), pk_un (show 9 ≠ 7 by decide), pk_un (show 9 ≠ 6 by decide), pk_un (show 9 ≠ 5 by decide)]
      exact hP
    · rw [if_neg hn]; exact h.2.2.2.2.2.2.2 j hj
  have hwd : W = S ∨ 0 < qT S (qf S k) 3 := by
    by_cases c : 0 < qT S (qf S k) 3
    · exact Or.inr c
    · left; rw [eW]; unfold wander; rw [if_neg c]
  have hWr : 0 < qT S (qf S k) 3 → qT W (qf S k) = upd (qT S (qf S k)) 4 (qT S (qf S k) 4 - qT S (qf S k) 4 * x / qT S (qf S k) 3) ∧ qT W (qo S k) = takeM (qT S (qo S k)) (qT S (qf S k) 4 * x / qT S (qf S k) 3) ∧ ∀ j, j ≠ qf S k → j ≠ qo S k → qT W j = qT S j := fun c => by
    rw [eW]; unfold wander; rw [if_pos c]
    simp only []
    refine ⟨?_, ?_, fun j h1 h2 => ?_⟩
    · rw [qT_sTn _ _ hne, qT_sT]
    · rw [qT_sT, qT_sTn _ _ (fun q => hne q.symm)]
    · rw [qT_sTn _ _ h2, qT_sTn _ _ h1]
  have e0 : ∀ q : Int32, q - 0 = q := fun q => by simp
  by_cases cx : x = 0
  · -- nothing flows
    have y0 : y = 0 := i_eq (by rw [cx, i_0] at hy; rw [i_0]; omega)
    have hid : ∀ i, i < qt S → qT (flowL S k) i = qT S i := fun i hi => by
      rw [r1, cx, y0, e0, e0]
      have z0 : ∀ q : Int32, q * 0 = 0 := fun q => by simp
      rcases hwd with hw | c
      · rw [hw]
        by_cases h1 : i = qo S k
        · rw [if_pos h1, h1]
          have := pour0 hT.2.2.2.1 hT.2.2.2.2.1
          rw [← take_pour hT.2.2.2.1 (by rw [i_0]; omega)] at this
          have e5 : ∀ j, takeW (qT S (qo S k)) 0 j = qT S (qo S k) j := fun j => by
            by_cases h4 : j = 4
            · subst h4; unfold takeW; rw [pk_un (by decide), pk_un (by decide)]
            · rw [← congrFun this j]; unfold takeM; rw [pk_un h4]
          exact funext e5
        · rw [if_neg h1]
          by_cases h2 : i = qf S k
          · rw [if_pos h2, h2]; funext j
            by_cases h3 : j = 3
            · subst h3; rw [pk_us]
            · rw [pk_un h3]
          · rw [if_neg h2]
      · obtain ⟨w1, w2, w3⟩ := hWr c
        have v0 : qT S (qf S k) 4 * x / qT S (qf S k) 3 = 0 := by
          rw [cx, z0]
          have c3 := Int32.lt_iff_toInt_lt.mp c
          rw [i_0] at c3
          exact i_eq (by rw [i_div (by decide) c3, i_0]; simp)
        rw [v0] at w1 w2
        rw [e0] at w1
        by_cases h1 : i = qo S k
        · rw [if_pos h1, h1, w2, takeMW, take_pour hT.2.2.2.1 (by rw [i_0]; omega)]
          exact pour0 hT.2.2.2.1 hT.2.2.2.2.1
        · rw [if_neg h1]
          by_cases h2 : i = qf S k
          · rw [if_pos h2, h2, w1]; funext j
            by_cases h3 : j = 3
            · subst h3; rw [pk_us, pk_un (by decide)]
            · rw [pk_un h3]
              by_cases h4 : j = 4
              · subst h4; rw [pk_us]
              · rw [pk_un h4]
          · rw [if_neg h2]; exact w3 i h2 h1
    rw [em, if_pos cx]
    refine h.mk2 shp_flow (by rw [r3, aM.2.2.2]; exact h.2.2.2.1) aM.2.1 aM.2.2.1 (fun i hi => ?_) (fun j hj => ⟨?_, hPI j hj⟩)
    · rw [hid i hi]
      exact ⟨by unfold rowA; rw [aM.1]; exact h.2.2.2.2.1 i hi, h.2.2.2.2.2.2.1 i hi⟩
    · rw [r2]
      by_cases hn : j = k
      · rw [if_pos hn, hn]; exact p3
      · rw [if_neg hn]; exact pn j hj hn
  · -- something flows
    have x0 : 0 < x.toInt := by
      rcases Int.lt_or_eq_of_le hc2 with q | q
      · exact q
      · exact absurd (i_eq (by rw [i_0]; exact q.symm)) cx
    have c3 : 0 < (qT S (qf S k) 3).toInt := by omega
    have c : 0 < qT S (qf S k) 3 := Int32.lt_iff_toInt_lt.mpr (by rw [i_0]; exact c3)
    obtain ⟨w1, w2, w3⟩ := hWr c
    obtain ⟨v, ev⟩ : ∃ v, v = qT S (qf S k) 4 * x / qT S (qf S k) 3 := ⟨_, rfl⟩
    have hv : 0 ≤ v.toInt ∧ v.toInt ≤ (qT S (qf S k) 4).toInt := by
      rw [ev]; exact i_mudv hF.2.2.2.2.1 ⟨hc2, hc3, hc4⟩ c3
    rw [← ev] at w1 w2
    rw [em, if_neg cx, aM.1, h.at_ hf (show 3 < 8 by decide), h.at_ hf (show 4 < 8 by decide), ← ev]
    have q3 : RE (rowA M3 (qf S k)) (qT S (qf S k)) := by unfold rowA; rw [aM.1]; exact h.2.2.2.2.1 _ hf
    have q4 := (setT_row (M := M3) (i := qf S k) (x := qT S (qf S k) 3 - x) (show 3 < 8 by decide)).tr (q3.up 3 _)
    have e4 : mA (mSetT M3 (qf S k) 3 (qT S (qf S k) 3 - x)) (8 * qf S k + 4) = qT S (qf S k) 4 := (q4 4 (by decide)).trans (pk_un (by decide))
    rw [e4]
    have q5 := (setT_row (M := mSetT M3 (qf S k) 3 (qT S (qf S k) 3 - x)) (i := qf S k) (x := qT S (qf S k) 4 - v) (show 4 < 8 by decide)).tr (q4.up 4 _)
    refine h.mk2 shp_flow (by rw [r3]; show mY M3 0 = _; rw [aM.2.2.2]; exact h.2.2.2.1) aM.2.1 aM.2.2.1 (fun i hi => ?_) (fun j hj => ⟨?_, hPI j hj⟩)
    · rw [r1]
      by_cases h1 : i = qo S k
      · rw [if_pos h1, h1, w2, takeMW, take_pour hT.2.2.2.1 (by rw [hxy]; omega)]
        have hm := hF.2.2.2.2.1
        refine ⟨pour_row.tr (pourR_c ?_ _ _), pour_ti hT (by rw [hxy]; omega) ⟨hv.1, by omega⟩⟩
        refine (setT_ne (by decide) (fun q => hne q.symm)).tr ((setT_ne (by decide) (fun q => hne q.symm)).tr ?_)
        unfold rowA; rw [aM.1]; exact h.2.2.2.2.1 _ ht
      · rw [if_neg h1]
        by_cases h2 : i = qf S k
        · rw [if_pos h2, h2, w1, pk_un (show 3 ≠ 4 by decide)]
          have ec : upd (upd (qT S (qf S k)) 4 (qT S (qf S k) 4 - v)) 3 (qT S (qf S k) 3 - x) = upd (upd (qT S (qf S k)) 3 (qT S (qf S k) 3 - x)) 4 (qT S (qf S k) 4 - v) := by
            funext j
            by_cases h3 : j = 3
            · subst h3; rw [pk_us, pk_un (by decide), pk_us]
            · by_cases h4 : j = 4
              · subst h4; rw [pk_un (by decide), pk_us, pk_us]
              · rw [pk_un h3, pk_un h4, pk_un h4, pk_un h3]
          rw [ec]
          refine ⟨(pour_ne hne).tr q5, ?_⟩
          obtain ⟨t0, t1, t2, t3, t4, t6⟩ := hF
          have a3 : (qT S (qf S k) 3 - x).toInt = (qT S (qf S k) 3).toInt - x.toInt := i_sub (by omega) (by omega)
          have a4 : (qT S (qf S k) 4 - v).toInt = (qT S (qf S k) 4).toInt - v.toInt := i_sub (by omega) (by omega)
          unfold TI
          simp only [pk_us, pk_un (show (0 : Nat) ≠ 4 by decide), pk_un (show (0 : Nat) ≠ 3 by decide), pk_un (show (1 : Nat) ≠ 4 by decide), pk_un (show (1 : Nat) ≠ 3 by decide), pk_un (show (2 : Nat) ≠ 4 by decide), pk_un (show (2 : Nat) ≠ 3 by decide), pk_un (show (3 : Nat) ≠ 4 by decide), pk_un (show (6 : Nat) ≠ 4 by decide), pk_un (show (6 : Nat) ≠ 3 by decide)]
          exact ⟨t0, t1, t2, by rw [a3]; omega, by rw [a4]; omega, t6⟩
        · rw [if_neg h2, w3 i h2 h1]
          refine ⟨(pour_ne h1).tr ((setT_ne (by decide) h2).tr ((setT_ne (by decide) h2).tr ?_)), h.2.2.2.2.2.2.1 i hi⟩
          unfold rowA; rw [aM.1]; exact h.2.2.2.2.1 i hi
    · rw [r2]
      show PE (rowB M3 j) _
      by_cases hn : j = k
      · rw [if_pos hn, hn]; exact p3
      · rw [if_neg hn]; exact pn j hj hn
