/-! PART 76: a day of the class's land, row by row; the hand-made one's is the same -/
def BD (D : Nat) (S : QLs) : Prop := ∃ M, RR D S M
theorem Inv.bd {D : Nat} {X : QLs} (h : Inv D X) : BD D X := h.1
theorem BD.ok {D : Nat} {S : QLs} (h : BD D S) : LOk S := h.choose_spec.1
theorem BD.ti {D : Nat} {S : QLs} (h : BD D S) {i : Nat} (hi : i < qt S) : TI D (qT S i) := h.choose_spec.2.2.2.2.2.2.1 i hi
theorem BD.pi {D : Nat} {S : QLs} (h : BD D S) {k : Nat} (hk : k < qp S) : PI (qP S k) := h.choose_spec.2.2.2.2.2.2.2 k hk
theorem BD.feed {D : Nat} {S : QLs} (h : BD D S) (m : Nat) (hm : m ≤ qt S) : BD D (itN feedF m S) := by
  obtain ⟨M, h⟩ := h
  exact ⟨_, it_T (f := feedF) (g := mfeedF) (fun i S M h hi => s_feed h hi) (fun _ _ => shp_sT) h m hm⟩
theorem BD.flow {D : Nat} {S : QLs} (h : BD D S) (m : Nat) (hm : m ≤ qp S) : BD D (itN flowF m S) := by
  obtain ⟨M, h⟩ := h
  exact ⟨_, it_P (f := flowF) (g := mflowF) (fun i S M h hi => s_flow h hi) (fun _ _ => shp_flow) h m hm⟩
theorem BD.crust {D : Nat} {S : QLs} (h : BD D S) (m : Nat) (hm : m ≤ qp S) : BD D (itN crustF m S) := by
  obtain ⟨M, h⟩ := h
  exact ⟨_, it_P (f := crustF) (g := mcrustF) (fun i S M h hi => s_crust h hi) (fun _ _ => shp_crust) h m hm⟩
theorem BD.can {D : Nat} {S : QLs} (h : BD D S) {k : Nat} (hk : k < qp S) : 0 ≤ (canF S k).toInt ∧ (canF S k).toInt ≤ 20 ∧ (canF S k).toInt ≤ (qT S (qf S k) 3).toInt := by
  obtain ⟨M, h⟩ := h
  exact (can_val h hk).2
theorem i_lt {a b : Int32} : a < b ↔ a.toInt < b.toInt := Int32.lt_iff_toInt_lt
theorem i_le {a b : Int32} : a ≤ b ↔ a.toInt ≤ b.toInt := Int32.le_iff_toInt_le
theorem i_nle {a b : Int32} (h : ¬ a ≤ b) : ¬ a.toInt ≤ b.toInt := fun q => h (i_le.mpr q)
theorem i_nlt {a b : Int32} (h : ¬ a < b) : ¬ a.toInt < b.toInt := fun q => h (i_lt.mpr q)
theorem i_mn (a b : Int32) : (qmin a b).toInt = min a.toInt b.toInt := by rw [i_min]; split <;> omega
theorem i_mx (a b : Int32) : (qmax a b).toInt = max a.toInt b.toInt := by rw [i_max]; split <;> omega
/-- the difference of the heads, in the other order of reckoning -/
theorem by_val {D : Nat} {S : QLs} (h : BD D S) {k : Nat} (hk : k < qp S) : (simBy S k).toInt = 10 * (qT S (qf S k) 0).toInt + (qT S (qf S k) 3).toInt - (10 * (qT S (qo S k) 0).toInt + (qT S (qo S k) 3).toInt) ∧ headR (qT S (qf S k)) - headR (qT S (qo S k)) = simBy S k := by
  obtain ⟨hf, ho, -, -, -⟩ := h.ok.2.2 k hk
  have hF := h.ti hf
  have hT := h.ti ho
  have a0 := hF.1; have a3 := hF.2.2.2.1; have b0 := hT.1; have b3 := hT.2.2.2.1
  have e1 : (qT S (qf S k) 0 - qT S (qo S k) 0).toInt = (qT S (qf S k) 0).toInt - (qT S (qo S k) 0).toInt := i_sub (by omega) (by omega)
  have e2 : (10 * (qT S (qf S k) 0 - qT S (qo S k) 0)).toInt = 10 * ((qT S (qf S k) 0).toInt - (qT S (qo S k) 0).toInt) := by rw [i_mul, e1, i_10] <;> rw [e1, i_10] <;> omega
  have e3 : (10 * (qT S (qf S k) 0 - qT S (qo S k) 0) + qT S (qf S k) 3).toInt = 10 * ((qT S (qf S k) 0).toInt - (qT S (qo S k) 0).toInt) + (qT S (qf S k) 3).toInt := by rw [i_add, e2] <;> rw [e2] <;> omega
  have e4 : (simBy S k).toInt = 10 * ((qT S (qf S k) 0).toInt - (qT S (qo S k) 0).toInt) + (qT S (qf S k) 3).toInt - (qT S (qo S k) 3).toInt := by
    unfold simBy
    rw [i_sub, e3] <;> rw [e3] <;> omega
  have e5 : (headR (qT S (qf S k)) - headR (qT S (qo S k))).toInt = (headR (qT S (qf S k))).toInt - (headR (qT S (qo S k))).toInt := by
    apply i_sub <;> rw [head_val hF, head_val hT] <;> omega
  rw [head_val hF, head_val hT] at e5
  exact ⟨by rw [e4]; omega, i_eq (by rw [e5, e4]; omega)⟩
theorem can_by {D : Nat} {S : QLs} (h : BD D S) {k : Nat} (hk : k < qp S) : canF S k = if simBy S k ≤ 0 then 0 else if qP S k 3 ≤ simBy S k then qmin (qmin (qmax 0 (qP S k 2 - qP S k 4)) (simBy S k / 10 + 1)) (qT S (qf S k) 3) else 0 := by
  unfold canF
  simp only []
  rw [(by_val h hk).2]
/-- what flows, as the law looks at it -/
theorem can_law {D : Nat} {S : QLs} (h : BD D S) {k : Nat} (hk : k < qp S) : (simBy S k ≤ 0 → canF S k = 0) ∧ (0 < canF S k → qP S k 3 ≤ simBy S k ∧ canF S k ≤ simBy S k / 10 + 1 ∧ canF S k ≤ qT S (qf S k) 3 ∧ canF S k ≤ qP S k 2 - qP S k 4) ∧ canF S k ≤ qmax 0 (qP S k 2 - qP S k 4) := by
  have e := can_by h hk
  have hP := h.pi hk
  have p2 := hP.1; have p4 := hP.2.2.1
  have e7 : (qP S k 2 - qP S k 4).toInt = (qP S k 2).toInt - (qP S k 4).toInt := i_sub (by omega) (by omega)
  have e8 := i_mx 0 (qP S k 2 - qP S k 4)
  rw [e7, i_0] at e8
  have m0 : (0 : Int32) ≤ qmax 0 (qP S k 2 - qP S k 4) := by rw [i_le, i_0]; omega
  have n0 : ¬ (0 : Int32) < 0 := by decide
  refine ⟨fun hb => by rw [e, if_pos hb], fun hc => ?_, ?_⟩
  · rw [e] at hc
    by_cases c1 : simBy S k ≤ 0
    · rw [if_pos c1] at hc; exact absurd hc n0
    · rw [if_neg c1] at hc
      by_cases c2 : qP S k 3 ≤ simBy S k
      · rw [if_pos c2] at hc
        rw [e, if_neg c1, if_pos c2]
        have e9 := i_mn (qmax 0 (qP S k 2 - qP S k 4)) (simBy S k / 10 + 1)
        have e11 := i_mn (qmin (qmax 0 (qP S k 2 - qP S k 4)) (simBy S k / 10 + 1)) (qT S (qf S k) 3)
        rw [i_lt, i_0] at hc
        refine ⟨c2, ?_, ?_, ?_⟩
        · rw [i_le]; omega
        · rw [i_le]; omega
        · rw [i_le, e7]
          omega
      · rw [if_neg c2] at hc; exact absurd hc n0
  · rw [e]
    split
    · exact m0
    · split
      · have e9 := i_mn (qmax 0 (qP S k 2 - qP S k 4)) (simBy S k / 10 + 1)
        have e11 := i_mn (qmin (qmax 0 (qP S k 2 - qP S k 4)) (simBy S k / 10 + 1)) (qT S (qf S k) 3)
        rw [i_le]; omega
      · exact m0
theorem simF_eq {D : Nat} {S : QLs} (h : BD D S) {k : Nat} (hk : k < qp S) : simF S k = canF S k := by
  rw [can_by h hk]
  have hP := h.pi hk
  obtain ⟨hf, ho, -, -, -⟩ := h.ok.2.2 k hk
  have a0 := (h.ti hf).1; have a3 := (h.ti hf).2.2.2.1; have b0 := (h.ti ho).1; have b3 := (h.ti ho).2.2.2.1
  have hby := (by_val h hk).1
  have p2 := hP.1; have p4 := hP.2.2.1
  have e7 : (qP S k 2 - qP S k 4).toInt = (qP S k 2).toInt - (qP S k 4).toInt := i_sub (by omega) (by omega)
  have e8 := i_mx 0 (qP S k 2 - qP S k 4)
  rw [e7, i_0] at e8
  unfold simF simIts
  by_cases c1 : simBy S k < 1
  · have c1' : simBy S k ≤ 0 := by rw [i_lt, i_1] at c1; rw [i_le, i_0]; omega
    rw [if_pos c1, if_pos c1']
  · have c1' : ¬ simBy S k ≤ 0 := by rw [i_lt, i_1] at c1; rw [i_le, i_0]; omega
    rw [if_neg c1, if_neg c1']
    by_cases c2 : simBy S k < qP S k 3
    · have c2' : ¬ qP S k 3 ≤ simBy S k := by rw [i_lt] at c2; rw [i_le]; omega
      rw [if_pos c2, if_neg c2']
    · have c2' : qP S k 3 ≤ simBy S k := by rw [i_lt] at c2; rw [i_le]; omega
      rw [if_neg c2, if_pos c2']
      have d0 : 0 < (simBy S k).toInt := by rw [i_lt, i_1] at c1; omega
      have e5 : (simBy S k / 10).toInt = (simBy S k).toInt / 10 := by rw [i_div (by omega) (by decide), i_10]
      have e6 : (simBy S k / 10 + 1).toInt = (simBy S k).toInt / 10 + 1 := by rw [i_add, e5, i_1] <;> rw [e5, i_1] <;> omega
      have e6' : (1 + simBy S k / 10).toInt = (simBy S k).toInt / 10 + 1 := by rw [show 1 + simBy S k / 10 = simBy S k / 10 + 1 from Int32.add_comm _ _]; exact e6
      have e9 := i_mn (qmax 0 (qP S k 2 - qP S k 4)) (simBy S k / 10 + 1)
      have e11 := i_mn (qmin (qmax 0 (qP S k 2 - qP S k 4)) (simBy S k / 10 + 1)) (qT S (qf S k) 3)
      rw [e6] at e9
      by_cases c3 : qP S k 4 < qP S k 2
      · rw [if_pos c3]
        have c3' := i_lt.mp c3
        apply i_eq
        by_cases c4 : qP S k 2 - qP S k 4 ≤ 1 + simBy S k / 10
        · rw [if_pos c4]
          have c4' := i_le.mp c4
          rw [e7, e6'] at c4'
          by_cases c5 : qP S k 2 - qP S k 4 ≤ qT S (qf S k) 3
          · have c5' := i_le.mp c5
            rw [e7] at c5'
            rw [if_pos c5, e7]; omega
          · have c5' := i_nle c5
            rw [e7] at c5'
            rw [if_neg c5]; omega
        · rw [if_neg c4]
          have c4' := i_nle c4
          rw [e7, e6'] at c4'
          by_cases c5 : 1 + simBy S k / 10 ≤ qT S (qf S k) 3
          · have c5' := i_le.mp c5
            rw [e6'] at c5'
            rw [if_pos c5, e6']; omega
          · have c5' := i_nle c5
            rw [e6'] at c5'
            rw [if_neg c5]; omega
      · rw [if_neg c3]
        have c3' := i_nlt c3
        apply i_eq
        rw [i_0]; omega
theorem flow_wet {D : Nat} {S : QLs} (h : BD D S) {k : Nat} (hk : k < qp S) (hx : ¬ canF S k = 0) : ¬ qT S (qf S k) 3 = 0 := fun q => hx (i_eq (by
  have h1 := h.can hk
  rw [q, i_0] at h1
  rw [i_0]; omega))
/-- what a flow does to the rows -/
theorem flow_r {D : Nat} {S : QLs} (h : BD D S) {k : Nat} (hk : k < qp S) : ∃ w : Int32, (0 ≤ w.toInt ∧ w.toInt ≤ (qT S (qf S k) 4).toInt) ∧ (¬ canF S k = 0 → w = qT S (qf S k) 4 * canF S k / qT S (qf S k) 3) ∧ (canF S k = 0 → w = 0) ∧
    (∀ j, qT (flowL S k) j = if j = qo S k then takeW (takeM (qT S (qo S k)) w) (canF S k - qmin (qP S k 9) (canF S k)) else if j = qf S k then upd (upd (qT S (qf S k)) 4 (qT S (qf S k) 4 - w)) 3 (qT S (qf S k) 3 - canF S k) else qT S j) ∧
    (∀ j, qP (flowL S k) j = if j = k then flowP (qP S k) (canF S k) (qmin (qP S k 9) (canF S k)) else qP S j) ∧ qD (flowL S k) = qD S := by
  obtain ⟨hf, ho, hne, -, -⟩ := h.ok.2.2 k hk
  have hF := h.ti hf
  have hT := h.ti ho
  have hc := h.can hk
  obtain ⟨x, ex⟩ : ∃ x, x = canF S k := ⟨_, rfl⟩
  obtain ⟨y, ey⟩ : ∃ y, y = qmin (qP S k 9) x := ⟨_, rfl⟩
  obtain ⟨W, eW⟩ : ∃ W, W = wander S (qf S k) (qo S k) x := ⟨_, rfl⟩
  obtain ⟨r1, r2, r3⟩ := flow_c ex ey eW (fun q => hne q.symm)
  rw [← ex] at hc ⊢
  rw [← ey]
  have hfp : ∀ j, qP (flowL S k) j = if j = k then flowP (qP S k) x y else qP S j := fun j => by
    rw [r2]
    unfold flowP
    rw [pk_un (show 7 ≠ 6 by decide), pk_un (show 7 ≠ 5 by decide)]
  by_cases c : 0 < qT S (qf S k) 3
  · have c3 := i_lt.mp c
    rw [i_0] at c3
    have hm := i_mudv hF.2.2.2.2.1 hc c3
    refine ⟨qT S (qf S k) 4 * x / qT S (qf S k) 3, hm, fun _ => rfl, fun hx0 => ?_, fun j => ?_, hfp, r3⟩
    · rw [hx0]
      have z0 : qT S (qf S k) 4 * 0 = 0 := by simp
      rw [z0]
      exact i_eq (by rw [i_div (by decide) c3, i_0]; simp)
    · have w1 : qT W (qf S k) = upd (qT S (qf S k)) 4 (qT S (qf S k) 4 - qT S (qf S k) 4 * x / qT S (qf S k) 3) := by
        rw [eW]; unfold wander; rw [if_pos c]; simp only []
        rw [qT_sTn _ _ hne, qT_sT]
      have w2 : qT W (qo S k) = takeM (qT S (qo S k)) (qT S (qf S k) 4 * x / qT S (qf S k) 3) := by
        rw [eW]; unfold wander; rw [if_pos c]; simp only []
        rw [qT_sT, qT_sTn _ _ (fun q => hne q.symm)]
      have w3 : ∀ j, j ≠ qf S k → j ≠ qo S k → qT W j = qT S j := fun j h1 h2 => by
        rw [eW]; unfold wander; rw [if_pos c]; simp only []
        rw [qT_sTn _ _ h2, qT_sTn _ _ h1]
      rw [r1]
      by_cases h1 : j = qo S k
      · rw [if_pos h1, if_pos h1, w2]
      · rw [if_neg h1, if_neg h1]
        by_cases h2 : j = qf S k
        · rw [if_pos h2, if_pos h2, w1, pk_un (show 3 ≠ 4 by decide)]
        · rw [if_neg h2, if_neg h2, w3 j h2 h1]
  · have c3 : (qT S (qf S k) 3).toInt = 0 := by
      have := hF.2.2.2.1.1
      have c4 := i_nlt c
      rw [i_0] at c4
      omega
    have hx0 : x = 0 := i_eq (by rw [i_0]; omega)
    have eWS : W = S := by rw [eW]; unfold wander; rw [if_neg c]
    refine ⟨0, by rw [i_0]; exact ⟨by omega, hF.2.2.2.2.1.1⟩, fun q => absurd hx0 q, fun _ => rfl, fun j => ?_, hfp, r3⟩
    rw [r1, eWS]
    have e0 : ∀ q : Int32, q - 0 = q := fun q => by simp
    have eM : takeM (qT S (qo S k)) 0 = qT S (qo S k) := by
      funext a
      unfold takeM
      by_cases ha : a = 4
      · subst ha
        rw [pk_us]
        have e9 : qT S (qo S k) 4 + 0 = qT S (qo S k) 4 := by simp
        exact i_eq (by rw [i_mn, e9, i_99]; have := hT.2.2.2.2.1; omega)
      · rw [pk_un ha]
    by_cases h1 : j = qo S k
    · rw [if_pos h1, if_pos h1, eM]
    · rw [if_neg h1, if_neg h1]
      by_cases h2 : j = qf S k
      · rw [if_pos h2, if_pos h2, e0]
        have e4 : upd (qT S (qf S k)) 4 (qT S (qf S k) 4) = qT S (qf S k) := by
          funext a
          by_cases ha : a = 4
          · subst ha; rw [pk_us]
          · rw [pk_un ha]
        rw [e4]
      · rw [if_neg h2, if_neg h2]
