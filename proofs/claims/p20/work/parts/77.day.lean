/-! PART 77: the hand-made land's day is the class's -/
theorem upd_comm {r : Nat → Int32} {a b : Nat} {x y : Int32} (h : a ≠ b) : upd (upd r a x) b y = upd (upd r b y) a x := by
  funext j
  by_cases h1 : j = b
  · subst h1; rw [pk_us, pk_un (fun q => h q.symm), pk_us]
  · rw [pk_un h1]
    by_cases h2 : j = a
    · subst h2; rw [pk_us, pk_us]
    · rw [pk_un h2, pk_un h2, pk_un h1]
theorem upd_self {r : Nat → Int32} {a : Nat} {x : Int32} (h : x = r a) : upd r a x = r := by
  funext j
  by_cases h1 : j = a
  · subst h1; rw [pk_us]; exact h
  · rw [pk_un h1]
theorem upd_upd {r : Nat → Int32} {a : Nat} {x y : Int32} : upd (upd r a x) a y = upd r a y := by
  funext j
  by_cases h1 : j = a
  · subst h1; rw [pk_us, pk_us]
  · rw [pk_un h1, pk_un h1, pk_un h1]
theorem sub0 (q : Int32) : q - 0 = q := by simp
theorem add0 (q : Int32) : q + 0 = q := by simp
theorem comes_eq {r : Nat → Int32} {x y : Int32} (h3 : 0 ≤ (r 3).toInt ∧ (r 3).toInt ≤ 200) (hx : 0 ≤ x.toInt ∧ x.toInt ≤ 200) (h4 : 0 ≤ (r 4).toInt ∧ (r 4).toInt ≤ 99) (hy : 0 ≤ y.toInt ∧ y.toInt ≤ 99) : comesR r x y = takeM (takeW r x) y := by
  have e1 : (r 3 + x).toInt = (r 3).toInt + x.toInt := i_add (by omega) (by omega)
  have e2 : (r 4 + y).toInt = (r 4).toInt + y.toInt := i_add (by omega) (by omega)
  have e3 : (r 3 + x - 200).toInt = (r 3).toInt + x.toInt - 200 := by rw [i_sub, e1, i_200] <;> rw [e1, i_200] <;> omega
  have em : (if r 4 + y ≤ 99 then r 4 + y else 99) = qmin 99 (r 4 + y) := by
    apply i_eq
    rw [i_mn, e2, i_99]
    by_cases c : r 4 + y ≤ 99
    · have c' := i_le.mp c
      rw [e2, i_99] at c'
      rw [if_pos c, e2]; omega
    · have c' := i_nle c
      rw [e2, i_99] at c'
      rw [if_neg c, i_99]; omega
  unfold comesR
  simp only []
  rw [pk_un (show 4 ≠ 3 by decide), em, pk_un (show 3 ≠ 4 by decide), pk_us, pk_un (show 7 ≠ 4 by decide), pk_un (show 7 ≠ 3 by decide)]
  unfold takeM takeW
  rw [pk_un (show 4 ≠ 7 by decide), pk_un (show 4 ≠ 3 by decide), pk_un (show 7 ≠ 3 by decide)]
  by_cases c : 200 < r 3 + x
  · have c' := i_lt.mp c
    rw [e1, i_200] at c'
    have eM : qmax 0 (r 3 + x - 200) = r 3 + x - 200 := i_eq (by rw [i_mx, e3, i_0]; omega)
    have e5 : r 3 + x - (r 3 + x - 200) = 200 := by grind
    rw [if_pos c, eM, e5, upd_comm (show 4 ≠ 7 by decide), upd_comm (show 4 ≠ 3 by decide)]
    refine congrArg (fun q => upd q 4 _) ?_
    rw [upd_comm (show 7 ≠ 3 by decide), upd_upd]
  · have c' := i_nlt c
    rw [e1, i_200] at c'
    have eM : qmax 0 (r 3 + x - 200) = 0 := i_eq (by rw [i_mx, e3, i_0]; omega)
    rw [if_neg c, eM, sub0, add0]
    refine congrArg (fun q => upd q 4 _) ?_
    rw [upd_self (r := upd r 3 (r 3 + x)) (a := 7) (by rw [pk_un (show 7 ≠ 3 by decide)])]
theorem comes0 {r : Nat → Int32} (h3 : 0 ≤ (r 3).toInt ∧ (r 3).toInt ≤ 200) (h4 : 0 ≤ (r 4).toInt ∧ (r 4).toInt ≤ 99) : comesR r 0 0 = r := by
  have c1 : r 4 ≤ 99 := by rw [i_le, i_99]; omega
  have c2 : ¬ 200 < r 3 := by rw [i_lt, i_200]; omega
  have u1 : upd r 3 (r 3 + 0) = r := upd_self (add0 _)
  unfold comesR
  simp only []
  rw [u1, add0, if_pos c1, upd_self (r := r) (a := 4) rfl]
  exact if_neg c2
theorem takeW_4 {r : Nat → Int32} {x : Int32} : takeW r x 4 = r 4 := by unfold takeW; rw [pk_un (by decide), pk_un (by decide)]
theorem takeM_W {r : Nat → Int32} {x y : Int32} : takeW (takeM r y) x = takeM (takeW r x) y := by
  unfold takeM
  rw [takeW_4]
  unfold takeW
  rw [pk_un (show 3 ≠ 4 by decide), pk_un (show 7 ≠ 3 by decide), pk_un (show 7 ≠ 4 by decide), pk_un (show 7 ≠ 3 by decide), upd_comm (show 4 ≠ 3 by decide), upd_comm (show 4 ≠ 7 by decide)]
theorem itN_eq {α : Type} {f g : Nat → α → α} {a : α} : ∀ n, (∀ i, i < n → f i (itN g i a) = g i (itN g i a)) → itN f n a = itN g n a
  | 0, _ => rfl
  | n + 1, h => by
    show f n (itN f n a) = g n (itN g n a)
    rw [itN_eq n (fun i hi => h i (by omega))]
    exact h n (by omega)
theorem sfeed_eq {D : Nat} {S : QLs} (h : BD D S) {i : Nat} (hi : i < qt S) : sfeedF i S = feedF i S := by
  have hT := h.ti hi
  have hb := i_quart hT.2.1
  show sT S i (comesR (qT S i) (qT S i 1) (qT S i 1 / 4)) = sT S i (feedR (qT S i))
  rw [comes_eq hT.2.2.2.1 ⟨hT.2.1.1, by have := hT.2.1.2; omega⟩ hT.2.2.2.2.1 ⟨hb.1, by omega⟩]
  unfold feedR
  rw [show takeW (qT S i) (qT S i 1) 1 = qT S i 1 from by unfold takeW; rw [pk_un (by decide), pk_un (by decide)]]
theorem sdrink_eq {D : Nat} {S : QLs} (h : BD D S) {i : Nat} (hi : i < qt S) : sdrinkF i S = drinkF i S := by
  have hT := h.ti hi
  have h2 := hT.2.2.1; have h3 := hT.2.2.2.1; have h4 := hT.2.2.2.2.1
  show sdrinkF i S = sT S i (drinkR (qT S i))
  obtain ⟨v, ev⟩ : ∃ v, v = (if qT S i 4 < 50 then qT S i 2 else qT S i 2 / 2) := ⟨_, rfl⟩
  have ev2 : (if qT S i 4 ≤ 49 then qT S i 2 else qT S i 2 / 2) = v := by
    rw [ev]
    by_cases c : qT S i 4 ≤ 49
    · have c' : qT S i 4 < 50 := by rw [i_lt]; have := i_le.mp c; rw [show (49 : Int32).toInt = 49 by decide] at this; rw [show (50 : Int32).toInt = 50 by decide]; omega
      rw [if_pos c, if_pos c']
    · have c' : ¬ qT S i 4 < 50 := by rw [i_lt]; have := i_nle c; rw [show (49 : Int32).toInt = 49 by decide] at this; rw [show (50 : Int32).toInt = 50 by decide]; omega
      rw [if_neg c, if_neg c']
  have hd : drinkR (qT S i) = upd (upd (upd (qT S i) 3 (qT S i 3 - qmin v (qT S i 3))) 5 (qmin v (qT S i 3))) 6 (qT S i 6 + qmin v (qT S i 3)) := by
    unfold drinkR
    simp only []
    rw [← ev, pk_un (show 6 ≠ 5 by decide), pk_un (show 6 ≠ 3 by decide)]
  unfold sdrinkF
  simp only []
  rw [ev2, hd, qT_sT, pk_us, pk_un (show 3 ≠ 5 by decide)]
  by_cases c : v ≤ qT S i 3
  · have em : qmin v (qT S i 3) = v := i_eq (by rw [i_mn]; have := i_le.mp c; omega)
    rw [if_pos c, em]
    simp only [qT_sT, sT_sT]
    refine congrArg (sT S i) ?_
    rw [pk_us, pk_un (show 3 ≠ 5 by decide), pk_un (show 6 ≠ 3 by decide), pk_un (show 6 ≠ 5 by decide), pk_un (show 5 ≠ 3 by decide), pk_us, upd_comm (show 5 ≠ 3 by decide)]
  · have em : qmin v (qT S i 3) = qT S i 3 := i_eq (by rw [i_mn]; have := i_nle c; omega)
    rw [if_neg c, em]
    simp only [qT_sT, sT_sT]
    refine congrArg (sT S i) ?_
    rw [upd_upd, pk_us, pk_un (show 3 ≠ 5 by decide), pk_un (show 6 ≠ 3 by decide), pk_un (show 6 ≠ 5 by decide), pk_un (show 5 ≠ 3 by decide), pk_us, upd_comm (show 5 ≠ 3 by decide)]
theorem qls_ext {S S2 : QLs} (h1 : ∀ i, qT S2 i = qT S i) (h2 : ∀ i, qP S2 i = qP S i) (h3 : qt S2 = qt S) (h4 : qp S2 = qp S) (h5 : qD S2 = qD S) : S2 = S := by
  obtain ⟨a, b, c, d, e⟩ := S
  obtain ⟨a2, b2, c2, d2, e2⟩ := S2
  have h1 : a2 = a := funext h1
  have h2 : b2 = b := funext h2
  have h3 : c2 = c := h3
  have h4 : d2 = d := h4
  have h5 : e2 = e := h5
  rw [h1, h2, h3, h4, h5]
theorem sflow1_P {S : QLs} {k : Nat} {x : Int32} (hx : simF S k = x) (j : Nat) : qP (sflow1 k S) j = if j = k then flowP (qP S k) x (qmin (qP S k 9) x) else qP S j := by
  have em : (if x ≤ qP S k 9 then x else qP S k 9) = qmin (qP S k 9) x := by
    apply i_eq
    rw [i_mn]
    by_cases c : x ≤ qP S k 9
    · have := i_le.mp c; rw [if_pos c]; omega
    · have := i_nle c; rw [if_neg c]; omega
  unfold sflow1
  simp only []
  by_cases hj : j = k
  · subst hj
    rw [qP_sP, if_pos rfl, qP_sP, qP_sP, hx, pk_us, pk_un (show 9 ≠ 5 by decide), em, pk_us, pk_un (show 7 ≠ 6 by decide), pk_un (show 7 ≠ 5 by decide)]
    rfl
  · rw [qP_sPn _ _ hj, qP_sPn _ _ hj, qP_sPn _ _ hj, if_neg hj]
theorem sP_self {A : QLs} {k : Nat} {r : Nat → Int32} (h : qP A k = r) : sP A k r = A := by
  refine qls_ext (fun j => rfl) (fun j => ?_) rfl rfl rfl
  by_cases hj : j = k
  · subst hj; rw [qP_sP]; exact h.symm
  · rw [qP_sPn _ _ hj]
theorem sP_D (S : QLs) (j : Nat) (r : Nat → Int32) : qD (sP S j r) = qD S := rfl
theorem sT_D (S : QLs) (j : Nat) (r : Nat → Int32) : qD (sT S j r) = qD S := rfl
theorem sflow1_D {S : QLs} {k : Nat} : qD (sflow1 k S) = qD S := by
  unfold sflow1
  simp only []
  rw [sP_D, sP_D, sP_D]
theorem sflow1_T {S : QLs} {k : Nat} : qT (sflow1 k S) = qT S := by
  unfold sflow1
  simp only []
  rw [qT_sP, qT_sP, qT_sP]
theorem sflow2_P {S : QLs} {k f o : Nat} : qP (sflow2 k f o S) = qP S := by
  unfold sflow2
  simp only []
  rw [qP_sT, qP_sT, qP_sT]
theorem sflow2_D {S : QLs} {k f o : Nat} : qD (sflow2 k f o S) = qD S := by
  unfold sflow2
  simp only []
  rw [sT_D, sT_D, sT_D]
theorem sflow_step {D : Nat} {S : QLs} (h : BD D S) {k : Nat} (hk : k < qp S) : sflowF k S = if qD S - qD S / 4 * 4 = 0 then crustF k (flowF k S) else flowF k S := by
  obtain ⟨hf, ho, hne, -, -⟩ := h.ok.2.2 k hk
  have hF := h.ti hf
  have hT := h.ti ho
  have hP := h.pi hk
  obtain ⟨w, hw, w1, w0, rT, rP, rD⟩ := flow_r h hk
  have hc := h.can hk
  have hsF := simF_eq h hk
  obtain ⟨x, ex⟩ : ∃ x, x = canF S k := ⟨_, rfl⟩
  rw [← ex] at w1 w0 rT rP hc hsF
  have hy : 0 ≤ (qmin (qP S k 9) x).toInt ∧ (qmin (qP S k 9) x).toInt ≤ x.toInt := by
    have hp9 := hP.2.2.2
    rw [i_mn]; omega
  have hxy : (x - qmin (qP S k 9) x).toInt = x.toInt - (qmin (qP S k 9) x).toInt := i_sub (by omega) (by omega)
  have q1 := sflow1_P hsF
  have q1k : qP (sflow1 k S) k = flowP (qP S k) x (qmin (qP S k 9) x) := by rw [q1, if_pos rfl]
  have t1 : ∀ j, qT (sflow1 k S) j = qT S j := fun j => by rw [sflow1_T]
  have p5 : flowP (qP S k) x (qmin (qP S k 9) x) 5 = x := by unfold flowP; rw [pk_un (by decide), pk_un (by decide), pk_us]
  have p6 : flowP (qP S k) x (qmin (qP S k 9) x) 6 = qmin (qP S k 9) x := by unfold flowP; rw [pk_un (by decide), pk_us]
  have p4 : flowP (qP S k) x (qmin (qP S k 9) x) 4 = qP S k 4 := by unfold flowP; rw [pk_un (by decide), pk_un (by decide), pk_un (by decide)]
  have fk : qP (flowL S k) k = flowP (qP S k) x (qmin (qP S k 9) x) := by rw [rP, if_pos rfl]
  have shF : Shp S (flowL S k) := shp_flow
  unfold sflowF
  by_cases cx : x = 0
  · have c1 : qP (sflow1 k S) k 5 = 0 := by rw [q1k, p5, cx]
    have eC : crustF k (flowF k S) = flowF k S := by
      show crustL (flowL S k) k = flowL S k
      unfold crustL
      rw [if_pos (by rw [fk, p5, cx]; decide)]
    rw [if_pos c1, eC]
    have e9 : (if qD S - qD S / 4 * 4 = 0 then flowF k S else flowF k S) = flowL S k := by split <;> rfl
    rw [e9]
    have y0 : qmin (qP S k 9) x = 0 := i_eq (by rw [cx, i_0] at hy; rw [cx, i_0]; omega)
    refine qls_ext (fun j => ?_) (fun j => by rw [q1, rP]) (shp_sflow1.1.trans shF.1.symm) (shp_sflow1.2.1.trans shF.2.1.symm) (sflow1_D.trans rD.symm)
    rw [t1, rT, y0, cx, w0 cx, sub0, sub0, sub0]
    by_cases h1 : j = qo S k
    · rw [if_pos h1, h1, takeM_W, ← comes_eq hT.2.2.2.1 (by rw [i_0]; omega) hT.2.2.2.2.1 (by rw [i_0]; omega)]
      exact (comes0 hT.2.2.2.1 hT.2.2.2.2.1).symm
    · rw [if_neg h1]
      by_cases h2 : j = qf S k
      · rw [if_pos h2, h2, upd_self (r := qT S (qf S k)) (a := 4) rfl, upd_self (r := qT S (qf S k)) (a := 3) rfl]
      · rw [if_neg h2]
  · have c1 : ¬ qP (sflow1 k S) k 5 = 0 := by rw [q1k, p5]; exact cx
    have ew := w1 cx
    rw [if_neg c1]
    -- the tanks behind sflow2
    have t2 : ∀ j, qT (sflow2 k (qf S k) (qo S k) (sflow1 k S)) j = qT (flowL S k) j := fun j => by
      rw [rT]
      unfold sflow2
      simp only []
      have ew2 : qT (sflow1 k S) (qf S k) 4 * qP (sflow1 k S) k 5 / qT (sflow1 k S) (qf S k) 3 = w := by rw [q1k, p5, t1, ew]
      rw [ew2]
      simp only [qP_sT, q1k, p5, p6]
      by_cases h1 : j = qo S k
      · rw [if_pos h1, h1, qT_sT, qT_sTn _ _ (fun q => hne q.symm), qT_sTn _ _ (fun q => hne q.symm), t1, takeM_W]
        exact comes_eq hT.2.2.2.1 (by rw [hxy]; omega) hT.2.2.2.2.1 (by have := hF.2.2.2.2.1; omega)
      · rw [if_neg h1, qT_sTn _ _ h1]
        by_cases h2 : j = qf S k
        · rw [if_pos h2, h2, qT_sT, qT_sT, t1, pk_un (show 4 ≠ 3 by decide), upd_comm (show 3 ≠ 4 by decide)]
        · rw [if_neg h2, qT_sTn _ _ h2, qT_sTn _ _ h2, t1]
    have q2 : ∀ j, qP (sflow2 k (qf S k) (qo S k) (sflow1 k S)) j = qP (flowL S k) j := fun j => by
      rw [sflow2_P, q1, rP]
    have e2 : sflow2 k (qf S k) (qo S k) (sflow1 k S) = flowL S k := qls_ext t2 q2 ((shp_sflow1.trans shp_sflow2).1.trans shF.1.symm) ((shp_sflow1.trans shp_sflow2).2.1.trans shF.2.1.symm) ((sflow2_D.trans sflow1_D).trans rD.symm)
    rw [e2]
    unfold sflow3
    rw [rD]
    by_cases cd : qD S - qD S / 4 * 4 = 0
    · rw [if_pos cd, if_pos cd]
      show _ = crustL (flowL S k) k
      unfold crustL
      rw [fk, p5, p4]
      have x0 : ¬ x ≤ 0 := by
        intro q9
        have := i_le.mp q9
        rw [i_0] at this
        exact cx (i_eq (by rw [i_0]; omega))
      rw [if_neg x0]
      have h4 := hP.2.2.1
      have e1 : (qP S k 4 + 1).toInt = (qP S k 4).toInt + 1 := i_add (by rw [i_1]; omega) (by rw [i_1]; omega)
      by_cases c4 : 20 ≤ qP S k 4
      · have c4' := i_le.mp c4
        rw [i_20] at c4'
        have em : qmin 20 (qP S k 4 + 1) = flowP (qP S k) x (qmin (qP S k 9) x) 4 := by
          rw [p4]; exact i_eq (by rw [i_mn, e1, i_20]; omega)
        rw [if_pos c4, em, upd_self rfl, sP_self fk]
      · have c4' := i_nle c4
        rw [i_20] at c4'
        have em : qmin 20 (qP S k 4 + 1) = qP S k 4 + 1 := i_eq (by rw [i_mn, e1, i_20]; omega)
        rw [if_neg c4, em]
    · rw [if_neg cd, if_neg cd]
theorem sP_comm {S : QLs} {j k : Nat} {r r2 : Nat → Int32} (h : j ≠ k) : sP (sP S j r) k r2 = sP (sP S k r2) j r := by
  refine qls_ext (fun i => rfl) (fun i => ?_) rfl rfl rfl
  by_cases h1 : i = j
  · subst h1; rw [qP_sP, qP_sPn _ _ h, qP_sP]
  · rw [qP_sPn _ _ h1]
    by_cases h2 : i = k
    · subst h2; rw [qP_sP, qP_sP]
    · rw [qP_sPn _ _ h2, qP_sPn _ _ h2, qP_sPn _ _ h1]
theorem flow_sP {S : QLs} {j k : Nat} {r : Nat → Int32} (h : j ≠ k) : flowL (sP S j r) k = sP (flowL S k) j r := by
  have e0 : qP (sP S j r) k = qP S k := qP_sPn _ _ (fun q => h q.symm)
  have e1 : qf (sP S j r) k = qf S k := by unfold qf; rw [e0]
  have e2 : qo (sP S j r) k = qo S k := by unfold qo; rw [e0]
  have e3 : canF (sP S j r) k = canF S k := by unfold canF; rw [e0, e1, e2]; rfl
  have e4 : ∀ x, wander (sP S j r) (qf S k) (qo S k) x = sP (wander S (qf S k) (qo S k) x) j r := fun x => by
    unfold wander
    by_cases c : 0 < qT S (qf S k) 3
    · have c' : 0 < qT (sP S j r) (qf S k) 3 := c
      rw [if_pos c, if_pos c']; rfl
    · have c' : ¬ 0 < qT (sP S j r) (qf S k) 3 := c
      rw [if_neg c, if_neg c']
  unfold flowL
  simp only []
  rw [e0, e1, e2, e3, e4]
  generalize wander S (qf S k) (qo S k) (canF S k) = W
  have e5 : ∀ (A : QLs) (f : Nat) (q : Nat → Int32), sT (sP A j r) f q = sP (sT A f q) j r := fun _ _ _ => rfl
  have e6 : ∀ (A : QLs) (q : Nat → Int32), sP (sP A j r) k q = sP (sP A k q) j r := fun A q => sP_comm h
  have e7 : ∀ A : QLs, qT (sP A j r) = qT A := fun _ => rfl
  have e8 : ∀ A : QLs, qP (sP A j r) k = qP A k := fun A => qP_sPn _ _ (fun q => h q.symm)
  simp only [e5, e6, e7, e8]
theorem flow_crust {D : Nat} {S : QLs} (h : BD D S) {j k : Nat} (hk : k < qp S) (hjk : j ≠ k) : flowF k (crustF j S) = crustF j (flowF k S) := by
  show flowL (crustL S j) k = crustL (flowL S k) j
  obtain ⟨w, -, -, -, -, rP, -⟩ := flow_r h hk
  have ej : qP (flowL S k) j = qP S j := by rw [rP, if_neg hjk]
  unfold crustL
  rw [ej]
  split
  · rfl
  · exact flow_sP hjk
theorem flow_crusts {D : Nat} {S : QLs} (h : BD D S) {k : Nat} (hk : k < qp S) : ∀ m, m ≤ k → flowF k (itN crustF m S) = itN crustF m (flowF k S)
  | 0, _ => rfl
  | m + 1, hm => by
    have hb := h.crust m (by omega)
    have hs : qp (itN crustF m S) = qp S := (shp_it (f := crustF) (fun _ _ => shp_crust) S m).2.1
    show flowF k (crustF m (itN crustF m S)) = crustF m (itN crustF m (flowF k S))
    rw [flow_crust hb (by rw [hs]; exact hk) (by omega), flow_crusts h hk m (by omega)]
theorem sflows_eq {D : Nat} {S : QLs} (h : BD D S) : ∀ k, k ≤ qp S → itN sflowF k S = if qD S - qD S / 4 * 4 = 0 then itN crustF k (itN flowF k S) else itN flowF k S
  | 0, _ => by split <;> rfl
  | k + 1, hk => by
    have hb := h.flow k (by omega)
    have hs := shp_it (f := flowF) (fun _ _ => shp_flow) S k
    have hd : ∀ m, m ≤ qp S → qD (itN flowF m S) = qD S := fun m => by
      induction m with
      | zero => intro _; rfl
      | succ m ih =>
        intro hm
        obtain ⟨w, -, -, -, -, -, rD⟩ := flow_r (h.flow m (by omega)) (k := m) (by rw [(shp_it (f := flowF) (fun _ _ => shp_flow) S m).2.1]; omega)
        exact rD.trans (ih (by omega))
    have hdk := hd k (by omega)
    show sflowF k (itN sflowF k S) = _
    rw [sflows_eq h k (by omega)]
    by_cases c : qD S - qD S / 4 * 4 = 0
    · rw [if_pos c, if_pos c]
      have hc := hb.crust k (by rw [hs.2.1]; omega)
      have hcs := shp_it (f := crustF) (fun _ _ => shp_crust) (itN flowF k S) k
      have hcd : ∀ m, qD (itN crustF m (itN flowF k S)) = qD (itN flowF k S) := fun m => by
        induction m with
        | zero => rfl
        | succ m ih =>
          refine Eq.trans ?_ ih
          show qD (crustL _ m) = _
          unfold crustL; split <;> rfl
      rw [sflow_step hc (by rw [hcs.2.1, hs.2.1]; omega), hcd, hdk, if_pos c, flow_crusts hb (by rw [hs.2.1]; omega) k (Nat.le_refl _)]
      rfl
    · rw [if_neg c, if_neg c, sflow_step hb (by rw [hs.2.1]; omega), hdk, if_neg c]
      rfl
def sdrinkR (r : Nat → Int32) : Nat → Int32 :=
  let r1 := upd r 5 (if r 4 ≤ 49 then r 2 else r 2 / 2)
  let r2 := if r1 5 ≤ r1 3 then r1 else upd r1 5 (r1 3)
  let r3 := upd r2 3 (r2 3 - r2 5)
  upd r3 6 (r3 6 + r3 5)
theorem sdrink_row {A : QLs} {i : Nat} : sdrinkF i A = sT A i (sdrinkR (qT A i)) := by
  unfold sdrinkF sdrinkR
  simp only [qT_sT]
  generalize (if qT A i 4 ≤ 49 then qT A i 2 else qT A i 2 / 2) = v
  by_cases c : upd (qT A i) 5 v 5 ≤ upd (qT A i) 5 v 3
  · rw [if_pos c, if_pos c]; simp only [qT_sT, sT_sT]
  · rw [if_neg c, if_neg c]; simp only [qT_sT, sT_sT]
theorem sdrinkR_eq {D : Nat} {S : QLs} (h : BD D S) {i : Nat} (hi : i < qt S) : sdrinkR (qT S i) = drinkR (qT S i) := by
  have e := sdrink_eq h hi
  rw [sdrink_row] at e
  have e2 := congrArg (fun A => qT A i) e
  simp only [qT_sT] at e2
  exact e2
theorem spass_eq {D : Nat} {S : QLs} (h : BD D S) : spass (qt S) (qp S) S = dayL S := by
  have e1 : itN sfeedF (qt S) S = itN feedF (qt S) S := itN_eq _ (fun i hi => sfeed_eq (h.feed i (by omega)) (by rw [(shp_it (f := feedF) (fun _ _ => shp_sT) S i).1]; exact hi))
  have h1 := h.feed (qt S) (Nat.le_refl _)
  have s1 := shp_it (f := feedF) (fun _ _ => shp_sT) S (qt S)
  unfold spass dayL
  simp only []
  rw [e1, s1.2.1]
  generalize itN feedF (qt S) S = S1 at h1 s1
  have hd : ∀ m, m ≤ qp S1 → qD (itN flowF m S1) = qD S1 := fun m => by
    induction m with
    | zero => intro _; rfl
    | succ m ih =>
      intro hm
      obtain ⟨w, -, -, -, -, -, rD⟩ := flow_r (h1.flow m (by omega)) (k := m) (by rw [(shp_it (f := flowF) (fun _ _ => shp_flow) S1 m).2.1]; omega)
      exact rD.trans (ih (by omega))
  rw [sflows_eq h1 (qp S) (by rw [s1.2.1]; exact Nat.le_refl _)]
  have h2 := h1.flow (qp S) (by rw [s1.2.1]; exact Nat.le_refl _)
  have s2 := shp_it (f := flowF) (fun _ _ => shp_flow) S1 (qp S)
  rw [← hd (qp S) (by rw [s1.2.1]; exact Nat.le_refl _)]
  generalize itN flowF (qp S) S1 = S2 at h2 s2
  have h3 : BD D (if qD S2 - qD S2 / 4 * 4 = 0 then itN crustF (qp S) S2 else S2) ∧ qt (if qD S2 - qD S2 / 4 * 4 = 0 then itN crustF (qp S) S2 else S2) = qt S := by
    split
    · exact ⟨h2.crust (qp S) (by rw [s2.2.1, s1.2.1]; exact Nat.le_refl _), by rw [(shp_it (f := crustF) (fun _ _ => shp_crust) S2 (qp S)).1, s2.1, s1.1]⟩
    · exact ⟨h2, by rw [s2.1, s1.1]⟩
  have e3 : crustAll S2 = itN crustF (qp S) S2 := by unfold crustAll; rw [s2.2.1, s1.2.1]
  rw [e3]
  obtain ⟨h3, t3⟩ := h3
  generalize (if qD S2 - qD S2 / 4 * 4 = 0 then itN crustF (qp S) S2 else S2) = S3 at h3 t3
  rw [t3]
  have hdr : ∀ m, m ≤ qt S3 → (∀ j, m ≤ j → qT (itN drinkF m S3) j = qT S3 j) := fun m => by
    induction m with
    | zero => intro _ j _; rfl
    | succ m ih =>
      intro hm j hj
      show qT (sT (itN drinkF m S3) m _) j = _
      rw [qT_sTn _ _ (by omega)]
      exact ih (by omega) j (by omega)
  have e4 : itN sdrinkF (qt S) S3 = itN drinkF (qt S) S3 := itN_eq _ (fun i hi => by
    have hrow : qT (itN drinkF i S3) i = qT S3 i := hdr i (by omega) i (Nat.le_refl _)
    rw [sdrink_row, hrow, sdrinkR_eq h3 (by omega)]
    show _ = sT (itN drinkF i S3) i (drinkR (qT (itN drinkF i S3) i))
    rw [hrow])
  rw [e4]
