/-! PART 43: what flows -/
theorem i_10 : (10 : Int32).toInt = 10 := by decide
theorem i_1 : (1 : Int32).toInt = 1 := by decide
theorem i_20 : (20 : Int32).toInt = 20 := by decide
theorem head_val {D : Nat} {r : Nat → Int32} (h : TI D r) : (headR r).toInt = 10 * (r 0).toInt + (r 3).toInt := by
  obtain ⟨t0, -, -, t3, -, -⟩ := h
  unfold headR
  have e1 : (10 * r 0).toInt = 10 * (r 0).toInt := by rw [i_mul, i_10] <;> rw [i_10] <;> omega
  rw [i_add, e1] <;> rw [e1] <;> omega
theorem RR.head {D : Nat} {S : QLs} {M : QMs} (h : RR D S M) {i : Nat} (hi : i < qt S) : mhead M i = headR (qT S i) := by
  unfold mhead headR
  rw [h.at_ hi (by decide), h.at_ hi (by decide)]
/-- what can flow, both ways; its bounds -/
theorem can_val {D : Nat} {S : QLs} {M : QMs} (h : RR D S M) {k : Nat} (hk : k < qp S) : mflows M k = canF S k ∧ 0 ≤ (canF S k).toInt ∧ (canF S k).toInt ≤ 20 ∧ (canF S k).toInt ≤ (qT S (qf S k) 3).toInt := by
  obtain ⟨hf, ht, -, -, -⟩ := h.1.2.2 k hk
  have hF := h.2.2.2.2.2.2.1 _ hf
  have hT := h.2.2.2.2.2.2.1 _ ht
  have hP := h.2.2.2.2.2.2.2 k hk
  have hw := hF.2.2.2.1
  have d1 : (headR (qT S (qf S k)) - headR (qT S (qo S k))).toInt = (headR (qT S (qf S k))).toInt - (headR (qT S (qo S k))).toInt := by
    have a0 := hF.1; have b0 := hT.1; have b3 := hT.2.2.2.1
    apply i_sub <;> rw [head_val hF, head_val hT] <;> omega
  rw [head_val hF, head_val hT] at d1
  have em : mflows M k = (if headR (qT S (qf S k)) - headR (qT S (qo S k)) ≤ 0 then 0 else if qP S k 3 ≤ headR (qT S (qf S k)) - headR (qT S (qo S k)) then qmin (qT S (qf S k) 3) (qmin ((headR (qT S (qf S k)) - headR (qT S (qo S k))) / 10 + 1) (qmax 0 (qP S k 2 - qP S k 4))) else 0) := by
    unfold mflows
    simp only []
    rw [(h.f0 hk).1, (h.f0 hk).2, h.head hf, h.head ht, h.bt_ hk (show 3 < 8 by decide), h.bt_ hk (show 2 < 8 by decide), h.bt_ hk (show 4 < 8 by decide), h.at_ hf (show 3 < 8 by decide)]
  have ec : canF S k = (if headR (qT S (qf S k)) - headR (qT S (qo S k)) ≤ 0 then 0 else if qP S k 3 ≤ headR (qT S (qf S k)) - headR (qT S (qo S k)) then qmin (qmin (qmax 0 (qP S k 2 - qP S k 4)) ((headR (qT S (qf S k)) - headR (qT S (qo S k))) / 10 + 1)) (qT S (qf S k) 3) else 0) := rfl
  rw [em, ec]
  generalize headR (qT S (qf S k)) - headR (qT S (qo S k)) = d at d1
  by_cases c1 : d ≤ 0
  · rw [if_pos c1, if_pos c1, i_0]; exact ⟨rfl, by omega, by omega, by omega⟩
  · rw [if_neg c1, if_neg c1]
    by_cases c2 : qP S k 3 ≤ d
    · rw [if_pos c2, if_pos c2]
      have c3 : 0 < d.toInt := by
        have := Int32.lt_iff_toInt_lt.mp (Int32.not_le.mp c1)
        rw [i_0] at this; exact this
      have a0 := hF.1; have b0 := hT.1; have b3 := hT.2.2.2.1
      have e5 : (d / 10).toInt = d.toInt / 10 := by rw [i_div (by omega) (by decide), i_10]
      have e6 : (d / 10 + 1).toInt = d.toInt / 10 + 1 := by rw [i_add, e5, i_1] <;> rw [e5, i_1] <;> omega
      have p2 := hP.1; have p4 := hP.2.2.1
      have e7 : (qP S k 2 - qP S k 4).toInt = (qP S k 2).toInt - (qP S k 4).toInt := i_sub (by omega) (by omega)
      have e8 := i_max 0 (qP S k 2 - qP S k 4)
      rw [e7, i_0] at e8
      have e9 := i_min (qmax 0 (qP S k 2 - qP S k 4)) (d / 10 + 1)
      have e10 := i_min (d / 10 + 1) (qmax 0 (qP S k 2 - qP S k 4))
      have e11 := i_min (qmin (qmax 0 (qP S k 2 - qP S k 4)) (d / 10 + 1)) (qT S (qf S k) 3)
      have e12 := i_min (qT S (qf S k) 3) (qmin (d / 10 + 1) (qmax 0 (qP S k 2 - qP S k 4)))
      rw [e6] at e9 e10
      rw [e9] at e11
      rw [e10] at e12
      have hm : 0 ≤ (qmax 0 (qP S k 2 - qP S k 4)).toInt ∧ (qmax 0 (qP S k 2 - qP S k 4)).toInt ≤ 20 := by rw [e8]; constructor <;> split <;> omega
      generalize (qmax 0 (qP S k 2 - qP S k 4)).toInt = a at e11 e12 hm
      refine ⟨i_eq ?_, ?_, ?_, ?_⟩
      · rw [e11, e12]; split <;> split <;> split <;> split <;> omega
      · rw [e11]; split <;> split <;> omega
      · rw [e11]; split <;> split <;> omega
      · rw [e11]; split <;> split <;> omega
    · rw [if_neg c2, if_neg c2, i_0]; exact ⟨rfl, by omega, by omega, by omega⟩
theorem i_mudv {m x w : Int32} (hm : 0 ≤ m.toInt ∧ m.toInt ≤ 99) (hx : 0 ≤ x.toInt ∧ x.toInt ≤ 20 ∧ x.toInt ≤ w.toInt) (hw : 0 < w.toInt) : 0 ≤ (m * x / w).toInt ∧ (m * x / w).toInt ≤ m.toInt := by
  have a1 : 0 ≤ m.toInt * x.toInt := Int.mul_nonneg hm.1 hx.1
  have a2 : m.toInt * x.toInt ≤ 99 * 20 := Int.le_trans (Int.mul_le_mul_of_nonneg_right hm.2 hx.1) (Int.mul_le_mul_of_nonneg_left hx.2.1 (by decide))
  have e1 : (m * x).toInt = m.toInt * x.toInt := i_mul (by omega) (by omega)
  rw [i_div (by rw [e1]; exact a1) hw, e1]
  refine ⟨Int.ediv_nonneg a1 (by omega), ?_⟩
  exact Int.ediv_le_of_le_mul hw (Int.mul_le_mul_of_nonneg_left hx.2.2 hm.1)
theorem qmin_comm (a b : Int32) : qmin a b = qmin b a := i_eq (by rw [i_min, i_min]; split <;> split <;> omega)
theorem pour0 {r : Nat → Int32} (hw : 0 ≤ (r 3).toInt ∧ (r 3).toInt ≤ 200) (hm : 0 ≤ (r 4).toInt ∧ (r 4).toInt ≤ 99) : pourR r 0 0 = r := by
  have e0 : ∀ y : Int32, y + 0 = y := fun y => by simp
  unfold pourR
  have e1 : (r 3 + 0 - 200).toInt = (r 3).toInt - 200 := by rw [e0]; rw [i_sub, i_200] <;> rw [i_200] <;> omega
  have e2 : qmax 0 (r 3 + 0 - 200) = 0 := i_eq (by rw [i_max, e1, i_0]; split <;> omega)
  have e3 : qmin 200 (r 3 + 0) = r 3 := i_eq (by rw [i_min, e0, i_200]; split <;> omega)
  have e4 : qmin 99 (r 4 + 0) = r 4 := i_eq (by rw [i_min, e0, i_99]; split <;> omega)
  rw [e2, e3, e4, e0]
  funext j
  by_cases h4 : j = 4
  · subst h4; rw [pk_us]
  · rw [pk_un h4]
    by_cases h3 : j = 3
    · subst h3; rw [pk_us]
    · rw [pk_un h3]
      by_cases h7 : j = 7
      · subst h7; rw [pk_us]
      · rw [pk_un h7]
/-- a pipe's row behind its flow -/
def flowP (p : Nat → Int32) (x y : Int32) : Nat → Int32 := upd (upd (upd p 5 x) 6 y) 7 (p 7 + y)
theorem flow_P {S : QLs} {k : Nat} : ∃ S3, flowL S k = sP (sP (sP S3 k (upd (qP S3 k) 5 (canF S k))) k (upd (upd (qP S3 k) 5 (canF S k)) 6 (qmin (qP S k 9) (canF S k)))) k (upd (upd (upd (qP S3 k) 5 (canF S k)) 6 (qmin (qP S k 9) (canF S k))) 7 (upd (upd (qP S3 k) 5 (canF S k)) 6 (qmin (qP S k 9) (canF S k)) 7 + qmin (qP S k 9) (canF S k)))
    ∧ S3 = sT (sT (wander S (qf S k) (qo S k) (canF S k)) (qf S k) (upd (qT (wander S (qf S k) (qo S k) (canF S k)) (qf S k)) 3 (qT (wander S (qf S k) (qo S k) (canF S k)) (qf S k) 3 - canF S k))) (qo S k) (takeW (qT (sT (wander S (qf S k) (qo S k) (canF S k)) (qf S k) (upd (qT (wander S (qf S k) (qo S k) (canF S k)) (qf S k)) 3 (qT (wander S (qf S k) (qo S k) (canF S k)) (qf S k) 3 - canF S k))) (qo S k)) (canF S k - qmin (qP S k 9) (canF S k))) := by
  refine ⟨_, ?_, rfl⟩
  unfold flowL
  simp only [qP_sP]
