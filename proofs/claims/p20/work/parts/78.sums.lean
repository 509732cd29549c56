/-! PART 78: sums; what a day keeps of them -/
theorem qsum_up {F : Nat → Int32} {j : Nat} {v : Int32} : ∀ n, j < n → qsum (va_up F j v) n = qsum F n - F j + v
  | 0, h => by omega
  | n + 1, h => by
    show qsum (va_up F j v) n + va_up F j v n = qsum F n + F n - F j + v
    by_cases e : j = n
    · subst e
      rw [va_up_self, qsum_c (g := F) j (fun i hi => va_up_ne _ _ (by omega))]
      grind
    · rw [va_up_ne _ _ (fun q => e q.symm), qsum_up n (by omega)]
      grind
theorem qsum_add {f g : Nat → Int32} : ∀ n, qsum (fun i => f i + g i) n = qsum f n + qsum g n
  | 0 => by show (0 : Int32) = 0 + 0; decide
  | n + 1 => by
    show qsum (fun i => f i + g i) n + (f n + g n) = qsum f n + f n + (qsum g n + g n)
    rw [qsum_add n]; grind
theorem row_up {T : Nat → Nat → Int32} {j k : Nat} {r : Nat → Int32} : (fun i => va_up T j r i k) = va_up (fun i => T i k) j (r k) := by
  funext i
  by_cases e : i = j
  · subst e; rw [va_up_self, va_up_self]
  · rw [va_up_ne _ _ e, va_up_ne _ _ e]
theorem sumT_sT {S : QLs} {j : Nat} {r : Nat → Int32} (hj : j < qt S) (k : Nat) : sumT (sT S j r) k = sumT S k - qT S j k + r k := by
  show qsum (fun i => va_up (qT S) j r i k) (qt S) = _
  rw [row_up, qsum_up _ hj]; rfl
theorem sumP_sP {S : QLs} {j : Nat} {r : Nat → Int32} (hj : j < qp S) (k : Nat) : sumP (sP S j r) k = sumP S k - qP S j k + r k := by
  show qsum (fun i => va_up (qP S) j r i k) (qp S) = _
  rw [row_up, qsum_up _ hj]; rfl
/-- the sums behind a flow -/
theorem flow_sumT {D : Nat} {S : QLs} (h : BD D S) {k : Nat} (hk : k < qp S) {rf ro : Nat → Int32} (hrf : qT (flowL S k) (qf S k) = rf) (hro : qT (flowL S k) (qo S k) = ro) (hoth : ∀ j, j ≠ qf S k → j ≠ qo S k → qT (flowL S k) j = qT S j) (a : Nat) : sumT (flowL S k) a = sumT S a - qT S (qf S k) a + rf a - qT S (qo S k) a + ro a := by
  obtain ⟨hf, ho, hne, -, -⟩ := h.ok.2.2 k hk
  have e1 : qt (flowL S k) = qt S := shp_flow.1
  unfold sumT
  rw [e1, qsum_c (g := va_up (va_up (fun i => qT S i a) (qf S k) (rf a)) (qo S k) (ro a)) _ (fun i hi => ?_), qsum_up _ ho, qsum_up _ hf, va_up_ne _ _ (fun q => hne q.symm)]
  by_cases h1 : i = qo S k
  · subst h1; rw [va_up_self, hro]
  · rw [va_up_ne _ _ h1]
    by_cases h2 : i = qf S k
    · subst h2; rw [va_up_self, hrf]
    · rw [va_up_ne _ _ h2, hoth i h2 h1]
def EE (S : QLs) : Int32 := sumT S 3 + sumT S 7 + sumT S 6 + sumP S 7
theorem takeW_3 {r : Nat → Int32} {x : Int32} : takeW r x 3 + takeW r x 7 = r 3 + r 7 + x ∧ takeW r x 6 = r 6 ∧ takeW r x 1 = r 1 ∧ takeW r x 2 = r 2 ∧ takeW r x 0 = r 0 ∧ takeW r x 5 = r 5 := by
  unfold takeW
  rw [pk_us, pk_un (show 3 ≠ 7 by decide), pk_us, pk_un (show 7 ≠ 3 by decide), pk_un (show 6 ≠ 7 by decide), pk_un (show 6 ≠ 3 by decide), pk_un (show 1 ≠ 7 by decide), pk_un (show 1 ≠ 3 by decide), pk_un (show 2 ≠ 7 by decide), pk_un (show 2 ≠ 3 by decide), pk_un (show 0 ≠ 7 by decide), pk_un (show 0 ≠ 3 by decide), pk_un (show 5 ≠ 7 by decide), pk_un (show 5 ≠ 3 by decide)]
  refine ⟨?_, rfl, rfl, rfl, rfl, rfl⟩
  grind
theorem takeM_o {r : Nat → Int32} {y : Int32} {a : Nat} (ha : a ≠ 4) : takeM r y a = r a := by unfold takeM; rw [pk_un ha]
theorem feedR_1 {r : Nat → Int32} : feedR r = takeM (takeW r (r 1)) (r 1 / 4) := by
  unfold feedR
  rw [takeW_3.2.2.1]
theorem EE_feed {S : QLs} {i : Nat} (hi : i < qt S) : EE (feedF i S) = EE S + qT S i 1 := by
  have e := (takeW_3 (r := qT S i) (x := qT S i 1)).1
  have e6 := (takeW_3 (r := qT S i) (x := qT S i 1)).2.1
  show sumT (sT S i _) 3 + sumT (sT S i _) 7 + sumT (sT S i _) 6 + sumP S 7 = _
  rw [sumT_sT hi, sumT_sT hi, sumT_sT hi, feedR_1, takeM_o (show 3 ≠ 4 by decide), takeM_o (show 7 ≠ 4 by decide), takeM_o (show 6 ≠ 4 by decide), e6]
  unfold EE
  grind
theorem flowP_r {p : Nat → Int32} {x y : Int32} : flowP p x y 5 = x ∧ flowP p x y 6 = y ∧ flowP p x y 7 = p 7 + y ∧ ∀ a, a ≠ 5 → a ≠ 6 → a ≠ 7 → flowP p x y a = p a := by
  unfold flowP
  refine ⟨?_, ?_, ?_, fun a h1 h2 h3 => ?_⟩
  · rw [pk_un (by decide), pk_un (by decide), pk_us]
  · rw [pk_un (by decide), pk_us]
  · rw [pk_us]
  · rw [pk_un h3, pk_un h2, pk_un h1]
theorem flow_sumP {D : Nat} {S : QLs} (h : BD D S) {k : Nat} (hk : k < qp S) (a : Nat) : sumP (flowL S k) a = sumP S a - qP S k a + qP (flowL S k) k a := by
  obtain ⟨w, -, -, -, -, rP, -⟩ := flow_r h hk
  have e1 : qp (flowL S k) = qp S := shp_flow.2.1
  unfold sumP
  rw [e1, qsum_c (g := va_up (fun i => qP S i a) k (qP (flowL S k) k a)) _ (fun i hi => ?_), qsum_up _ hk]
  by_cases h1 : i = k
  · subst h1; rw [va_up_self]
  · rw [va_up_ne _ _ h1, rP, if_neg h1]
/-- the rows of the two tanks behind a flow -/
theorem flow_rows {D : Nat} {S : QLs} (h : BD D S) {k : Nat} (hk : k < qp S) : ∃ w : Int32, (0 ≤ w.toInt ∧ w.toInt ≤ (qT S (qf S k) 4).toInt) ∧ qT (flowL S k) (qf S k) = upd (upd (qT S (qf S k)) 4 (qT S (qf S k) 4 - w)) 3 (qT S (qf S k) 3 - canF S k) ∧ qT (flowL S k) (qo S k) = takeW (takeM (qT S (qo S k)) w) (canF S k - qmin (qP S k 9) (canF S k)) ∧ (∀ j, j ≠ qf S k → j ≠ qo S k → qT (flowL S k) j = qT S j) ∧ (∀ j, qP (flowL S k) j = if j = k then flowP (qP S k) (canF S k) (qmin (qP S k 9) (canF S k)) else qP S j) := by
  obtain ⟨hf, ho, hne, -, -⟩ := h.ok.2.2 k hk
  obtain ⟨w, hw, -, -, rT, rP, -⟩ := flow_r h hk
  exact ⟨w, hw, by rw [rT, if_neg hne, if_pos rfl], by rw [rT, if_pos rfl], fun j h1 h2 => by rw [rT, if_neg h2, if_neg h1], rP⟩
theorem EE_flow {D : Nat} {S : QLs} (h : BD D S) {k : Nat} (hk : k < qp S) : EE (flowF k S) = EE S := by
  obtain ⟨w, -, r1, r2, r3, rP⟩ := flow_rows h hk
  show EE (flowL S k) = _
  unfold EE
  have e3 := (takeW_3 (r := takeM (qT S (qo S k)) w) (x := canF S k - qmin (qP S k 9) (canF S k))).1
  rw [takeM_o (show 3 ≠ 4 by decide), takeM_o (show 7 ≠ 4 by decide)] at e3
  rw [flow_sumT h hk r1 r2 r3, flow_sumT h hk r1 r2 r3, flow_sumT h hk r1 r2 r3, flow_sumP h hk, rP, if_pos rfl, flowP_r.2.2.1, pk_us, pk_un (show 7 ≠ 3 by decide), pk_un (show 7 ≠ 4 by decide), pk_un (show 6 ≠ 3 by decide), pk_un (show 6 ≠ 4 by decide), takeW_3.2.1, takeM_o (show 6 ≠ 4 by decide)]
  grind
theorem EE_crust {S : QLs} {k : Nat} (hk : k < qp S) : EE (crustF k S) = EE S := by
  show EE (crustL S k) = _
  unfold crustL
  split
  · rfl
  · show sumT S 3 + sumT S 7 + sumT S 6 + sumP (sP S k _) 7 = _
    rw [sumP_sP hk, pk_un (show 7 ≠ 4 by decide)]
    unfold EE
    grind
theorem drinkR_r {r : Nat → Int32} : ∃ v, v = qmin (if r 4 < 50 then r 2 else r 2 / 2) (r 3) ∧ drinkR r = upd (upd (upd r 3 (r 3 - v)) 5 v) 6 (r 6 + v) := by
  refine ⟨_, rfl, ?_⟩
  unfold drinkR
  simp only []
  rw [pk_un (show 6 ≠ 5 by decide), pk_un (show 6 ≠ 3 by decide)]
theorem drinkR_v {r : Nat → Int32} : drinkR r 3 = r 3 - drinkR r 5 ∧ drinkR r 6 = r 6 + drinkR r 5 ∧ drinkR r 5 = qmin (if r 4 < 50 then r 2 else r 2 / 2) (r 3) ∧ ∀ a, a ≠ 3 → a ≠ 5 → a ≠ 6 → drinkR r a = r a := by
  obtain ⟨v, ev, e⟩ := drinkR_r (r := r)
  rw [e, ← ev]
  have h5 : upd (upd (upd r 3 (r 3 - v)) 5 v) 6 (r 6 + v) 5 = v := by rw [pk_un (by decide), pk_us]
  refine ⟨?_, ?_, h5, fun a h1 h2 h3 => ?_⟩
  · rw [h5, pk_un (show 3 ≠ 6 by decide), pk_un (show 3 ≠ 5 by decide), pk_us]
  · rw [h5, pk_us]
  · rw [pk_un h3, pk_un h2, pk_un h1]
theorem EE_drink {S : QLs} {i : Nat} (hi : i < qt S) : EE (drinkF i S) = EE S := by
  show sumT (sT S i _) 3 + sumT (sT S i _) 7 + sumT (sT S i _) 6 + sumP S 7 = _
  rw [sumT_sT hi, sumT_sT hi, sumT_sT hi, drinkR_v.1, drinkR_v.2.1, drinkR_v.2.2.2 7 (by decide) (by decide) (by decide)]
  unfold EE
  grind
/-! whole sums -/
def isum (f : Nat → Int) : Nat → Int
  | 0 => 0
  | n + 1 => isum f n + f n
theorem isum_c {f g : Nat → Int} : ∀ n, (∀ i, i < n → f i = g i) → isum f n = isum g n
  | 0, _ => rfl
  | n + 1, h => by
    show isum f n + f n = isum g n + g n
    rw [isum_c n (fun i hi => h i (by omega)), h n (by omega)]
theorem isum_le {f g : Nat → Int} : ∀ n, (∀ i, i < n → f i ≤ g i) → isum f n ≤ isum g n
  | 0, _ => Int.le_refl _
  | n + 1, h => by
    have h1 := isum_le n (fun i hi => h i (by omega))
    have h2 := h n (by omega)
    show isum f n + f n ≤ isum g n + g n
    omega
theorem isum_up {F : Nat → Int} {j : Nat} {v : Int} : ∀ n, j < n → isum (va_up F j v) n = isum F n - F j + v
  | 0, h => by omega
  | n + 1, h => by
    show isum (va_up F j v) n + va_up F j v n = isum F n + F n - F j + v
    by_cases e : j = n
    · subst e
      rw [va_up_self, isum_c (g := F) j (fun i hi => va_up_ne _ _ (by omega))]
      omega
    · rw [va_up_ne _ _ (fun q => e q.symm), isum_up n (by omega)]
      omega
theorem isum_add {f g : Nat → Int} : ∀ n, isum (fun i => f i + g i) n = isum f n + isum g n
  | 0 => by show (0 : Int) = 0 + 0; decide
  | n + 1 => by
    show isum (fun i => f i + g i) n + (f n + g n) = isum f n + f n + (isum g n + g n)
    rw [isum_add n]; omega
theorem isum_b {f : Nat → Int} {B : Int} : ∀ n, (∀ i, i < n → 0 ≤ f i ∧ f i ≤ B) → 0 ≤ isum f n ∧ isum f n ≤ B * n
  | 0, _ => ⟨Int.le_refl _, by simp [isum]⟩
  | n + 1, h => by
    have h1 := isum_b n (fun i hi => h i (by omega))
    have h2 := h n (by omega)
    have e : B * ((n + 1 : Nat) : Int) = B * (n : Int) + B := by rw [Int.natCast_add]; simp [Int.mul_add]
    show 0 ≤ isum f n + f n ∧ isum f n + f n ≤ _
    rw [e]; omega
theorem qsum_i {f : Nat → Int32} {B : Int} (hB : 0 ≤ B ∧ B ≤ 1000000) : ∀ n, n ≤ 20 → (∀ i, i < n → 0 ≤ (f i).toInt ∧ (f i).toInt ≤ B) → (qsum f n).toInt = isum (fun i => (f i).toInt) n
  | 0, _, _ => rfl
  | n + 1, hn, h => by
    have h1 := qsum_i hB n (by omega) (fun i hi => h i (by omega))
    have h2 := h n (by omega)
    have h3 := isum_b (f := fun i => (f i).toInt) (B := B) n (fun i hi => h i (by omega))
    have h4 : B * (n : Int) ≤ 1000000 * 20 := Int.le_trans (Int.mul_le_mul_of_nonneg_right hB.2 (by omega)) (by omega)
    show (qsum f n + f n).toInt = isum _ n + (f n).toInt
    rw [i_add, h1] <;> rw [h1] <;> omega
