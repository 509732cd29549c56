/-! PART 41: numbers, rows of the two states -/
theorem i_add {a b : Int32} (h : -2147483648 ≤ a.toInt + b.toInt) (h2 : a.toInt + b.toInt < 2147483648) : (a + b).toInt = a.toInt + b.toInt := by
  rw [Int32.toInt_add]; apply Int.bmod_eq_of_le <;> omega
theorem i_sub {a b : Int32} (h : -2147483648 ≤ a.toInt - b.toInt) (h2 : a.toInt - b.toInt < 2147483648) : (a - b).toInt = a.toInt - b.toInt := by
  rw [Int32.toInt_sub]; apply Int.bmod_eq_of_le <;> omega
theorem i_mul {a b : Int32} (h : -2147483648 ≤ a.toInt * b.toInt) (h2 : a.toInt * b.toInt < 2147483648) : (a * b).toInt = a.toInt * b.toInt := by
  rw [Int32.toInt_mul]; apply Int.bmod_eq_of_le <;> omega
theorem i_min (a b : Int32) : (qmin a b).toInt = if b.toInt < a.toInt then b.toInt else a.toInt := by
  by_cases h : b < a
  · rw [show qmin a b = b from if_pos h, if_pos (Int32.lt_iff_toInt_lt.mp h)]
  · rw [show qmin a b = a from if_neg h, if_neg (fun q => h (Int32.lt_iff_toInt_lt.mpr q))]
theorem i_max (a b : Int32) : (qmax a b).toInt = if a.toInt < b.toInt then b.toInt else a.toInt := by
  by_cases h : a < b
  · rw [show qmax a b = b from if_pos h, if_pos (Int32.lt_iff_toInt_lt.mp h)]
  · rw [show qmax a b = a from if_neg h, if_neg (fun q => h (Int32.lt_iff_toInt_lt.mpr q))]
theorem i_eq {a b : Int32} (h : a.toInt = b.toInt) : a = b := Int32.toInt_inj.mp h
theorem i_div {a b : Int32} (ha : 0 ≤ a.toInt) (hb : 0 < b.toInt) : (a / b).toInt = a.toInt / b.toInt := by
  rw [Int32.toInt_div_of_ne_right _ _ (fun q => by rw [q] at hb; revert hb; decide)]
  exact Int.tdiv_eq_ediv_of_nonneg ha
theorem i_0 : (0 : Int32).toInt = 0 := by decide
theorem i_200 : (200 : Int32).toInt = 200 := by decide
theorem i_99 : (99 : Int32).toInt = 99 := by decide
/-- a row of the reference's land, of its lines -/
abbrev rowA (M : QMs) (i : Nat) : Nat → Int32 := fun k => mA M (8 * i + k)
abbrev rowB (M : QMs) (i : Nat) : Nat → Int32 := fun k => mB M (9 * i + k)
def RE (r q : Nat → Int32) : Prop := ∀ k, k < 8 → r k = q k
def PE (p q : Nat → Int32) : Prop := (∀ k, k < 8 → p k = q k) ∧ p 8 = q 9
theorem RE.rf {r : Nat → Int32} : RE r r := fun _ _ => rfl
theorem RE.tr {r q s : Nat → Int32} (h : RE r q) (h2 : RE q s) : RE r s := fun k hk => (h k hk).trans (h2 k hk)
theorem RE.up {r q : Nat → Int32} (h : RE r q) (k : Nat) (x : Int32) : RE (upd r k x) (upd q k x) := fun j hj => by
  by_cases e : j = k
  · subst e; rw [pk_us, pk_us]
  · rw [pk_un e, pk_un e]; exact h j hj
theorem PE.up {p q : Nat → Int32} (h : PE p q) {k : Nat} (hk : k < 8) (x : Int32) : PE (upd p k x) (upd q k x) := by
  refine ⟨fun j hj => ?_, ?_⟩
  · by_cases e : j = k
    · subst e; rw [pk_us, pk_us]
    · rw [pk_un e, pk_un e]; exact h.1 j hj
  · rw [pk_un (by omega), pk_un (by omega)]; exact h.2
theorem setT_row {M : QMs} {i k : Nat} {x : Int32} (hk : k < 8) : RE (rowA (mSetT M i k x) i) (upd (rowA M i) k x) := fun l hl => by
  show upd (mA M) (8 * i + k) x (8 * i + l) = _
  by_cases e : l = k
  · subst e; rw [pk_us, pk_us]
  · rw [pk_un (by omega), pk_un e]
theorem setT_ne {M : QMs} {i j k : Nat} {x : Int32} (hk : k < 8) (hj : j ≠ i) : RE (rowA (mSetT M i k x) j) (rowA M j) := fun l hl => by
  show upd (mA M) (8 * i + k) x (8 * j + l) = _
  rw [pk_un (by omega)]
theorem setP_row {M : QMs} {i k : Nat} {x : Int32} {q : Nat → Int32} (hk : k < 8) (h : PE (rowB M i) q) : PE (rowB (mSetP M i k x) i) (upd q k x) := by
  refine ⟨fun l hl => ?_, ?_⟩
  · show upd (mB M) (9 * i + k) x (9 * i + l) = _
    by_cases e : l = k
    · subst e; rw [pk_us, pk_us]
    · rw [pk_un (by omega), pk_un e]; exact h.1 l hl
  · show upd (mB M) (9 * i + k) x (9 * i + 8) = _
    rw [pk_un (by omega), pk_un (by omega)]; exact h.2
theorem setP_ne {M : QMs} {i j k : Nat} {x : Int32} {q : Nat → Int32} (hk : k < 9) (hj : j ≠ i) (h : PE (rowB M j) q) : PE (rowB (mSetP M i k x) j) q := by
  refine ⟨fun l hl => ?_, ?_⟩
  · show upd (mB M) (9 * i + k) x (9 * j + l) = _
    rw [pk_un (by omega)]; exact h.1 l hl
  · show upd (mB M) (9 * i + k) x (9 * j + 8) = _
    rw [pk_un (by omega)]; exact h.2
theorem setP_tap {M : QMs} {i : Nat} {x : Int32} {q : Nat → Int32} (h : PE (rowB M i) q) : PE (rowB (mSetP M i 8 x) i) (upd q 9 x) := by
  refine ⟨fun l hl => ?_, ?_⟩
  · show upd (mB M) (9 * i + 8) x (9 * i + l) = _
    rw [pk_un (by omega), pk_un (by omega)]; exact h.1 l hl
  · show upd (mB M) (9 * i + 8) x (9 * i + 8) = _
    rw [pk_us, pk_us]
/-- what comes into a tank -/
def pourR (r : Nat → Int32) (x y : Int32) : Nat → Int32 := upd (upd (upd r 7 (r 7 + qmax 0 (r 3 + x - 200))) 3 (qmin 200 (r 3 + x))) 4 (qmin 99 (r 4 + y))
theorem pourR_c {r q : Nat → Int32} (h : RE r q) (x y : Int32) : RE (pourR r x y) (pourR q x y) := by
  unfold pourR
  rw [h 7 (by decide), h 3 (by decide), h 4 (by decide)]
  exact ((h.up _ _).up _ _).up _ _
theorem pour_row {M : QMs} {i : Nat} {x y : Int32} : RE (rowA (mPour M i x y) i) (pourR (rowA M i) x y) := by
  unfold mPour pourR
  simp only []
  have h1 := setT_row (M := M) (i := i) (x := mA M (8 * i + 7) + qmax 0 (mA M (8 * i + 3) + x - 200)) (show 7 < 8 by decide)
  have h2 := (setT_row (M := mSetT M i 7 (mA M (8 * i + 7) + qmax 0 (mA M (8 * i + 3) + x - 200))) (i := i) (x := qmin 200 (mA M (8 * i + 3) + x)) (show 3 < 8 by decide)).tr (h1.up 3 _)
  refine (setT_row (by decide)).tr ?_
  have e4 : mA (mSetT (mSetT M i 7 (mA M (8 * i + 7) + qmax 0 (mA M (8 * i + 3) + x - 200))) i 3 (qmin 200 (mA M (8 * i + 3) + x))) (8 * i + 4) = mA M (8 * i + 4) := (h2 4 (by decide)).trans (by rw [pk_un (by decide), pk_un (by decide)])
  rw [e4]
  exact h2.up 4 _
theorem pour_ne {M : QMs} {i j : Nat} {x y : Int32} (hj : j ≠ i) : RE (rowA (mPour M i x y) j) (rowA M j) := by
  unfold mPour
  simp only []
  exact (setT_ne (by decide) hj).tr ((setT_ne (by decide) hj).tr (setT_ne (by decide) hj))
/-- the bounds of a tank's row: D days gone -/
def TI (D : Nat) (r : Nat → Int32) : Prop := (0 ≤ (r 0).toInt ∧ (r 0).toInt ≤ 99) ∧ (0 ≤ (r 1).toInt ∧ (r 1).toInt ≤ 20) ∧ (0 ≤ (r 2).toInt ∧ (r 2).toInt ≤ 20) ∧ (0 ≤ (r 3).toInt ∧ (r 3).toInt ≤ 200) ∧ (0 ≤ (r 4).toInt ∧ (r 4).toInt ≤ 99) ∧ (0 ≤ (r 6).toInt ∧ (r 6).toInt ≤ 20 * D)
def PI (p : Nat → Int32) : Prop := (1 ≤ (p 2).toInt ∧ (p 2).toInt ≤ 20) ∧ (0 ≤ (p 3).toInt ∧ (p 3).toInt ≤ 60) ∧ (0 ≤ (p 4).toInt ∧ (p 4).toInt ≤ 20) ∧ (0 ≤ (p 9).toInt ∧ (p 9).toInt ≤ 9)
theorem TI.mono {D E : Nat} {r : Nat → Int32} (h : TI D r) (hD : D ≤ E) : TI E r := by
  obtain ⟨h0, h1, h2, h3, h4, h6⟩ := h
  exact ⟨h0, h1, h2, h3, h4, h6.1, by omega⟩
/-- water that comes: in both ways of reckoning -/
theorem w_val {w x : Int32} (hw : 0 ≤ w.toInt ∧ w.toInt ≤ 200) (hx : 0 ≤ x.toInt ∧ x.toInt ≤ 200) : w + x - qmax 0 (w + x - 200) = qmin 200 (w + x) ∧ 0 ≤ (qmin 200 (w + x)).toInt ∧ (qmin 200 (w + x)).toInt ≤ 200 := by
  have e1 : (w + x).toInt = w.toInt + x.toInt := i_add (by omega) (by omega)
  have e2 : (w + x - 200).toInt = w.toInt + x.toInt - 200 := by rw [i_sub, e1, i_200] <;> rw [e1, i_200] <;> omega
  have e3 := i_max 0 (w + x - 200)
  rw [e2, i_0] at e3
  have e4 := i_min 200 (w + x)
  rw [e1, i_200] at e4
  have e5 : (w + x - qmax 0 (w + x - 200)).toInt = (w + x).toInt - (qmax 0 (w + x - 200)).toInt := by
    apply i_sub <;> rw [e1, e3] <;> split <;> omega
  refine ⟨i_eq ?_, ?_, ?_⟩
  · rw [e5, e1, e3, e4]; split <;> split <;> omega
  · rw [e4]; split <;> omega
  · rw [e4]; split <;> omega
theorem m_val {w x : Int32} (hw : 0 ≤ w.toInt ∧ w.toInt ≤ 99) (hx : 0 ≤ x.toInt ∧ x.toInt ≤ 200) : 0 ≤ (qmin 99 (w + x)).toInt ∧ (qmin 99 (w + x)).toInt ≤ 99 := by
  have e1 : (w + x).toInt = w.toInt + x.toInt := i_add (by omega) (by omega)
  have e4 := i_min 99 (w + x)
  rw [e1, i_99] at e4
  rw [e4]; constructor <;> split <;> omega
theorem take_pour {r : Nat → Int32} {x y : Int32} (hw : 0 ≤ (r 3).toInt ∧ (r 3).toInt ≤ 200) (hx : 0 ≤ x.toInt ∧ x.toInt ≤ 200) : takeM (takeW r x) y = pourR r x y := by
  unfold takeM takeW pourR
  rw [(w_val hw hx).1, pk_un (show 7 ≠ 3 by decide), pk_un (show 4 ≠ 7 by decide), pk_un (show 4 ≠ 3 by decide)]
  congr 1
  funext j
  by_cases e7 : j = 7
  · subst e7; rw [pk_us, pk_un (by decide), pk_us]
  · by_cases e3 : j = 3
    · subst e3; rw [pk_un (by decide), pk_us, pk_us]
    · rw [pk_un e7, pk_un e3, pk_un e3, pk_un e7]
theorem takeMW {r : Nat → Int32} {x y : Int32} : takeW (takeM r y) x = takeM (takeW r x) y := by
  unfold takeM takeW
  rw [pk_un (show 3 ≠ 4 by decide), pk_un (show 4 ≠ 7 by decide), pk_un (show 4 ≠ 3 by decide)]
  funext j
  by_cases e7 : j = 7
  · subst e7; rw [pk_us, pk_un (show 7 ≠ 4 by decide), pk_us, pk_un (show 7 ≠ 3 by decide), pk_un (show 7 ≠ 4 by decide), pk_un (show 7 ≠ 3 by decide)]
  · by_cases e3 : j = 3
    · subst e3; rw [pk_un (by decide), pk_us, pk_un (show 3 ≠ 4 by decide), pk_un (by decide), pk_us]
    · by_cases e4 : j = 4
      · subst e4; rw [pk_un (by decide), pk_un (by decide), pk_us, pk_us]
      · rw [pk_un e7, pk_un e3, pk_un e4, pk_un e4, pk_un e7, pk_un e3]
theorem pour_ti {D : Nat} {r : Nat → Int32} {x y : Int32} (h : TI D r) (hx : 0 ≤ x.toInt ∧ x.toInt ≤ 200) (hy : 0 ≤ y.toInt ∧ y.toInt ≤ 200) : TI D (pourR r x y) := by
  obtain ⟨h0, h1, h2, h3, h4, h6⟩ := h
  unfold pourR TI
  simp only [pk_us, pk_un (show (0 : Nat) ≠ 4 by decide), pk_un (show (0 : Nat) ≠ 3 by decide), pk_un (show (0 : Nat) ≠ 7 by decide), pk_un (show (1 : Nat) ≠ 4 by decide), pk_un (show (1 : Nat) ≠ 3 by decide), pk_un (show (1 : Nat) ≠ 7 by decide), pk_un (show (2 : Nat) ≠ 4 by decide), pk_un (show (2 : Nat) ≠ 3 by decide), pk_un (show (2 : Nat) ≠ 7 by decide), pk_un (show (3 : Nat) ≠ 4 by decide), pk_un (show (6 : Nat) ≠ 4 by decide), pk_un (show (6 : Nat) ≠ 3 by decide), pk_un (show (6 : Nat) ≠ 7 by decide)]
  exact ⟨h0, h1, h2, (w_val h3 hx).2, m_val h4 hy, h6⟩
