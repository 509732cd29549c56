/-! PART 20: what the reference's methods do, as functions -/
def mSetT (M : QMs) (i k : Nat) (x : Int32) : QMs := uA M (upd (mA M) (8 * i + k) x)
def mSetP (M : QMs) (i k : Nat) (x : Int32) : QMs := uB M (upd (mB M) (9 * i + k) x)
def mf (M : QMs) (k : Nat) : Nat := (mB M (9 * k + 0)).toNatClampNeg
def mo (M : QMs) (k : Nat) : Nat := (mB M (9 * k + 1)).toNatClampNeg
def MOk (M : QMs) : Prop := mt_ M ≤ 10 ∧ mp_ M ≤ 14 ∧ ∀ k, k < mp_ M → mf M k < mt_ M ∧ mo M k < mt_ M ∧ mf M k ≠ mo M k ∧ mB M (9 * k + 0) = nI (mf M k) ∧ mB M (9 * k + 1) = nI (mo M k)
def mhead (M : QMs) (i : Nat) : Int32 := 10 * mA M (8 * i + 0) + mA M (8 * i + 3)
def mflows (M : QMs) (k : Nat) : Int32 :=
  let d := mhead M (mf M k) - mhead M (mo M k)
  if d ≤ 0 then 0 else if mB M (9 * k + 3) ≤ d then qmin (mA M (8 * mf M k + 3)) (qmin (d / 10 + 1) (qmax 0 (mB M (9 * k + 2) - mB M (9 * k + 4)))) else 0
def mtold (M : QMs) (k w : Nat) : Int32 := if w = 8 then mflows M k else mB M (9 * k + w)
def mall (M : QMs) (k : Nat) : Int32 := qsum (fun j => mA M (8 * j + k)) (mt_ M)
def mallP (M : QMs) (k : Nat) : Int32 := qsum (fun j => mB M (9 * j + k)) (mp_ M)
/-- x is one of 0 .. n - 1 -/
abbrev qin (x : Int32) (n : Nat) : Prop := 0 ≤ x ∧ x < nI n
theorem qin_of {x : Int32} {n : Nat} (hn : n < 2147483648) (h : qin x n) : ∃ i, i < n ∧ x = nI i := by
  obtain ⟨i, hi, rfl⟩ := nI_of (Int32.not_lt.mpr h.1)
  exact ⟨i, (nI_ltI hi hn).mp h.2, rfl⟩
theorem qin_nI {n i : Nat} (hn : n < 2147483648) (h : i < n) : qin (nI i) n := ⟨nI_pos' (by omega), nI_lt h hn⟩
theorem q_pred {n : Nat} (hn : n < 2147483648) : (nI n - 1).toInt = (n : Int) - 1 := by
  rcases n with _ | n
  · decide
  · rw [nI_pred, nI_toInt (by omega)]; omega
theorem qin_iff {x : Int32} {n : Nat} (hn : n < 2147483648) : (0 ≤ x ∧ x ≤ nI n - 1) ↔ qin x n := by
  constructor
  · intro h
    refine ⟨h.1, ?_⟩
    have h2 := h.2
    rw [Int32.lt_iff_toInt_lt, nI_toInt hn]
    rw [Int32.le_iff_toInt_le, q_pred hn] at h2
    omega
  · intro h
    refine ⟨h.1, ?_⟩
    have h2 := h.2
    rw [Int32.le_iff_toInt_le, q_pred hn]
    rw [Int32.lt_iff_toInt_lt, nI_toInt hn] at h2
    omega
theorem q_isin {x : Int32} {n : Nat} (hn : n < 2147483648) : (if 0 ≤ x ∧ x ≤ nI n - 1 then (1 : Int32) else 0) = if qin x n then 1 else 0 := by
  by_cases h : qin x n
  · rw [if_pos h, if_pos ((qin_iff hn).mpr h)]
  · rw [if_neg h, if_neg (fun q => h ((qin_iff hn).mp q))]
