/-! PART 20: what the reference's methods do, as functions -/
def mSetT (M : QMs) (i k : Nat) (x : Int32) : QMs := uA M (upd (mA M) (8 * i + k) x)
def mSetP (M : QMs) (i k : Nat) (x : Int32) : QMs := uB M (upd (mB M) (9 * i + k) x)
def mf (M : QMs) (k : Nat) : Nat := (mB M (9 * k + 0)).toNatClampNeg
def mo (M : QMs) (k : Nat) : Nat := (mB M (9 * k + 1)).toNatClampNeg
def MOk (M : QMs) : Prop := mt_ M ≤ 10 ∧ mp_ M ≤ 14 ∧ ∀ k, k < mp_ M → mf M k < mt_ M ∧ mo M k < mt_ M ∧ mf M k ≠ mo M k ∧ mB M (9 * k + 0) = nI (mf M k) ∧ mB M (9 * k + 1) = nI (mo M k)
def mhead (M : QMs) (i : Nat) : Int32 := 10 * mA M (8 * i + 0) + mA M (8 * i + 3)
def mflows (M : QMs) (k : Nat) : Int32 :=
  let d := mhead M (mf M k) - mhead M (mo M k)
  if d ≤ 0 then 0 else if mB M (9 * k + 3) ≤ d then qmin (mA M (8 * mf M k + 3)) (qmin (d / 10 + 1) (qmax 0 (mB M (9 * k + 2) - mB M (9 * k + 4)))) else 0
def mtold (M : QMs) (k w : Nat) : Int32 := if w = 8 then mflows M k else mB M (9 * k + w)
def mall (M : QMs) (k : Nat) : Int32 := qsum (fun j => mA M (8 * j + k)) (mt_ M)
def mallP (M : QMs) (k : Nat) : Int32 := qsum (fun j => mB M (9 * j + k)) (mp_ M)
/-- x is one of 0 .. n - 1 -/
abbrev qin (x : Int32) (n : Nat) : Prop := 0 ≤ x ∧ x < nI n
theorem qin_of {x : Int32} {n : Nat} (hn : n < 2147483648) (h : qin x n) : ∃ i, i < n ∧ x = nI i := by
  obtain ⟨i, hi, rfl⟩ := nI_of (Int32.not_lt.mpr h.1)
  exact ⟨i, (nI_ltI hi hn).mp h.2, rfl⟩
theorem qin_nI {n i : Nat} (hn : n < 2147483648) (h : i < n) : qin (nI i) n := ⟨nI_pos' (by omega), nI_lt h hn⟩
theorem q_pred {n : Nat} (hn : n < 2147483648) : (nI n - 1).toInt = (n : Int) - 1 := by
  rcases n with _ | n
  · decide
  · rw [nI_pred, nI_toInt (by omega)]; omega
theorem qin_iff {x : Int32} {n : Nat} (hn : n < 2147483648) : (0 ≤ x ∧ x ≤ nI n - 1) ↔ qin x n := by
  constructor
  · intro h
    refine ⟨h.1, ?_⟩
    have h2 := h.2
    rw [Int32.lt_iff_toInt_lt, nI_toInt hn]
    rw [Int32.le_iff_toInt_le, q_pred hn] at h2
    omega
  · intro h
    refine ⟨h.1, ?_⟩
    have h2 := h.2
    rw [Int32.le_iff_toInt_le, q_pred hn]
    rw [Int32.lt_iff_toInt_lt, nI_toInt hn] at h2
    omega
theorem q_isin {x : Int32} {n : Nat} (hn : n < 2147483648) : (if 0 ≤ x ∧ x ≤ nI n - 1 then (1 : Int32) else 0) = if qin x n then 1 else 0 := by
  by_cases h : qin x n
  · rw [if_pos h, if_pos ((qin_iff hn).mpr h)]
  · rw [if_neg h, if_neg (fun q => h ((qin_iff hn).mp q))]
theorem mB_uB (M : QMs) (f : Nat → Int32) : mB (uB M f) = f := rfl
theorem mB_uA (M : QMs) (f : Nat → Int32) : mB (uA M f) = mB M := rfl
theorem mA_uA (M : QMs) (f : Nat → Int32) : mA (uA M f) = f := rfl
theorem mA_uB (M : QMs) (f : Nat → Int32) : mA (uB M f) = mA M := rfl
def mPour (M : QMs) (i : Nat) (x y : Int32) : QMs :=
  let v := mA M (8 * i + 3) + x
  let M1 := mSetT M i 7 (mA M (8 * i + 7) + qmax 0 (v - 200))
  let M2 := mSetT M1 i 3 (qmin 200 v)
  mSetT M2 i 4 (qmin 99 (mA M2 (8 * i + 4) + y))
def mflow (M : QMs) (k : Nat) : QMs :=
  let x := mflows M k
  let y := qmin x (mB M (9 * k + 8))
  let M1 := mSetP M k 5 x
  let M2 := mSetP M1 k 6 y
  let M3 := mSetP M2 k 7 (mB M2 (9 * k + 7) + y)
  if x = 0 then M3 else
    let v := mA M3 (8 * mf M k + 4) * x / mA M3 (8 * mf M k + 3)
    let M4 := mSetT M3 (mf M k) 3 (mA M3 (8 * mf M k + 3) - x)
    let M5 := mSetT M4 (mf M k) 4 (mA M4 (8 * mf M k + 4) - v)
    mPour M5 (mo M k) (x - y) v
def mcrust (M : QMs) (k : Nat) : QMs := if mB M (9 * k + 5) ≤ 0 then M else mSetP M k 4 (qmin 20 (mB M (9 * k + 4) + 1))
def mdrink (M : QMs) (i : Nat) : QMs :=
  let v := if mA M (8 * i + 4) < 50 then mA M (8 * i + 2) else mA M (8 * i + 2) / 2
  let x := qmin v (mA M (8 * i + 3))
  let M1 := mSetT M i 3 (mA M (8 * i + 3) - x)
  let M2 := mSetT M1 i 5 x
  mSetT M2 i 6 (mA M2 (8 * i + 6) + x)
abbrev mfeedF : Nat → QMs → QMs := fun i X => mPour X i (mA X (8 * i + 1)) (mA X (8 * i + 1) / 4)
abbrev mflowF : Nat → QMs → QMs := fun k X => mflow X k
abbrev mcrustF : Nat → QMs → QMs := fun k X => mcrust X k
abbrev mdrinkF : Nat → QMs → QMs := fun i X => mdrink X i
def mday (M : QMs) : QMs :=
  let M1 := itN mfeedF (mt_ M) M
  let M2 := itN mflowF (mp_ M1) M1
  let M3 := if mY M2 0 - mY M2 0 / 4 * 4 = 0 then itN mcrustF (mp_ M2) M2 else M2
  let M4 := itN mdrinkF (mt_ M3) M3
  uY M4 (upd (mY M4) 0 (mY M4 0 + 1))
abbrev mdayF : Nat → QMs → QMs := fun _ X => mday X
/-- the same shape -/
def MShp (M M2 : QMs) : Prop := mt_ M2 = mt_ M ∧ mp_ M2 = mp_ M ∧ (∀ k, mB M2 (9 * k + 0) = mB M (9 * k + 0) ∧ mB M2 (9 * k + 1) = mB M (9 * k + 1)) ∧ mH M2 = mH M
theorem MShp.rf {M : QMs} : MShp M M := ⟨rfl, rfl, fun _ => ⟨rfl, rfl⟩, rfl⟩
theorem MShp.trans {M M2 M3 : QMs} (h : MShp M M2) (h2 : MShp M2 M3) : MShp M M3 := ⟨h2.1.trans h.1, h2.2.1.trans h.2.1, fun k => ⟨(h2.2.2.1 k).1.trans (h.2.2.1 k).1, (h2.2.2.1 k).2.trans (h.2.2.1 k).2⟩, h2.2.2.2.trans h.2.2.2⟩
theorem MShp.ok {M M2 : QMs} (h : MShp M M2) (hk : MOk M) : MOk M2 := by
  obtain ⟨h1, h2, h3, -⟩ := h
  obtain ⟨k1, k2, k3⟩ := hk
  have e0 : ∀ k, mf M2 k = mf M k := fun k => by unfold mf; rw [(h3 k).1]
  have e1 : ∀ k, mo M2 k = mo M k := fun k => by unfold mo; rw [(h3 k).2]
  refine ⟨by rw [h1]; exact k1, by rw [h2]; exact k2, fun k hk => ?_⟩
  rw [h2] at hk
  rw [e0, e1, h1, (h3 k).1, (h3 k).2]
  exact k3 k hk
theorem mshp_setT {M : QMs} {i k : Nat} {x : Int32} : MShp M (mSetT M i k x) := ⟨rfl, rfl, fun _ => ⟨rfl, rfl⟩, rfl⟩
theorem mshp_setP {M : QMs} {i j : Nat} {x : Int32} (h1 : 2 ≤ j) (h2 : j < 9) : MShp M (mSetP M i j x) := by
  refine ⟨rfl, rfl, fun k => ?_, rfl⟩
  show upd (mB M) (9 * i + j) x (9 * k + 0) = _ ∧ upd (mB M) (9 * i + j) x (9 * k + 1) = _
  exact ⟨pk_un (by omega), pk_un (by omega)⟩
theorem mshp_uY {M : QMs} {f : Nat → Int32} : MShp M (uY M f) := ⟨rfl, rfl, fun _ => ⟨rfl, rfl⟩, rfl⟩
theorem mshp_it {f : Nat → QMs → QMs} (hf : ∀ i M, MShp M (f i M)) (M : QMs) : ∀ n, MShp M (itN f n M)
  | 0 => MShp.rf
  | n + 1 => (mshp_it hf M n).trans (hf n _)
theorem mshp_pour {M : QMs} {i : Nat} {x y : Int32} : MShp M (mPour M i x y) := (mshp_setT.trans mshp_setT).trans mshp_setT
theorem mshp_flow {M : QMs} {k : Nat} : MShp M (mflow M k) := by
  have h3 : ∀ x y v : Int32, MShp M (mSetP (mSetP (mSetP M k 5 x) k 6 y) k 7 v) := fun x y v => ((mshp_setP (by decide) (by decide)).trans (mshp_setP (by decide) (by decide))).trans (mshp_setP (by decide) (by decide))
  unfold mflow
  simp only []
  split
  · exact h3 _ _ _
  · exact (((h3 _ _ _).trans mshp_setT).trans mshp_setT).trans mshp_pour
theorem mshp_crust {M : QMs} {k : Nat} : MShp M (mcrust M k) := by
  unfold mcrust
  split
  · exact MShp.rf
  · exact mshp_setP (by decide) (by decide)
theorem mshp_drink {M : QMs} {i : Nat} : MShp M (mdrink M i) := (mshp_setT.trans mshp_setT).trans mshp_setT
theorem mshp_day (M : QMs) : MShp M (mday M) := by
  unfold mday
  refine MShp.trans ?_ mshp_uY
  refine MShp.trans ?_ (mshp_it (f := mdrinkF) (fun _ _ => mshp_drink) _ _)
  refine MShp.trans ((mshp_it (f := mfeedF) (fun _ _ => mshp_pour) M (mt_ M)).trans (mshp_it (f := mflowF) (fun _ _ => mshp_flow) _ (mp_ (itN mfeedF (mt_ M) M)))) ?_
  show MShp _ (if _ then _ else _)
  split
  · exact mshp_it (f := mcrustF) (fun _ _ => mshp_crust) _ _
  · exact MShp.rf
theorem mshp_days (M : QMs) (n : Nat) : MShp M (itN mdayF n M) := mshp_it (f := mdayF) (fun _ X => mshp_day X) M n
theorem mcrust_Y (M : QMs) : ∀ n, mY (itN mcrustF n M) = mY M
  | 0 => rfl
  | n + 1 => by
    show mY (mcrust (itN mcrustF n M) n) = _
    rw [← mcrust_Y M n]
    unfold mcrust
    split <;> rfl
theorem q_tenth {d : Int32} (h : ¬ d ≤ 0) : 0 < d / 10 + 1 := by
  have h1 : (0 : Int) < d.toInt := by
    have := Int32.not_le.mp h
    rw [Int32.lt_iff_toInt_lt] at this
    simpa using this
  have h2 : d.toInt < 2147483648 := by have := Int32.toInt_lt d; simpa using this
  have h3 : (d / 10).toInt = d.toInt / 10 := by
    rw [Int32.toInt_div_of_ne_right _ _ (by decide)]
    show d.toInt.tdiv 10 = _
    exact Int.tdiv_eq_ediv_of_nonneg (by omega)
  have h4 : (d / 10 + 1).toInt = d.toInt / 10 + 1 := by
    rw [Int32.toInt_add, h3]
    show (d.toInt / 10 + 1).bmod _ = _
    apply Int.bmod_eq_of_le <;> omega
  rw [Int32.lt_iff_toInt_lt, h4]
  show (0 : Int) < _
  omega
theorem mflows_ne {M : QMs} {k : Nat} (h : ¬ mflows M k = 0) : ¬ mA M (8 * mf M k + 3) = 0 := by
  intro q
  apply h
  unfold mflows
  simp only []
  split
  · rfl
  · rename_i hd
    split
    · rw [q]
      have h1 := q_tenth hd
      generalize (mhead M (mf M k) - mhead M (mo M k)) / 10 + 1 = y at h1
      generalize mB M (9 * k + 2) - mB M (9 * k + 4) = v
      have h2 : ¬ qmin y (qmax 0 v) < 0 := by
        by_cases a : qmax 0 v < y
        · rw [show qmin y (qmax 0 v) = qmax 0 v from if_pos a]
          by_cases b : 0 < v
          · rw [show qmax 0 v = v from if_pos b]
            exact fun z => Int32.lt_irrefl (Int32.lt_trans b z)
          · rw [show qmax 0 v = 0 from if_neg b]
            exact Int32.lt_irrefl
        · rw [show qmin y (qmax 0 v) = y from if_neg a]
          exact fun z => Int32.lt_irrefl (Int32.lt_trans h1 z)
      show (if qmin y (qmax 0 v) < 0 then _ else (0 : Int32)) = 0
      rw [if_neg h2]
    · rfl
theorem q_rng (a b : Nat) {x y v : Int32} {k : Nat} (hx : x = nI a) (hy : y = nI b) (h : v = nI k ∧ a ≤ k ∧ k ≤ b ∧ b < 2147483648 := by first | exact ⟨rfl, by omega, by omega, by omega⟩ | exact ⟨rfl, by omega⟩) : x ≤ v ∧ v ≤ y := by
  obtain ⟨rfl, h1, h2, h3⟩ := h
  rw [hx, hy]
  exact ⟨nI_le h1 (by omega), nI_le h2 h3⟩
def mthc (M : QMs) : Nat → Int32
  | 0 => 0
  | n + 1 => if mA M (8 * n + 5) < mA M (8 * n + 2) then mthc M n + 1 else mthc M n + 0
def mcount (M : QMs) : Nat → Int32
  | 0 => mY M 0
  | 1 => nI (mt_ M)
  | 2 => nI (mp_ M)
  | 3 => mall M 3
  | 4 => mall M 4
  | 5 => mall M 6
  | 6 => mallP M 7
  | 7 => mall M 7
  | _ => mthc M (mt_ M)
def mrStep (M : QMs) (x : Int32) (k : Nat) (r : Int32) : Int32 :=
  if mB M (9 * k + 0) = x then r ||| (1 <<< (mB M (9 * k + 1) &&& 31)) else if ¬ (r >>> (mB M (9 * k + 0) &&& 31)) &&& 1 = 1 then r else r ||| (1 <<< (mB M (9 * k + 1) &&& 31))
theorem mrStep_a {M : QMs} {x r : Int32} {k : Nat} (h : mB M (9 * k + 0) = x) : mrStep M x k r = r ||| (1 <<< (mB M (9 * k + 1) &&& 31)) := if_pos h
theorem mrStep_b {M : QMs} {x r : Int32} {k : Nat} (h : ¬ mB M (9 * k + 0) = x) (h2 : ¬ (r >>> (mB M (9 * k + 0) &&& 31)) &&& 1 = 1) : mrStep M x k r = r := (if_neg h).trans (if_pos h2)
theorem mrStep_c {M : QMs} {x r : Int32} {k : Nat} (h : ¬ mB M (9 * k + 0) = x) (h2 : (r >>> (mB M (9 * k + 0) &&& 31)) &&& 1 = 1) : mrStep M x k r = r ||| (1 <<< (mB M (9 * k + 1) &&& 31)) := (if_neg h).trans (if_neg (fun q => q h2))
def mrRound (M : QMs) (x : Int32) (r : Int32) : Int32 := itN (mrStep M x) (mp_ M) r
def mreach (M : QMs) (x : Int32) : Int32 := itN (fun _ r => mrRound M x r) (mt_ M + 1) 0
theorem mthc_uh (M : QMs) (x : Int32) : ∀ n, mthc (uh M x) n = mthc M n
  | 0 => rfl
  | n + 1 => by
    simp only [mthc]
    rw [mthc_uh M x n]
    rfl
theorem mcount_uh (M : QMs) (x : Int32) (n : Nat) : mcount (uh M x) n = mcount M n := by
  match n with
  | 0 => rfl
  | 1 => rfl
  | 2 => rfl
  | 3 => rfl
  | 4 => rfl
  | 5 => rfl
  | 6 => rfl
  | 7 => rfl
  | n + 8 => exact mthc_uh M x (mt_ M)
/-- the pipe that lost the most, among the first ones -/
def msus (M : QMs) : Nat → Int32
  | 0 => -1
  | n + 1 => if mB M (9 * n + 6) ≤ (if msus M n = -1 then 0 else mB M (9 * (msus M n).toNatClampNeg + 6)) then msus M n else nI n
theorem msus_c (M : QMs) : ∀ n, msus M n = -1 ∨ ∃ j, j < n ∧ msus M n = nI j
  | 0 => Or.inl rfl
  | n + 1 => by
    have e : msus M (n + 1) = (if mB M (9 * n + 6) ≤ (if msus M n = -1 then 0 else mB M (9 * (msus M n).toNatClampNeg + 6)) then msus M n else nI n) := rfl
    rw [e]
    generalize (if msus M n = -1 then (0 : Int32) else mB M (9 * (msus M n).toNatClampNeg + 6)) = y
    split
    · rcases msus_c M n with h | ⟨j, hj, h⟩
      · exact Or.inl h
      · exact Or.inr ⟨j, by omega, h⟩
    · exact Or.inr ⟨n, by omega, rfl⟩
theorem msus_v {M : QMs} {n j : Nat} (h : ¬ msus M n = -1) (ej : msus M n = nI j) (hj : j < 2147483648) : (if msus M n = -1 then (0 : Int32) else mB M (9 * (msus M n).toNatClampNeg + 6)) = mB M (9 * j + 6) := by
  rw [if_neg h, ej, nI_clamp hj]
theorem msus_j {M : QMs} {n j : Nat} (hj : j < 2147483648) (ej : msus M n = nI j) : (msus M n).toNatClampNeg = j := by rw [ej, nI_clamp hj]
theorem msus_a {M : QMs} {n j : Nat} (h : ¬ msus M n = -1) (ej : msus M n = nI j) (c : mB M (9 * n + 6) ≤ mB M (9 * j + 6)) (hj : j < 2147483648 := by omega) : msus M (n + 1) = msus M n := by
  show (if _ then _ else _) = _
  rw [msus_v h ej hj, if_pos c]
theorem msus_b {M : QMs} {n j : Nat} (h : ¬ msus M n = -1) (ej : msus M n = nI j) (c : ¬ mB M (9 * n + 6) ≤ mB M (9 * j + 6)) (hj : j < 2147483648 := by omega) : msus M (n + 1) = nI n := by
  show (if _ then _ else _) = _
  rw [msus_v h ej hj, if_neg c]
theorem msus_c2 {M : QMs} {n : Nat} (h : msus M n = -1) : (if msus M n = -1 then (0 : Int32) else mB M (9 * (msus M n).toNatClampNeg + 6)) = 0 := if_pos h
theorem msus_e {M : QMs} {n : Nat} (h : msus M n = -1) (c : mB M (9 * n + 6) ≤ 0) : msus M (n + 1) = msus M n := by
  show (if _ then _ else _) = _
  rw [msus_c2 h, if_pos c]
theorem msus_d {M : QMs} {n : Nat} (h : msus M n = -1) (c : ¬ mB M (9 * n + 6) ≤ 0) : msus M (n + 1) = nI n := by
  show (if _ then _ else _) = _
  rw [msus_c2 h, if_neg c]
def qlong (f : Nat → Int32) : Nat → Int64 → Int64
  | 0, d => d
  | n + 1, d => qlong f n d * 31 + (f n).toInt64
def mdigT (M : QMs) : Nat → Int64 → Int64
  | 0, d => d
  | n + 1, d => qlong (fun w => mA M (8 * n + w)) 8 (mdigT M n d)
def mdigP (M : QMs) : Nat → Int64 → Int64
  | 0, d => d
  | n + 1, d => qlong (fun w => mtold M n w) 9 (mdigP M n d) * 31 + (mB M (9 * n + 8)).toInt64
def mmean (M : QMs) : UInt64 := if mY M 0 = 0 then FP.dconst0 else FP.ddiv (FP.i2d (mall M 6)) (FP.i2d (mY M 0))
theorem q_ddiv {x y : Int32} (h : ¬ y = 0) : vf_n64 (FP.ddiv (FP.i2d x) (FP.i2d y)) := by
  have h1 : FP.Core.dIsNaN (FP.Core.ddiv (FP.Core.i2d x) (FP.Core.i2d y)) = false := FP.Core.ddiv_out (FP.Core.i2d_fin x).notNaN (FP.Core.i2d_fin y) (fun hz => FP.Core.i2d_ne_zero h ((FP.Core.zero_bits2 _).mp hz))
  have h2 : ¬ 9218868437227405312 < (FP.Core.ddiv (FP.Core.i2d x) (FP.Core.i2d y)).toNat % 2 ^ 63 := fun q => by
    rw [(FP.Core.isNaN_bits _).mpr q] at h1; cases h1
  show (FP.Core.ddiv (FP.Core.i2d x) (FP.Core.i2d y)) &&& 0x7fffffffffffffff ≤ 0x7ff0000000000000
  rw [UInt64.le_iff_toNat_le, UInt64.toNat_and]
  have e1 : (0x7fffffffffffffff : UInt64).toNat = 2 ^ 63 - 1 := by decide
  have e2 : (0x7ff0000000000000 : UInt64).toNat = 9218868437227405312 := by decide
  rw [e1, e2, Nat.and_two_pow_sub_one_eq_mod]
  omega
theorem bb_eq {M M2 : QMs} (h : MShp M M2) : (mH M2, mt_ M2, mp_ M2, mA M, mB M, mY M) = M := by
  obtain ⟨h1, h2, -, h4⟩ := h
  rw [h1, h2, h4]
def mfore (M : QMs) (n k : Nat) : Int32 :=
  if k = 0 then mall (itN mdayF n M) 6 - mall M 6 else if k = 1 then mallP (itN mdayF n M) 7 - mallP M 7 else if k = 2 then mall (itN mdayF n M) 3 else mallP (itN mdayF n M) 4
def madv (M : QMs) (n : Nat) : Nat → Int32 × Int32
  | 0 => (-1, mall (itN mdayF n M) 6)
  | k + 1 => if (madv M n k).2 < mall (itN mdayF n (mSetP M k 4 0)) 6 then (nI k, mall (itN mdayF n (mSetP M k 4 0)) 6) else madv M n k
theorem q_nIc {k : Nat} (c : Nat) (h : nI k = nI c) (hk : k < 2147483648 ∧ c < 2147483648 := by omega) : k = c := (nI_eq hk.1 hk.2).mp h
theorem q_nIcn {k : Nat} (c : Nat) (h : ¬ nI k = nI c) : ¬ k = c := fun q => h (by rw [q])
theorem q_nI0 {k : Nat} (h : nI k = 0) (hk : k < 2147483648 := by omega) : k = 0 := (nI_eq hk (by decide)).mp h
theorem q_nI0n {k : Nat} (h : ¬ nI k = 0) : ¬ k = 0 := fun q => h (by rw [q]; rfl)
/-- on which day tank t first drinks all of its thirst, after j days, d days tried -/
def msatF (M : QMs) (t : Nat) : Nat → Nat → Int32
  | 0, _ => -1
  | d + 1, j => if mA (mday (itN mdayF j M)) (8 * t + 5) = mA (mday (itN mdayF j M)) (8 * t + 2) then nI (j + 1) else msatF M t d (j + 1)
theorem msat_p {M : QMs} {t d j : Nat} (h : mA (mday (itN mdayF j M)) (8 * t + 5) = mA (mday (itN mdayF j M)) (8 * t + 2)) : msatF M t (d + 1) j = nI (j + 1) := if_pos h
theorem msat_n {M : QMs} {t d j : Nat} (h : ¬ mA (mday (itN mdayF j M)) (8 * t + 5) = mA (mday (itN mdayF j M)) (8 * t + 2)) : msatF M t (d + 1) j = msatF M t d (j + 1) := if_neg h
theorem q_nm1 {k : Nat} (h : k < 2147483648 := by omega) : ¬ nI k = -1 := fun q => by
  have := nI_toInt h
  rw [q] at this
  have e : (-1 : Int32).toInt = -1 := by decide
  omega
