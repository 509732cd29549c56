/-! PART 91c: the world at the head of the law's loop -/
abbrev QT5 : Type := (Nat × Nat × Nat) × (Nat × Nat × Nat)
def W55 (z : QZ) (a : Nat) (r : QT5) : va_W :=
  (a, (.inr (1, [.ref r.1.1, .ref r.2.1]) : va_E)) :: (landO z r.1.1 r.1.2 ++ landO z r.2.1 r.2.2)
def ad55 (z : QZ) (a : Nat) (r : QT5) (k : Nat) : Nat := ((W55 z a r)[piL k]?.getD (0, .inr (0, []))).1
def ct55 (z : QZ) (a : Nat) (r : QT5) (k : Nat) : va_E := ((W55 z a r)[piL k]?.getD (0, .inr (0, []))).2
theorem piL_lt {k : Nat} (h : k < 55) : piL k < 55 := by
  unfold piL
  split
  · omega
  · split
    · have := poL_lt (a := k - 1) (by omega); omega
    · have := poL_lt (a := k - 28) (by omega); omega
theorem w55_get {z : QZ} {a : Nat} {r : QT5} {k : Nat} (hk : k < 55) : (W55 z a r)[piL k]? = some (ad55 z a r k, ct55 z a r k) := by
  have hl : (W55 z a r).length = 55 := rfl
  unfold ad55 ct55
  rw [List.getElem?_eq_getElem (by rw [hl]; exact piL_lt hk)]
  rfl
set_option maxRecDepth 100000 in
set_option maxHeartbeats 4000000 in
theorem w55_at {D : va_G} {cI cR cA cB : ClassId} {z0 : QZ} (h0 : zI z0 = cI ∧ zR z0 = cR ∧ zA z0 = cA ∧ zB z0 = cB) (a : Nat) (r : QT5) : XAt (D, cI, cR, (cA, cB), 55, ad55 z0 a r) (pr S00 S00) (ct55 z0 a r) := by
  obtain ⟨D0, cI0, cR0, ⟨cA0, cB0⟩, n0, f0⟩ := z0
  obtain ⟨rfl, rfl, rfl, rfl⟩ := h0
  obtain ⟨⟨b1, q1, q2⟩, ⟨b2, q3, q4⟩⟩ := r
  have hσ : pr S00 S00 = fun _ => S00 := by funext k; unfold pr va_up; split <;> rfl
  rw [hσ]
  refine ⟨rfl, fun b hb => ?_⟩
  rcases (show b = 0 ∨ b = 1 by omega) with rfl | rfl
  · refine ⟨rfl, ?_, ?_, fun i hi => ?_, fun i hi => ?_⟩
    · refine congrArg (fun g => (.inl (_, 10, .inr (.inr (.inr (.inr g)))) : va_E)) (funext fun i => ?_)
      by_cases hi : i < 10
      · rw [if_pos hi, if_pos hi]
        rcases (show i = 0 ∨ i = 1 ∨ i = 2 ∨ i = 3 ∨ i = 4 ∨ i = 5 ∨ i = 6 ∨ i = 7 ∨ i = 8 ∨ i = 9 by omega) with rfl | rfl | rfl | rfl | rfl | rfl | rfl | rfl | rfl | rfl <;> rfl
      · rw [if_neg hi, if_neg hi]
    · refine congrArg (fun g => (.inl (_, 14, .inr (.inr (.inr (.inr g)))) : va_E)) (funext fun i => ?_)
      by_cases hi : i < 14
      · rw [if_pos hi, if_pos hi]
        rcases (show i = 0 ∨ i = 1 ∨ i = 2 ∨ i = 3 ∨ i = 4 ∨ i = 5 ∨ i = 6 ∨ i = 7 ∨ i = 8 ∨ i = 9 ∨ i = 10 ∨ i = 11 ∨ i = 12 ∨ i = 13 by omega) with rfl | rfl | rfl | rfl | rfl | rfl | rfl | rfl | rfl | rfl | rfl | rfl | rfl | rfl <;> rfl
      · rw [if_neg hi, if_neg hi]
    · rcases (show i = 0 ∨ i = 1 ∨ i = 2 ∨ i = 3 ∨ i = 4 ∨ i = 5 ∨ i = 6 ∨ i = 7 ∨ i = 8 ∨ i = 9 by omega) with rfl | rfl | rfl | rfl | rfl | rfl | rfl | rfl | rfl | rfl <;> rfl
    · rcases (show i = 0 ∨ i = 1 ∨ i = 2 ∨ i = 3 ∨ i = 4 ∨ i = 5 ∨ i = 6 ∨ i = 7 ∨ i = 8 ∨ i = 9 ∨ i = 10 ∨ i = 11 ∨ i = 12 ∨ i = 13 by omega) with rfl | rfl | rfl | rfl | rfl | rfl | rfl | rfl | rfl | rfl | rfl | rfl | rfl | rfl <;> rfl
  · refine ⟨rfl, ?_, ?_, fun i hi => ?_, fun i hi => ?_⟩
    · refine congrArg (fun g => (.inl (_, 10, .inr (.inr (.inr (.inr g)))) : va_E)) (funext fun i => ?_)
      by_cases hi : i < 10
      · rw [if_pos hi, if_pos hi]
        rcases (show i = 0 ∨ i = 1 ∨ i = 2 ∨ i = 3 ∨ i = 4 ∨ i = 5 ∨ i = 6 ∨ i = 7 ∨ i = 8 ∨ i = 9 by omega) with rfl | rfl | rfl | rfl | rfl | rfl | rfl | rfl | rfl | rfl <;> rfl
      · rw [if_neg hi, if_neg hi]
    · refine congrArg (fun g => (.inl (_, 14, .inr (.inr (.inr (.inr g)))) : va_E)) (funext fun i => ?_)
      by_cases hi : i < 14
      · rw [if_pos hi, if_pos hi]
        rcases (show i = 0 ∨ i = 1 ∨ i = 2 ∨ i = 3 ∨ i = 4 ∨ i = 5 ∨ i = 6 ∨ i = 7 ∨ i = 8 ∨ i = 9 ∨ i = 10 ∨ i = 11 ∨ i = 12 ∨ i = 13 by omega) with rfl | rfl | rfl | rfl | rfl | rfl | rfl | rfl | rfl | rfl | rfl | rfl | rfl | rfl <;> rfl
      · rw [if_neg hi, if_neg hi]
    · rcases (show i = 0 ∨ i = 1 ∨ i = 2 ∨ i = 3 ∨ i = 4 ∨ i = 5 ∨ i = 6 ∨ i = 7 ∨ i = 8 ∨ i = 9 by omega) with rfl | rfl | rfl | rfl | rfl | rfl | rfl | rfl | rfl | rfl <;> rfl
    · rcases (show i = 0 ∨ i = 1 ∨ i = 2 ∨ i = 3 ∨ i = 4 ∨ i = 5 ∨ i = 6 ∨ i = 7 ∨ i = 8 ∨ i = 9 ∨ i = 10 ∨ i = 11 ∨ i = 12 ∨ i = 13 by omega) with rfl | rfl | rfl | rfl | rfl | rfl | rfl | rfl | rfl | rfl | rfl | rfl | rfl | rfl <;> rfl
