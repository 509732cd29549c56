/-! PART 80: the world at the head of the law's loop -/
abbrev QT5 : Type := (Nat × Nat × Nat) × (Nat × Nat × Nat)
def W60 (z : QZ) (a : Nat) (r : QT5) (d : Nat) (t : Nat × Nat × Nat) (o : Nat) : va_W :=
  (a, (.inr (1, [.ref r.1.1, .ref r.2.1]) : va_E)) :: (landO z r.1.1 r.1.2 ++ (landO z r.2.1 r.2.2 ++ [(d, .inr (2, [.int 0, .int 0, .int 0, .ref t.1, .ref t.2.1, .ref t.2.2])), (t.1, .inl (zI z, 80, .inl (fun _ => 0))), (t.2.1, .inl (zI z, 126, .inl (fun _ => 0))), (t.2.2, .inl (zI z, 1, .inl (fun _ => 0))), (o, .inl (zL z, 1, .inr (.inl (fun _ => 0))))]))
def ad60 (z : QZ) (a : Nat) (r : QT5) (d : Nat) (t : Nat × Nat × Nat) (o k : Nat) : Nat := ((W60 z a r d t o)[piL k]?.getD (0, .inr (0, []))).1
def ct60 (z : QZ) (a : Nat) (r : QT5) (d : Nat) (t : Nat × Nat × Nat) (o k : Nat) : va_E := ((W60 z a r d t o)[piL k]?.getD (0, .inr (0, []))).2
theorem piL_lt {k : Nat} (h : k < 60) : piL k < 60 := by
  unfold piL
  split
  · omega
  · split
    · have := poL_lt (a := k - 1) (by omega); omega
    · split
      · have := poL_lt (a := k - 28) (by omega); omega
      · exact h
theorem w60_get {z : QZ} {a : Nat} {r : QT5} {d : Nat} {t : Nat × Nat × Nat} {o k : Nat} (hk : k < 60) : (W60 z a r d t o)[piL k]? = some (ad60 z a r d t o k, ct60 z a r d t o k) := by
  have hl : (W60 z a r d t o).length = 60 := rfl
  unfold ad60 ct60
  rw [List.getElem?_eq_getElem (by rw [hl]; exact piL_lt hk)]
  rfl
set_option maxRecDepth 100000 in
set_option maxHeartbeats 4000000 in
theorem w60_at {D : va_G} {cI cR cL : ClassId} {z0 : QZ} (h0 : zI z0 = cI ∧ zR z0 = cR ∧ zL z0 = cL) (a : Nat) (r : QT5) (d : Nat) (t : Nat × Nat × Nat) (o : Nat) : WAt (D, cI, cR, cL, 60, ad60 z0 a r d t o) (va_up (fun _ => S00) 0 S00, M00, fun _ => 0) (ct60 z0 a r d t o) := by
  obtain ⟨D0, cI0, cR0, cL0, n0, f0⟩ := z0
  obtain ⟨rfl, rfl, rfl⟩ := h0
  obtain ⟨⟨b1, q1, q2⟩, ⟨b2, q3, q4⟩⟩ := r
  obtain ⟨t1, t2, t3⟩ := t
  have hσ : va_up (fun _ : Nat => S00) 0 S00 = fun _ => S00 := by funext k; unfold va_up; split <;> rfl
  rw [hσ]
  refine ⟨⟨rfl, fun b hb => ?_⟩, ⟨rfl, rfl, rfl, rfl⟩, rfl⟩
  rcases (show b = 0 ∨ b = 1 by omega) with rfl | rfl
  · refine ⟨rfl, ?_, ?_, fun i hi => ?_, fun i hi => ?_⟩
    · refine congrArg (fun g => (.inl (_, 10, .inr (.inr (.inr (.inr g)))) : va_E)) (funext fun i => ?_)
      by_cases hi : i < 10
      · rw [if_pos hi, if_pos hi]
        rcases (show i = 0 ∨ i = 1 ∨ i = 2 ∨ i = 3 ∨ i = 4 ∨ i = 5 ∨ i = 6 ∨ i = 7 ∨ i = 8 ∨ i = 9 by omega) with rfl | rfl | rfl | rfl | rfl | rfl | rfl | rfl | rfl | rfl <;> rfl
      · rw [if_neg hi, if_neg hi]
    · refine congrArg (fun g => (.inl (_, 14, .inr (.inr (.inr (.inr g)))) : va_E)) (funext fun i => ?_)
      by_cases hi : i < 14
      · rw [if_pos hi, if_pos hi]
        rcases (show i = 0 ∨ i = 1 ∨ i = 2 ∨ i = 3 ∨ i = 4 ∨ i = 5 ∨ i = 6 ∨ i = 7 ∨ i = 8 ∨ i = 9 ∨ i = 10 ∨ i = 11 ∨ i = 12 ∨ i = 13 by omega) with rfl | rfl | rfl | rfl | rfl | rfl | rfl | rfl | rfl | rfl | rfl | rfl | rfl | rfl <;> rfl
      · rw [if_neg hi, if_neg hi]
    · rcases (show i = 0 ∨ i = 1 ∨ i = 2 ∨ i = 3 ∨ i = 4 ∨ i = 5 ∨ i = 6 ∨ i = 7 ∨ i = 8 ∨ i = 9 by omega) with rfl | rfl | rfl | rfl | rfl | rfl | rfl | rfl | rfl | rfl <;> rfl
    · rcases (show i = 0 ∨ i = 1 ∨ i = 2 ∨ i = 3 ∨ i = 4 ∨ i = 5 ∨ i = 6 ∨ i = 7 ∨ i = 8 ∨ i = 9 ∨ i = 10 ∨ i = 11 ∨ i = 12 ∨ i = 13 by omega) with rfl | rfl | rfl | rfl | rfl | rfl | rfl | rfl | rfl | rfl | rfl | rfl | rfl | rfl <;> rfl
  · refine ⟨rfl, ?_, ?_, fun i hi => ?_, fun i hi => ?_⟩
    · refine congrArg (fun g => (.inl (_, 10, .inr (.inr (.inr (.inr g)))) : va_E)) (funext fun i => ?_)
      by_cases hi : i < 10
      · rw [if_pos hi, if_pos hi]
        rcases (show i = 0 ∨ i = 1 ∨ i = 2 ∨ i = 3 ∨ i = 4 ∨ i = 5 ∨ i = 6 ∨ i = 7 ∨ i = 8 ∨ i = 9 by omega) with rfl | rfl | rfl | rfl | rfl | rfl | rfl | rfl | rfl | rfl <;> rfl
      · rw [if_neg hi, if_neg hi]
    · refine congrArg (fun g => (.inl (_, 14, .inr (.inr (.inr (.inr g)))) : va_E)) (funext fun i => ?_)
      by_cases hi : i < 14
      · rw [if_pos hi, if_pos hi]
        rcases (show i = 0 ∨ i = 1 ∨ i = 2 ∨ i = 3 ∨ i = 4 ∨ i = 5 ∨ i = 6 ∨ i = 7 ∨ i = 8 ∨ i = 9 ∨ i = 10 ∨ i = 11 ∨ i = 12 ∨ i = 13 by omega) with rfl | rfl | rfl | rfl | rfl | rfl | rfl | rfl | rfl | rfl | rfl | rfl | rfl | rfl <;> rfl
      · rw [if_neg hi, if_neg hi]
    · rcases (show i = 0 ∨ i = 1 ∨ i = 2 ∨ i = 3 ∨ i = 4 ∨ i = 5 ∨ i = 6 ∨ i = 7 ∨ i = 8 ∨ i = 9 by omega) with rfl | rfl | rfl | rfl | rfl | rfl | rfl | rfl | rfl | rfl <;> rfl
    · rcases (show i = 0 ∨ i = 1 ∨ i = 2 ∨ i = 3 ∨ i = 4 ∨ i = 5 ∨ i = 6 ∨ i = 7 ∨ i = 8 ∨ i = 9 ∨ i = 10 ∨ i = 11 ∨ i = 12 ∨ i = 13 by omega) with rfl | rfl | rfl | rfl | rfl | rfl | rfl | rfl | rfl | rfl | rfl | rfl | rfl | rfl <;> rfl
