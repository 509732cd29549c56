/-! PART 79: the cells as they were made, in the order of the world -/
def poL (o : Nat) : Nat := if o = 2 then 12 else if 3 ≤ o ∧ o < 13 then o - 1 else o
def piL (k : Nat) : Nat := if k < 1 then k else if k < 28 then 1 + poL (k - 1) else if k < 55 then 28 + poL (k - 28) else k
theorem poL_inj {a b : Nat} (ha : a < 27) (hb : b < 27) (h : poL a = poL b) : a = b := by
  unfold poL at h
  split at h <;> split at h <;> (try split at h) <;> (try split at h) <;> omega
theorem poL_lt {a : Nat} (ha : a < 27) : poL a < 27 := by
  unfold poL
  split
  · omega
  · split <;> omega
theorem piL_inj {a b : Nat} (h : piL a = piL b) : a = b := by
  unfold piL at h
  have h1 : ∀ {x : Nat}, ¬ x < 1 → x < 28 → poL (x - 1) < 27 := fun h1 h2 => poL_lt (by omega)
  have h2 : ∀ {x : Nat}, ¬ x < 28 → x < 55 → poL (x - 28) < 27 := fun h1 h2 => poL_lt (by omega)
  by_cases a1 : a < 1
  · rw [if_pos a1] at h
    by_cases b1 : b < 1
    · omega
    · rw [if_neg b1] at h
      by_cases b2 : b < 28
      · rw [if_pos b2] at h; omega
      · rw [if_neg b2] at h
        by_cases b3 : b < 55
        · rw [if_pos b3] at h; omega
        · rw [if_neg b3] at h; omega
  · rw [if_neg a1] at h
    by_cases a2 : a < 28
    · rw [if_pos a2] at h
      have := h1 a1 a2
      by_cases b1 : b < 1
      · rw [if_pos b1] at h; omega
      · rw [if_neg b1] at h
        by_cases b2 : b < 28
        · rw [if_pos b2] at h
          have := poL_inj (a := a - 1) (b := b - 1) (by omega) (by omega) (by omega)
          omega
        · rw [if_neg b2] at h
          by_cases b3 : b < 55
          · rw [if_pos b3] at h; omega
          · rw [if_neg b3] at h; omega
    · rw [if_neg a2] at h
      by_cases a3 : a < 55
      · rw [if_pos a3] at h
        have := h2 a2 a3
        by_cases b1 : b < 1
        · rw [if_pos b1] at h; omega
        · rw [if_neg b1] at h
          by_cases b2 : b < 28
          · rw [if_pos b2] at h
            have := h1 b1 b2
            omega
          · rw [if_neg b2] at h
            by_cases b3 : b < 55
            · rw [if_pos b3] at h
              have := poL_inj (a := a - 28) (b := b - 28) (by omega) (by omega) (by omega)
              omega
            · rw [if_neg b3] at h; omega
      · rw [if_neg a3] at h
        by_cases b1 : b < 1
        · rw [if_pos b1] at h; omega
        · rw [if_neg b1] at h
          by_cases b2 : b < 28
          · rw [if_pos b2] at h
            have := h1 b1 b2
            omega
          · rw [if_neg b2] at h
            by_cases b3 : b < 55
            · rw [if_pos b3] at h
              have := h2 b2 b3
              omega
            · rw [if_neg b3] at h; exact h
/-- a world out of a list of cells -/
theorem wd_perm {D : va_G} {w : va_W} {H : Heap} {A : Nat → Prop} {n : Nat} {ad : Nat → Nat} {ct : Nat → va_E} (hP : va_P D vwCl w H) (hD : va_D A w) (hw : ∀ k, k < n → w[piL k]? = some (ad k, ct k)) : va_P D vwCl (wd n ad ct) H ∧ qI n ad ∧ ∀ k, k < n → A (ad k) := by
  refine ⟨fun k q hk => ?_, fun i j hi hj h => ?_, fun k hk => hD.2 _ _ (hw k hk)⟩
  · obtain ⟨h1, rfl⟩ := wd_of hk
    exact hP _ _ (hw k h1)
  · exact piL_inj (hD.1 _ _ _ _ (hw i hi) (hw j hj) h)
