/-! PART 84g: what the law's walk needs -/
theorem upd_low {g F : Nat → Int32} {k : Nat} {v : Int32} (h : ∀ j, j < k → g j = F j) (hv : v = F k) : ∀ j, j < k + 1 → upd g k v j = F j := fun j hj => by
  by_cases e : j = k
  · subst e; rw [pk_us]; exact hv
  · rw [pk_un e]; exact h j (by omega)
theorem i_cancel (a b : Int32) : a = b + (a - b) := by grind
theorem pass_wet {D : Nat} {S : QLs} (h : BD D S) : ∀ k, k < qp S → ∀ S2, S2 = itN sflowF k (itN sfeedF (qt S) S) → ¬ simF S2 k = 0 → ¬ qT S2 (qf S2 k) 3 = 0 := by
  intro k hk S2 e hn
  have e1 : itN sfeedF (qt S) S = itN feedF (qt S) S := itN_eq (qt S) (fun i hi => sfeed_eq (h.feed i (by omega)) (by rw [(shp_it (f := feedF) (fun _ _ => shp_sT) S i).1]; exact hi))
  have h1 := h.feed (qt S) (Nat.le_refl _)
  have hp : qp (itN feedF (qt S) S) = qp S := (shp_it (f := feedF) (fun _ _ => shp_sT) S _).2.1
  rw [e1, sflows_eq h1 k (by rw [hp]; omega)] at e
  have s2 := shp_it (f := flowF) (fun _ _ => shp_flow) (itN feedF (qt S) S) k
  have h2 : BD D S2 ∧ qp S2 = qp S := by
    rw [e]
    split
    · exact ⟨(h1.flow k (by rw [hp]; omega)).crust k (by rw [s2.2.1, hp]; omega), by rw [(shp_it (f := crustF) (fun _ _ => shp_crust) _ k).2.1, s2.2.1, hp]⟩
    · exact ⟨h1.flow k (by rw [hp]; omega), by rw [s2.2.1, hp]⟩
  have hk2 : k < qp S2 := by rw [h2.2]; exact hk
  rw [simF_eq h2.1 hk2] at hn
  exact flow_wet h2.1 hk2 hn
theorem day_D {D : Nat} {X : QLs} (h : Inv D X) (hD : D ≤ 1000) : qD (dayL X) = qD X + 1 := by
  obtain ⟨S3, -, -, e, -⟩ := day_dec h hD
  rw [e]; rfl
