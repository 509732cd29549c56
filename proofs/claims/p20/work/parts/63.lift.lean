/-! PART 63: the class's contracts over the law's world; contracts in larger rooms -/
theorem hasRoom_mono {s : State} {pl : Platform} {a b : Room} (h : s.hasRoom pl b = true) (h1 : a.frames ≤ b.frames) (h2 : a.cells ≤ b.cells) (h3 : a.slots ≤ b.slots) (h4 : a.locals ≤ b.locals) : s.hasRoom pl a = true := by
  simp only [State.hasRoom, Bool.and_eq_true, decide_eq_true_eq] at h ⊢
  obtain ⟨⟨⟨⟨hA, q1, q2, q3, q4, q5⟩, hC⟩, hD⟩, hE⟩ := h
  exact ⟨⟨⟨⟨by omega, by omega, by omega, by omega, by omega, q5⟩, by omega⟩, by omega⟩, hE⟩
theorem met_spec {l : Launch} {y : MethodName} {ws : List Cond} {rm rm2 : Room} {Pc : Array Value → State → Prop} {K : Program → Env → List Frame → State → Array Value → Prop} {Q Q2 : Array Value → State → Outcome → State → Prop} (h : MetFree l y (headSpec ws rm) Pc K Q) (h1 : rm.frames ≤ rm2.frames) (h2 : rm.cells ≤ rm2.cells) (h3 : rm.slots ≤ rm2.slots) (h4 : rm.locals ≤ rm2.locals) (hQ : ∀ a s o t, Q a s o t → Q2 a s o t) : MetFree l y (headSpec ws rm2) Pc K Q2 := fun p e ha hb hc s m args below hf hap hp hk => by
  obtain ⟨a1, a2, a3, a4, a5, a6, a7, a8⟩ := (Spec.appliesLoose_iff hf).mp hap
  obtain ⟨n, o, b1, b2, b3, b4⟩ := h p e ha hb hc s m args below hf ((Spec.appliesLoose_iff hf).mpr ⟨a1, a2, a3, a4, a5, a6, hasRoom_mono a7 h1 h2 h3 h4, a8⟩) hp hk
  exact ⟨n, o, b1, b2, b3, hQ _ _ _ _ b4⟩
section LIFT
variable {l : Launch} {y : MethodName} {ws : List Cond} {rm : Room} {z : QZ} {av : List Value} {mc ms : Nat} {ix : Nat → Nat} {t q b n : Nat} {X Y S : QLs} {f : Nat → Nat × (Nat → Int32)}
theorem u_out {ct ct2 : Nat → va_E} {τ : Nat → QLs} (h : UAt z ix t q b n (X, Y, S, f) ct) (hX : XAt z τ ct2) (hF : Fr 0 55 ct ct2) : UAt z ix t q b n (τ 0, τ 1, S, f) ct2 := by
  have h56 := h.2.1.1.1.2.2
  exact ⟨hX.cg (pr0 _ _) (pr1 _ _), h.2.1.off (Nat.le_refl _) (fun k h1 h2 => hF k (by omega)), fun j hj => by rw [hF _ (by omega)]; exact h.2.2 j hj⟩
/-- a call of the class, seen from the law's world: its two lands become τ 0, τ 1 -/
theorem kI {post : Int32 → (Nat → QLs) → Prop} {post2 : Int32 → US → Prop} (hM : GI l y ws rm z av mc ms (XAt z) 0 55 (va_up (fun _ => Y) 0 X) post) (hp : ∀ r τ, post r τ → post2 r (τ 0, τ 1, S, f)) : GI l y ws rm z av mc ms (UAt z ix t q b n) 0 (b + n) (X, Y, S, f) post2 := fun ct sz hn hq hat => by
  have h56 := hat.2.1.1.1.2.2
  refine met_spec (hM ct sz (by omega) hq hat.1) (Nat.le_refl _) (Nat.le_refl _) (Nat.le_refl _) (Nat.le_refl _) (fun a s o t q9 => ?_)
  obtain ⟨⟨⟨r, τ, hv, hpp, hb⟩, hF⟩, L, hE, hf⟩ := q9
  obtain ⟨ct2, g1, g2, g3, g4⟩ := hb
  exact ⟨⟨⟨r, _, hv, hp r τ hpp, ct2, g1, g2, u_out hat g3 g4, g4.wider (Nat.le_refl _) (by omega)⟩, hF⟩, L, hE, hf⟩
theorem kD {post : UInt64 → (Nat → QLs) → Prop} {post2 : UInt64 → US → Prop} (hM : GD l y ws rm z av mc ms (XAt z) 0 55 (va_up (fun _ => Y) 0 X) post) (hp : ∀ r τ, post r τ → post2 r (τ 0, τ 1, S, f)) : GD l y ws rm z av mc ms (UAt z ix t q b n) 0 (b + n) (X, Y, S, f) post2 := fun ct sz hn hq hat => by
  have h56 := hat.2.1.1.1.2.2
  refine met_spec (hM ct sz (by omega) hq hat.1) (Nat.le_refl _) (Nat.le_refl _) (Nat.le_refl _) (Nat.le_refl _) (fun a s o t q9 => ?_)
  obtain ⟨⟨⟨r, τ, hv, hpp, hb⟩, hF⟩, L, hE, hf⟩ := q9
  obtain ⟨ct2, g1, g2, g3, g4⟩ := hb
  exact ⟨⟨⟨r, _, hv, hp r τ hpp, ct2, g1, g2, u_out hat g3 g4, g4.wider (Nat.le_refl _) (by omega)⟩, hF⟩, L, hE, hf⟩
theorem k0 {r : Int32} {v : Int32} {X2 : QLs} {τ : Nat → QLs} (h : r = v ∧ τ = va_up (fun _ => Y) 0 X2) : r = v ∧ ((τ 0, τ 1, S, f) : US) = (X2, Y, S, f) := by
  obtain ⟨h1, rfl⟩ := h
  exact ⟨h1, by rw [va_up_self, va_up_ne _ _ (by decide : (1 : Nat) ≠ 0)]⟩
theorem k0d {r : UInt64} {v : UInt64} {X2 : QLs} {τ : Nat → QLs} (h : r = v ∧ τ = va_up (fun _ => Y) 0 X2) : r = v ∧ ((τ 0, τ 1, S, f) : US) = (X2, Y, S, f) := by
  obtain ⟨h1, rfl⟩ := h
  exact ⟨h1, by rw [va_up_self, va_up_ne _ _ (by decide : (1 : Nat) ≠ 0)]⟩
theorem k1 {r : Int32} {v : Int32} {τ : Nat → QLs} (h : r = v ∧ ∃ S2, τ = va_up (va_up (fun _ => Y) 0 X) 1 S2) : r = v ∧ ∃ Y2, ((τ 0, τ 1, S, f) : US) = (X, Y2, S, f) := by
  obtain ⟨h1, S2, rfl⟩ := h
  exact ⟨h1, S2, by rw [va_up_self, va_up_ne _ _ (by decide : (0 : Nat) ≠ 1), va_up_self]⟩
theorem k_build (hk : LOk X) (ht : qt X < 10) (x y v : Int32) (h9 : (0 ≤ x ∧ x ≤ 99) ∧ (0 ≤ y ∧ y ≤ 20) ∧ (0 ≤ v ∧ v ≤ 20)) : GI l yX1_build wsX1_build ({ frames := 2, cells := 0, slots := 0, locals := 43 } : Room) z [.ref (za z 0), .int x, .int y, .int v] 0 0 (UAt z ix t q b n) 0 (b + n) (X, Y, S, f) (fun r u => r = nI (qt X) ∧ u = (addT X x y v, Y, S, f)) :=
  kI (c_X1_build_ok l z _ X hk ht x y v h9) (fun _ _ h => k0 h)
theorem k_lay (hk : LOk X) (i : Nat) (hi : i < qt X) (j : Nat) (hj : j < qt X) (hp9 : qp X < 14) (hne : i ≠ j) (x y : Int32) (h9 : (1 ≤ x ∧ x ≤ 20) ∧ (0 ≤ y ∧ y ≤ 60)) : GI l yX1_lay wsX1_lay ({ frames := 2, cells := 0, slots := 0, locals := 41 } : Room) z [.ref (za z 0), .int (nI i), .int (nI j), .int x, .int y] 0 0 (UAt z ix t q b n) 0 (b + n) (X, Y, S, f) (fun r u => r = nI (qp X) ∧ u = (addP X (nI i) (nI j) x y, Y, S, f)) :=
  kI (c_X1_lay_ok l z _ X hk i hi j hj hp9 hne x y h9) (fun _ _ h => k0 h)
theorem k_set (hk : LOk X) (i : Nat) (hi : i < qt X) (x y : Int32) (h9 : (0 ≤ x ∧ x ≤ 20) ∧ (0 ≤ y ∧ y ≤ 20)) : GI l yX1_set wsX1_set ({ frames := 2, cells := 0, slots := 0, locals := 43 } : Room) z [.ref (za z 0), .int (nI i), .int x, .int y] 0 0 (UAt z ix t q b n) 0 (b + n) (X, Y, S, f) (fun r u => r = 100 * qT X i 1 + qT X i 2 ∧ u = (sT (sT X i (upd (qT X i) 1 x)) i (upd (qT (sT X i (upd (qT X i) 1 x)) i) 2 y), Y, S, f)) :=
  kI (c_X1_set_ok l z _ X hk i hi x y h9) (fun _ _ h => k0 h)
theorem k_flush (hk : LOk X) (i : Nat) (hi : i < qt X) : GI l yX1_flush wsX1_flush ({ frames := 2, cells := 0, slots := 0, locals := 41 } : Room) z [.ref (za z 0), .int (nI i)] 0 0 (UAt z ix t q b n) 0 (b + n) (X, Y, S, f) (fun r u => r = qT X i 4 ∧ u = (sT (sT X i (upd (qT X i) 4 0)) i (upd (qT (sT X i (upd (qT X i) 4 0)) i) 3 (qT (sT X i (upd (qT X i) 4 0)) i 3 / 2)), Y, S, f)) :=
  kI (c_X1_flush_ok l z _ X hk i hi) (fun _ _ h => k0 h)
theorem k_scrape (hk : LOk X) (i : Nat) (hi : i < qp X) : GI l yX1_scrape wsX1_scrape ({ frames := 2, cells := 0, slots := 0, locals := 41 } : Room) z [.ref (za z 0), .int (nI i)] 0 0 (UAt z ix t q b n) 0 (b + n) (X, Y, S, f) (fun r u => r = qP X i 4 ∧ u = (sP X i (upd (qP X i) 4 0), Y, S, f)) :=
  kI (c_X1_scrape_ok l z _ X hk i hi) (fun _ _ h => k0 h)
theorem k_steal (hk : LOk X) (i : Nat) (hi : i < qp X) (x : Int32) (h9 : 0 ≤ x ∧ x ≤ 9) : GI l yX1_steal wsX1_steal ({ frames := 2, cells := 0, slots := 0, locals := 41 } : Room) z [.ref (za z 0), .int (nI i), .int x] 0 0 (UAt z ix t q b n) 0 (b + n) (X, Y, S, f) (fun r u => r = qP X i 9 ∧ u = (sP X i (upd (qP X i) 9 x), Y, S, f)) :=
  kI (c_X1_steal_ok l z _ X hk i hi x h9) (fun _ _ h => k0 h)
theorem k_tank (hk : LOk X) (i : Nat) (hi : i < qt X) (k : Nat) (hk9 : k < 8) : GI l yX1_tank wsX1_tank ({ frames := 2, cells := 0, slots := 0, locals := 41 } : Room) z [.ref (za z 0), .int (nI i), .int (nI k)] 0 0 (UAt z ix t q b n) 0 (b + n) (X, Y, S, f) (fun r u => r = qT X i k ∧ u = (X, Y, S, f)) :=
  kI (c_X1_tank_ok l z _ X hk i hi k hk9) (fun _ _ h => k0 h)
theorem k_pipe (hk : LOk X) (i : Nat) (hi : i < qp X) (k : Nat) (hk9 : k < 9) : GI l yX1_pipe wsX1_pipe ({ frames := 3, cells := 0, slots := 0, locals := 68 } : Room) z [.ref (za z 0), .int (nI i), .int (nI k)] 0 0 (UAt z ix t q b n) 0 (b + n) (X, Y, S, f) (fun r u => r = ofPipeL X i k ∧ u = (X, Y, S, f)) :=
  kI (c_X1_pipe_ok l z _ X hk i hi k hk9) (fun _ _ h => k0 h)
theorem k_count (hk : LOk X) (k : Nat) (hk9 : k ≤ 8) : GI l yX1_count wsX1_count ({ frames := 3, cells := 0, slots := 0, locals := 64 } : Room) z [.ref (za z 0), .int (nI k)] 0 0 (UAt z ix t q b n) 0 (b + n) (X, Y, S, f) (fun r u => r = ofAllL X k ∧ u = (X, Y, S, f)) :=
  kI (c_X1_count_ok l z _ X hk k hk9) (fun _ _ h => k0 h)
theorem k_reach (hk : LOk X) (i : Nat) (hi : i < qt X) : GI l yX1_reach wsX1_reach ({ frames := 2, cells := 0, slots := 0, locals := 41 } : Room) z [.ref (za z 0), .int (nI i)] 0 0 (UAt z ix t q b n) 0 (b + n) (X, Y, S, f) (fun r u => r = reachL X (nI i) ∧ u = (X, Y, S, f)) :=
  kI (c_X1_reach_ok l z _ X hk i hi) (fun _ _ h => k0 h)
theorem k_suspect (hk : LOk X) : GI l yX1_suspect wsX1_suspect ({ frames := 0, cells := 0, slots := 0, locals := 0 } : Room) z [.ref (za z 0)] 0 0 (UAt z ix t q b n) 0 (b + n) (X, Y, S, f) (fun r u => r = (qsus X (qp X)).1 ∧ u = (X, Y, S, f)) :=
  kI (c_X1_suspect l z _ X hk) (fun _ _ h => k0 h)
theorem k_pass (hk : LOk X) (n9 : Nat) (h1 : 1 ≤ n9) (h2 : n9 ≤ 100) : GI l yX1_pass wsX1_pass ({ frames := 6, cells := 0, slots := 0, locals := 129 } : Room) z [.ref (za z 0), .int (nI n9)] 0 0 (UAt z ix t q b n) 0 (b + n) (X, Y, S, f) (fun r u => r = sumT (itN dayF n9 X) 6 - sumT X 6 ∧ u = (itN dayF n9 X, Y, S, f)) :=
  kI (c_X1_pass_ok l z _ X hk n9 h1 h2) (fun _ _ h => k0 h)
theorem k_foresee (hk : LOk X) (n9 : Nat) (h1 : 1 ≤ n9) (h2 : n9 ≤ 100) (k : Nat) (hk9 : k ≤ 3) : GI l yX1_foresee wsX1_foresee ({ frames := 6, cells := 0, slots := 0, locals := 129 } : Room) z [.ref (za z 0), .int (nI n9), .int (nI k)] 0 0 (UAt z ix t q b n) 0 (b + n) (X, Y, S, f) (fun r u => r = qfore X (copyL X Y) n9 k ∧ ∃ Y2, u = (X, Y2, S, f)) :=
  kI (c_X1_foresee_ok l z (fun _ => Y) X hk n9 h1 h2 k hk9) (fun _ _ h => k1 h)
theorem k_sated (hk : LOk X) (i : Nat) (hi : i < qt X) : GI l yX1_sated wsX1_sated ({ frames := 5, cells := 0, slots := 0, locals := 106 } : Room) z [.ref (za z 0), .int (nI i)] 0 0 (UAt z ix t q b n) 0 (b + n) (X, Y, S, f) (fun r u => r = qsatF (copyL X Y) i 100 0 ∧ ∃ Y2, u = (X, Y2, S, f)) :=
  kI (c_X1_sated_ok l z (fun _ => Y) X hk i hi) (fun _ _ h => k1 h)
theorem k_mean (hk : LOk X) : GD l yX1_mean wsX1_mean ({ frames := 1, cells := 0, slots := 0, locals := 23 } : Room) z [.ref (za z 0)] 0 0 (UAt z ix t q b n) 0 (b + n) (X, Y, S, f) (fun r u => r = qmean X ∧ u = (X, Y, S, f)) :=
  kD (c_X1_mean l z _ X hk) (fun _ _ h => k0d h)
end LIFT
