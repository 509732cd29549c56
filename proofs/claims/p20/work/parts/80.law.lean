/-! PART 80: what the law asks, of a day of the class's land -/
theorem Inv.day {D : Nat} {X : QLs} (h : Inv D X) (hD : D ≤ 1000) : Inv (D + 1) (dayL X) := by
  obtain ⟨S3, hB3, sh, e, -, -, -, h7, -⟩ := day_dec h hD
  obtain ⟨⟨M, hR⟩, hz, h8⟩ := h
  refine ⟨⟨_, (s_day hR (by omega)).1⟩, hz.ext (ext_day hR.1), fun i hi => ?_⟩
  have hi2 : i < qt X := by rw [← (shp_day X).1]; exact hi
  have e7 : qT (dayL X) i 7 = qT S3 i 7 := by
    rw [e]
    show qT (itN drinkF (qt X) S3) i 7 = _
    rw [(it_rows (g := drinkR) (S := S3) (qt X) i).trans (if_pos hi2), drinkR_v.2.2.2 7 (by decide) (by decide) (by decide)]
  rw [e7]
  have a := h7 i hi2
  have b := h8 i hi2
  omega
theorem fore_eq {D : Nat} {X Y : QLs} (h : Inv D X) (hD : D ≤ 1000) : qfore X (copyL X Y) 1 0 = sumT (dayL X) 6 - sumT X 6 ∧ qfore X (copyL X Y) 1 1 = sumP (dayL X) 7 - sumP X 7 ∧ qfore X (copyL X Y) 1 2 = sumT (dayL X) 3 ∧ qfore X (copyL X Y) 1 3 = sumP (dayL X) 4 := by
  obtain ⟨⟨M, hR⟩, -⟩ := h
  have hd := (s_day hR (by omega)).1
  have f := fun k => hR.fore (n := 1) (k := k) Y (by omega)
  have em : itN mdayF 1 M = mday M := rfl
  rw [← f, ← f, ← f, ← f]
  unfold mfore
  rw [em, if_pos rfl, if_neg (by decide), if_pos rfl, if_neg (by decide), if_neg (by decide), if_pos rfl, if_neg (by decide), if_neg (by decide), if_neg (by decide), hd.all (by decide), hd.all (by decide), hd.allP (by decide), hd.allP (by decide), hR.all (by decide), hR.allP (by decide)]
  exact ⟨rfl, rfl, rfl, rfl⟩
/-- nothing of the water is lost or made -/
theorem law_water {D : Nat} {X : QLs} (h : Inv D X) (hD : D ≤ 1000) : sumT X 3 + sumT X 1 = sumT (dayL X) 3 + (sumT (dayL X) 6 - sumT X 6) + (sumP (dayL X) 7 - sumP X 7) + sumT (dayL X) 7 - sumT X 7 := by
  obtain ⟨S3, hB3, sh, e, hE, -⟩ := day_dec h hD
  have hdr : ∀ m, m ≤ qt S3 → EE (itN drinkF m S3) = EE S3 := fun m => by
    induction m with
    | zero => intro _; rfl
    | succ m ih =>
      intro hm
      exact (EE_drink (S := itN drinkF m S3) (i := m) (by rw [(shp_it (f := drinkF) (fun _ _ => shp_sT) S3 m).1]; omega)).trans (ih (by omega))
  have e2 : EE (dayL X) = EE X + sumT X 1 := by
    rw [e]
    show EE (itN drinkF (qt X) S3) = _
    rw [hdr _ (by rw [sh.1]; exact Nat.le_refl _), hE]
  unfold EE at e2
  grind
theorem law_spilled {D : Nat} {X : QLs} (h : Inv D X) (hD : D ≤ 1000) : ¬ sumT (dayL X) 7 < sumT X 7 := by
  have h2 := h.day hD
  obtain ⟨S3, hB3, sh, e, -, -, -, h7, -⟩ := day_dec h hD
  have hk := h.ok.1
  have e7 : ∀ i, i < qt X → qT (dayL X) i 7 = qT S3 i 7 := fun i hi2 => by
    rw [e]
    show qT (itN drinkF (qt X) S3) i 7 = _
    rw [(it_rows (g := drinkR) (S := S3) (qt X) i).trans (if_pos hi2), drinkR_v.2.2.2 7 (by decide) (by decide) (by decide)]
  have q1 := qsum_i (f := fun i => qT X i 7) (B := 600000) (by omega) (qt X) (by omega) (fun i hi => by have := h.2.2 i hi; omega)
  have q2 := qsum_i (f := fun i => qT (dayL X) i 7) (B := 600000) (by omega) (qt X) (by omega) (fun i hi => by have := h2.2.2 i (by rw [(shp_day X).1]; exact hi); omega)
  have q3 : isum (fun i => (qT X i 7).toInt) (qt X) ≤ isum (fun i => (qT (dayL X) i 7).toInt) (qt X) := isum_le _ (fun i hi => by
    show (qT X i 7).toInt ≤ (qT (dayL X) i 7).toInt
    rw [e7 i hi]; exact (h7 i hi).1)
  rw [i_lt]
  unfold sumT
  rw [(shp_day X).1, q1, q2]
  omega
theorem law_mud {D : Nat} {X : QLs} (h : Inv D X) (hD : D ≤ 1000) : sumT (dayL X) 4 ≤ sumT X 4 + qsum (fun i => qT X i 1 / 4) (qt X) := by
  have h2 := h.day hD
  obtain ⟨S3, hB3, sh, e, -, hm, -⟩ := day_dec h hD
  have hk := h.ok.1
  have e4 : ∀ i, i < qt X → qT (dayL X) i 4 = qT S3 i 4 := fun i hi2 => by
    rw [e]
    show qT (itN drinkF (qt X) S3) i 4 = _
    rw [(it_rows (g := drinkR) (S := S3) (qt X) i).trans (if_pos hi2), drinkR_v.2.2.2 4 (by decide) (by decide) (by decide)]
  have q1 := qsum_i (f := fun i => qT X i 4) (B := 99) (by omega) (qt X) (by omega) (fun i hi => (h.bd.ti hi).2.2.2.2.1)
  have q2 := qsum_i (f := fun i => qT (dayL X) i 4) (B := 99) (by omega) (qt X) (by omega) (fun i hi => (h2.bd.ti (by rw [(shp_day X).1]; exact hi)).2.2.2.2.1)
  have q3 := qsum_i (f := fun i => qT X i 1 / 4) (B := 5) (by omega) (qt X) (by omega) (fun i hi => i_quart (h.bd.ti hi).2.1)
  have b1 := isum_b (f := fun i => (qT X i 4).toInt) (B := 99) (qt X) (fun i hi => (h.bd.ti hi).2.2.2.2.1)
  have b3 := isum_b (f := fun i => (qT X i 1 / 4).toInt) (B := 5) (qt X) (fun i hi => i_quart (h.bd.ti hi).2.1)
  have q4 : isum (fun i => (qT (dayL X) i 4).toInt) (qt X) = m4 S3 := by
    unfold m4
    rw [sh.1]
    exact isum_c _ (fun i hi => by rw [e4 i hi])
  have hsum : (sumT X 4 + qsum (fun i => qT X i 1 / 4) (qt X)).toInt = (sumT X 4).toInt + (qsum (fun i => qT X i 1 / 4) (qt X)).toInt := by
    unfold sumT
    apply i_add <;> rw [q1, q3] <;> omega
  rw [i_le, hsum]
  unfold sumT
  rw [(shp_day X).1, q1, q2, q3, q4]
  unfold m4 at hm ⊢
  rw [sh.1] at hm ⊢
  exact hm
/-- the tanks behind a day -/
theorem law_tank {D : Nat} {X : QLs} (h : Inv D X) (hD : D ≤ 1000) {i : Nat} (hi : i < qt X) : 0 ≤ qT (dayL X) i 5 ∧ (qT (dayL X) i 5 ≤ if qT (dayL X) i 4 < 50 then qT (dayL X) i 2 else qT (dayL X) i 2 / 2) ∧ ((qT (dayL X) i 5 < if qT (dayL X) i 4 < 50 then qT (dayL X) i 2 else qT (dayL X) i 2 / 2) → qT (dayL X) i 3 = 0) ∧ qT (dayL X) i 6 = qT X i 6 + qT (dayL X) i 5 ∧ (0 ≤ qT (dayL X) i 3 ∧ qT (dayL X) i 3 ≤ 200) ∧ (0 ≤ qT (dayL X) i 4 ∧ qT (dayL X) i 4 ≤ 99) ∧ qT (dayL X) i 5 ≤ qT (dayL X) i 2 ∧ qT (dayL X) i 2 = qT X i 2 := by
  have h2 := h.day hD
  have hT2 := h2.bd.ti (i := i) (by rw [(shp_day X).1]; exact hi)
  have h5 : (qT (dayL X) i 5).toInt ≤ (qT (dayL X) i 2).toInt := by
    obtain ⟨⟨M, hR⟩, -⟩ := h
    exact (s_day hR (by omega)).2 i hi
  obtain ⟨S3, hB3, sh, e, -, -, hk, -, -⟩ := day_dec h hD
  have hT := hB3.ti (i := i) (by rw [sh.1]; exact hi)
  have er : qT (dayL X) i = drinkR (qT S3 i) := by
    rw [e]
    exact (it_rows (g := drinkR) (S := S3) (qt X) i).trans (if_pos hi)
  obtain ⟨v3, v6, v5, vo⟩ := drinkR_v (r := qT S3 i)
  have v4 := vo 4 (by decide) (by decide) (by decide)
  have v2 := vo 2 (by decide) (by decide) (by decide)
  rw [← er] at v3 v6 v5 v4 v2
  rw [← v4, ← v2] at v5
  have k := hk i hi
  obtain ⟨g, eg⟩ : ∃ g, g = (if qT (dayL X) i 4 < 50 then qT (dayL X) i 2 else qT (dayL X) i 2 / 2) := ⟨_, rfl⟩
  have hg : 0 ≤ g.toInt := by
    rw [eg]
    split
    · exact hT2.2.2.1.1
    · rw [i_div hT2.2.2.1.1 (by decide), show (2 : Int32).toInt = 2 by decide]; have := hT2.2.2.1.1; omega
  rw [← eg] at v5 ⊢
  have w := i_mn g (qT S3 i 3)
  rw [← v5] at w
  have w3 := hT.2.2.2.1
  refine ⟨by rw [i_le, i_0]; omega, by rw [i_le]; omega, fun hlt => ?_, by rw [v6, k.2.2.2], ⟨by rw [i_le, i_0]; exact hT2.2.2.2.1.1, by rw [i_le, i_200]; exact hT2.2.2.2.1.2⟩, ⟨by rw [i_le, i_0]; exact hT2.2.2.2.2.1.1, by rw [i_le, i_99]; exact hT2.2.2.2.2.1.2⟩, i_le.mpr h5, by rw [v2, k.2.2.1]⟩
  have hlt' := i_lt.mp hlt
  have e5 : qT (dayL X) i 5 = qT S3 i 3 := i_eq (by omega)
  rw [v3, e5]
  grind
/-- the pipes behind a day -/
theorem law_pipe {D : Nat} {X : QLs} (h : Inv D X) (hD : D ≤ 1000) {k : Nat} (hk : k < qp X) : 0 ≤ qP (dayL X) k 5 ∧ qP (dayL X) k 5 ≤ qmax 0 (qP (dayL X) k 2 - qP X k 4) ∧ 0 ≤ qP (dayL X) k 6 ∧ qP (dayL X) k 6 ≤ qP (dayL X) k 5 ∧ (qD X - qD X / 4 * 4 = 0 → 0 < qP (dayL X) k 5 → qP (dayL X) k 4 = qmin 20 (qP X k 4 + 1)) ∧ ((¬ qD X - qD X / 4 * 4 = 0 ∨ ¬ 0 < qP (dayL X) k 5) → qP (dayL X) k 4 = qmin 20 (qP X k 4 + 0)) ∧ qP (dayL X) k 7 = qP X k 7 + qP (dayL X) k 6 ∧ qP (dayL X) k 0 = qP X k 0 := by
  obtain ⟨S3, hB3, sh, e, -, -, -, -, hp⟩ := day_dec h hD
  have hP := h.bd.pi hk
  obtain ⟨x, hx, hx2, e3⟩ := hp k hk
  have ep : qP (dayL X) k = qP S3 k := by
    rw [e]
    show qP (itN drinkF (qt X) S3) k = _
    rw [(it_P0 (g := drinkR) (S := S3) (qt X)).1]
  rw [ep]
  obtain ⟨y, ey⟩ : ∃ y, y = qmin (qP X k 9) x := ⟨_, rfl⟩
  rw [← ey] at e3
  have hy : 0 ≤ y.toInt ∧ y.toInt ≤ x.toInt := by
    have hp9 := hP.2.2.2
    rw [ey, i_mn]; omega
  obtain ⟨p5, p6, p7, po⟩ := flowP_r (p := qP X k) (x := x) (y := y)
  have p4 := po 4 (by decide) (by decide) (by decide)
  have p2 := po 2 (by decide) (by decide) (by decide)
  have p0 := po 0 (by decide) (by decide) (by decide)
  have hc4 := hP.2.2.1
  have e20 : qmin 20 (qP X k 4 + 0) = qP X k 4 := by rw [add0]; exact i_eq (by rw [i_mn, i_20]; omega)
  have cr : ∀ a, a ≠ 4 → crR (flowP (qP X k) x y) a = flowP (qP X k) x y a := fun a ha => by
    unfold crR; split
    · rfl
    · rw [pk_un ha]
  have g : ∀ a, a ≠ 4 → qP S3 k a = flowP (qP X k) x y a := fun a ha => by
    rw [e3]; split
    · exact cr a ha
    · rfl
  have g4 : qP S3 k 4 = if qD X - qD X / 4 * 4 = 0 then (if x ≤ 0 then qP X k 4 else qmin 20 (qP X k 4 + 1)) else qP X k 4 := by
    rw [e3]
    split
    · unfold crR
      rw [p5]
      split
      · exact p4
      · rw [pk_us, p4]
    · exact p4
  rw [g 5 (by decide), g 6 (by decide), g 7 (by decide), g 2 (by decide), g 0 (by decide), p5, p6, p7, p2, p0, g4]
  refine ⟨by rw [i_le, i_0]; exact hx.1, hx2, by rw [i_le, i_0]; exact hy.1, i_le.mpr hy.2, fun c1 c2 => ?_, fun c => ?_, rfl, rfl⟩
  · have c2' : ¬ x ≤ 0 := fun q => by have := i_le.mp q; have := i_lt.mp c2; omega
    rw [if_pos c1, if_neg c2']
  · rw [e20]
    rcases c with c | c
    · rw [if_neg c]
    · have c2' : x ≤ 0 := by have := i_nlt c; rw [i_0] at this; rw [i_le, i_0]; omega
      rw [if_pos c2']
      split <;> rfl
theorem law_sums {D : Nat} {X : QLs} (h : Inv D X) (hD : D ≤ 1000) : qsum (fun i => qT (dayL X) i 5) (qt X) = sumT (dayL X) 6 - sumT X 6 ∧ qsum (fun k => qP (dayL X) k 6) (qp X) = sumP (dayL X) 7 - sumP X 7 := by
  refine ⟨?_, ?_⟩
  · have e : sumT (dayL X) 6 = sumT X 6 + qsum (fun i => qT (dayL X) i 5) (qt X) := by
      unfold sumT
      rw [(shp_day X).1, ← qsum_add]
      exact qsum_c _ (fun i hi => (law_tank h hD hi).2.2.2.1)
    rw [e]; grind
  · have e : sumP (dayL X) 7 = sumP X 7 + qsum (fun k => qP (dayL X) k 6) (qp X) := by
      unfold sumP
      rw [(shp_day X).2.1, ← qsum_add]
      exact qsum_c _ (fun k hk => (law_pipe h hD hk).2.2.2.2.2.2.1)
    rw [e]; grind
/-! when a fountain gets all of its thirst -/
def sat (X : QLs) (t : Nat) : Int32 := qsatF X t 100 0
theorem sat_eq {D : Nat} {X Y : QLs} (h : Inv D X) (hD : D ≤ 1000) {t : Nat} (ht : t < qt X) : qsatF (copyL X Y) t 100 0 = sat X t := by
  obtain ⟨⟨M, hR⟩, -⟩ := h
  rw [← (hR.copy Y).sat (by rw [(cpy_all X Y).1]; exact ht) 100 0 (by omega), hR.sat ht 100 0 (by omega)]
  rfl
theorem itN_day (X : QLs) : ∀ j, itN dayF (j + 1) X = itN dayF j (dayL X)
  | 0 => rfl
  | j + 1 => by
    show dayL (itN dayF (j + 1) X) = dayL (itN dayF j (dayL X))
    rw [itN_day X j]
theorem qsat_shift (X : QLs) (t : Nat) : ∀ d j, j + d < 1000 → (qsatF X t d (j + 1) = -1 ∧ qsatF (dayL X) t d j = -1) ∨ ∃ e, j < e ∧ e ≤ j + d ∧ qsatF X t d (j + 1) = nI (e + 1) ∧ qsatF (dayL X) t d j = nI e
  | 0, j, _ => Or.inl ⟨rfl, rfl⟩
  | d + 1, j, hd => by
    by_cases c : qT (dayL (itN dayF j (dayL X))) t 5 < qT (dayL (itN dayF j (dayL X))) t 2
    · rw [qsat_p (C := dayL X) c, qsat_p (C := X) (by rw [itN_day]; exact c)]
      rcases qsat_shift X t d (j + 1) (by omega) with h | ⟨e, h1, h2, h3, h4⟩
      · exact Or.inl h
      · exact Or.inr ⟨e, by omega, by omega, h3, h4⟩
    · rw [qsat_n (C := dayL X) c, qsat_n (C := X) (by rw [itN_day]; exact c)]
      exact Or.inr ⟨j + 1, by omega, by omega, rfl, rfl⟩
theorem qsat_more {C : QLs} {t : Nat} : ∀ d j e, j + d < 1000 → 0 < e → e < 1000 → qsatF C t d j = nI e → qsatF C t (d + 1) j = nI e
  | 0, j, e, _, h0, h9, h => by
    have h : (-1 : Int32) = nI e := h
    have := nI_toInt (n := e) (by omega)
    rw [← h, show (-1 : Int32).toInt = -1 by decide] at this
    omega
  | d + 1, j, e, hj, h0, h9, h => by
    by_cases c : qT (dayL (itN dayF j C)) t 5 < qT (dayL (itN dayF j C)) t 2
    · rw [qsat_p c] at h ⊢
      exact qsat_more d (j + 1) e (by omega) h0 h9 h
    · rw [qsat_n c] at h ⊢
      exact h
theorem law_sat {D : Nat} {X : QLs} (h : Inv D X) (hD : D ≤ 1000) {t : Nat} (ht : t < qt X) : (sat X t = 1 ↔ qT (dayL X) t 5 = qT (dayL X) t 2) ∧ (1 < sat X t → sat (dayL X) t = sat X t - 1) := by
  have h5 := (law_tank h hD ht).2.2.2.2.2.2.1
  have h5' := i_le.mp h5
  have e1 : (-1 : Int32).toInt = -1 := by decide
  unfold sat
  by_cases c : qT (dayL X) t 5 < qT (dayL X) t 2
  · have c' := i_lt.mp c
    have e9 : qsatF X t 100 0 = qsatF X t 99 1 := qsat_p (C := X) (j := 0) (d := 99) c
    rw [e9]
    have ne : ¬ qT (dayL X) t 5 = qT (dayL X) t 2 := fun q => by rw [q] at c'; omega
    rcases qsat_shift X t 99 0 (by omega) with ⟨a1, a2⟩ | ⟨e, a1, a2, a3, a4⟩
    · rw [a1]
      refine ⟨⟨fun q => absurd q (by decide), fun q => absurd q ne⟩, fun q => absurd q (by decide)⟩
    · rw [a3]
      refine ⟨⟨fun q => ?_, fun q => absurd q ne⟩, fun _ => ?_⟩
      · have := congrArg Int32.toInt q
        rw [nI_toInt (by omega), i_1] at this
        omega
      · rw [nI_pred]
        exact qsat_more 99 0 e (by omega) a1 (by omega) a4
  · have e9 : qsatF X t 100 0 = nI 1 := qsat_n (C := X) (j := 0) (d := 99) c
    have c' := i_nlt c
    rw [e9]
    refine ⟨⟨fun _ => i_eq (by omega), fun _ => rfl⟩, fun q => absurd q (by decide)⟩
/-! all pipes from where a tank's water comes lead there -/
theorem law_reach {D : Nat} {X : QLs} (h : Inv D X) {k : Nat} (hk : k < qt X) {p : Nat} (hp : p < qp X) : (qP X p 0 = nI k ∨ (reachL X (nI k) >>> (qP X p 0 &&& 31)) &&& 1 = 1) → ¬ (reachL X (nI k) >>> (qP X p 1 &&& 31)) &&& 1 = 0 := by
  have hok := h.ok
  obtain ⟨b1, b2, b3, b4, b5⟩ := hok.2.2 p hp
  have h10 := hok.1
  obtain ⟨R, eR⟩ : ∃ R, R = reachL X (nI k) := ⟨_, rfl⟩
  rw [← eR, b4, b5, tb_shr R (by omega)]
  intro hc hz
  have hfix : itN (rStep X (nI k)) (qp X) R = R := by
    have := reach_fix hok (nI k)
    have e2 : itN (fun _ r => rRound X (nI k) r) (qt X + 1) 0 = rRound X (nI k) (itN (fun _ r => rRound X (nI k) r) (qt X) 0) := rfl
    rw [e2] at this
    have e3 : itN (fun _ r => rRound X (nI k) r) (qt X) 0 = R := by rw [eR]; rfl
    rw [e3] at this
    exact this
  have hup : ∀ m, p < m → m ≤ qp X → tb (itN (rStep X (nI k)) m R) (qo X p) = true := fun m => by
    induction m with
    | zero => intro h1; omega
    | succ m ih =>
      intro h1 h2
      have hg := gb_step hok (x := nI k) (r := itN (rStep X (nI k)) m R) (k := m) (by omega)
      by_cases e : p = m
      · subst e
        show tb (rStep X (nI k) p (itN (rStep X (nI k)) p R)) (qo X p) = true
        have hb := (gb_round hok (nI k) R p (by omega)).1
        have hor : tb (itN (rStep X (nI k)) p R ||| (1 <<< (qP X p 1 &&& 31))) (qo X p) = true := by
          rw [b5, tb_or _ (by omega)]; simp
        rcases hc with hc | hc
        · rw [rStep_a (by rw [b4]; exact hc)]; exact hor
        · by_cases c0 : qP X p 0 = nI k
          · rw [rStep_a c0]; exact hor
          · have hf := hb _ hc
            have cn : ¬ itN (rStep X (nI k)) p R &&& (1 <<< (qP X p 0 &&& 31)) = 0 := fun q => by
              rw [b4, tb_and _ (by omega)] at q
              rw [q] at hf; cases hf
            rw [rStep_c c0 cn]; exact hor
      · exact hg.1 _ (ih (by omega) (by omega))
  have h1 := hup (qp X) hp (Nat.le_refl _)
  rw [hfix] at h1
  rw [(tb_shr R (by omega)).mpr h1] at hz
  exact absurd hz (by decide)
/-! the suspect -/
def qmx (f : Nat → Int32) : Nat → Int32
  | 0 => 0
  | n + 1 => qmax (qmx f n) (f n)
theorem sus_mx (X : QLs) : ∀ n, n < 1000 → (qsus X n).2 = qmx (fun k => qP X k 6) n ∧ (((qsus X n).1 = -1 ∧ qmx (fun k => qP X k 6) n = 0 ∧ ∀ i, i < n → qP X i 6 ≤ 0) ∨ ∃ j, j < n ∧ (qsus X n).1 = nI j ∧ qP X j 6 = qmx (fun k => qP X k 6) n ∧ 0 < qP X j 6 ∧ (∀ i, i < n → qP X i 6 ≤ qP X j 6) ∧ ∀ i, i < j → qP X i 6 < qP X j 6)
  | 0, _ => ⟨rfl, Or.inl ⟨rfl, rfl, fun i hi => by omega⟩⟩
  | n + 1, hn => by
    obtain ⟨h1, h2⟩ := sus_mx X n (by omega)
    have e : qmx (fun k => qP X k 6) (n + 1) = if qmx (fun k => qP X k 6) n < qP X n 6 then qP X n 6 else qmx (fun k => qP X k 6) n := rfl
    have es : qsus X (n + 1) = if qP X n 6 ≤ (qsus X n).2 then qsus X n else (nI n, qP X n 6) := rfl
    by_cases c : qP X n 6 ≤ (qsus X n).2
    · have c2 : ¬ qmx (fun k => qP X k 6) n < qP X n 6 := by rw [← h1]; exact Int32.not_lt.mpr c
      rw [es, if_pos c, e, if_neg c2]
      refine ⟨h1, ?_⟩
      rcases h2 with ⟨a1, a2, a3⟩ | ⟨j, a1, a2, a3, a4, a5, a6⟩
      · refine Or.inl ⟨a1, a2, fun i hi => ?_⟩
        by_cases e9 : i = n
        · subst e9; rw [h1, a2] at c; exact c
        · exact a3 i (by omega)
      · refine Or.inr ⟨j, by omega, a2, a3, a4, fun i hi => ?_, a6⟩
        by_cases e9 : i = n
        · subst e9; rw [h1, ← a3] at c; exact c
        · exact a5 i (by omega)
    · have c2 : qmx (fun k => qP X k 6) n < qP X n 6 := by rw [← h1]; exact Int32.not_le.mp c
      rw [es, if_neg c, e, if_pos c2]
      refine ⟨rfl, Or.inr ⟨n, by omega, rfl, rfl, ?_, fun i hi => ?_, fun i hi => ?_⟩⟩
      · rcases h2 with ⟨a1, a2, a3⟩ | ⟨j, a1, a2, a3, a4, a5, a6⟩
        · rw [a2] at c2; exact c2
        · have := i_lt.mp c2; have := i_lt.mp a4; rw [a3] at this; rw [i_0] at this; rw [i_lt, i_0]; omega
      · by_cases e9 : i = n
        · subst e9; rw [i_le]; omega
        · rcases h2 with ⟨a1, a2, a3⟩ | ⟨j, a1, a2, a3, a4, a5, a6⟩
          · have := i_le.mp (a3 i (by omega)); have := i_lt.mp c2; rw [a2] at this; rw [i_le]; omega
          · have := i_le.mp (a5 i (by omega)); have := i_lt.mp c2; rw [← a3] at this; rw [i_le]; omega
      · rcases h2 with ⟨a1, a2, a3⟩ | ⟨j, a1, a2, a3, a4, a5, a6⟩
        · have := i_le.mp (a3 i (by omega)); have := i_lt.mp c2; rw [a2] at this; rw [i_lt]; omega
        · have := i_le.mp (a5 i (by omega)); have := i_lt.mp c2; rw [← a3] at this; rw [i_lt]; omega
