/-! PART 37: foresee, advise, sated -/
theorem q_c01 {α : Type} {f : Nat → α} {x y : α} : va_up (va_up f 0 x) 1 y = va_up (va_up f 1 y) 0 x := by
  funext k
  by_cases h0 : k = 0
  · subst h0; rw [va_up_ne _ _ (by decide), va_up_self, va_up_self]
  · by_cases h1 : k = 1
    · subst h1; rw [va_up_self, va_up_ne _ _ (by decide), va_up_self]
    · rw [va_up_ne _ _ h1, va_up_ne _ _ h0, va_up_ne _ _ h0, va_up_ne _ _ h1]
theorem q_c10 {α : Type} {f : Nat → α} {x y : α} : va_up (va_up f 1 y) 0 x = va_up (va_up f 0 x) 1 y := q_c01.symm
theorem q_start (σ : Nat → QLs) (S : QLs) : va_up σ 0 S = va_up (va_up σ 0 S) 1 (σ 1) := by
  funext k
  by_cases h1 : k = 1
  · subst h1; rw [va_up_self, va_up_ne _ _ (by decide)]
  · rw [va_up_ne _ _ h1]
theorem cpT_r (S0 X : QLs) : ∀ n, (∀ i, i < n → qT (itN (cpTF S0) n X) i = qT S0 i) ∧ qP (itN (cpTF S0) n X) = qP X ∧ qD (itN (cpTF S0) n X) = qD X
  | 0 => ⟨fun i hi => by omega, rfl, rfl⟩
  | n + 1 => by
    obtain ⟨h1, h2, h3⟩ := cpT_r S0 X n
    refine ⟨fun i hi => ?_, h2, h3⟩
    show qT (sT (itN (cpTF S0) n X) n (qT S0 n)) i = _
    by_cases e : i = n
    · subst e; rw [qT_sT]
    · rw [qT_sTn _ _ e]; exact h1 i (by omega)
theorem cpP_r (S0 X : QLs) : ∀ n, (∀ i, i < n → qP (itN (cpPF S0) n X) i = qP S0 i) ∧ qT (itN (cpPF S0) n X) = qT X ∧ qD (itN (cpPF S0) n X) = qD X
  | 0 => ⟨fun i hi => by omega, rfl, rfl⟩
  | n + 1 => by
    obtain ⟨h1, h2, h3⟩ := cpP_r S0 X n
    refine ⟨fun i hi => ?_, h2, h3⟩
    show qP (sP (itN (cpPF S0) n X) n (qP S0 n)) i = _
    by_cases e : i = n
    · subst e; rw [qP_sP]
    · rw [qP_sPn _ _ e]; exact h1 i (by omega)
theorem cpy_all (S X : QLs) : qt (copyL S X) = qt S ∧ qp (copyL S X) = qp S ∧ qD (copyL S X) = qD S ∧ (∀ i, i < qt S → qT (copyL S X) i = qT S i) ∧ (∀ i, i < qp S → qP (copyL S X) i = qP S i) := by
  unfold copyL
  obtain ⟨a1, a2, a3⟩ := cpP_r S (itN (cpTF S) (qt S) (sp_ (st_ (sD X (qD S)) (qt S)) (qp S))) (qp S)
  obtain ⟨b1, b2, b3⟩ := cpT_r S (sp_ (st_ (sD X (qD S)) (qt S)) (qp S)) (qt S)
  obtain ⟨c1, c2⟩ := cpP_t S (itN (cpTF S) (qt S) (sp_ (st_ (sD X (qD S)) (qt S)) (qp S))) (qp S)
  obtain ⟨d1, d2⟩ := cpT_t S (sp_ (st_ (sD X (qD S)) (qt S)) (qp S)) (qt S)
  exact ⟨c1.trans d1, c2.trans d2, a3.trans b3, fun i hi => by rw [a2]; exact b1 i hi, a1⟩
theorem lok_copy {S : QLs} (hk : LOk S) (X : QLs) : LOk (copyL S X) := by
  obtain ⟨h1, h2, h3, h4, h5⟩ := cpy_all S X
  obtain ⟨k1, k2, k3⟩ := hk
  refine ⟨by rw [h1]; exact k1, by rw [h2]; exact k2, fun k hk => ?_⟩
  rw [h2] at hk
  have e0 : qf (copyL S X) k = qf S k := by unfold qf; rw [h5 k hk]
  have e1 : qo (copyL S X) k = qo S k := by unfold qo; rw [h5 k hk]
  rw [e0, e1, h1, h5 k hk]
  exact k3 k hk
def qfore (S C : QLs) (n k : Nat) : Int32 :=
  if k = 0 then sumT (itN dayF n C) 6 - sumT C 6 else if k = 1 then sumP (itN dayF n C) 7 - sumP S 7 else if k = 2 then sumT (itN dayF n C) 3 else sumP (itN dayF n C) 4
def qadvC (S X : QLs) (i : Nat) : QLs := sP (copyL S X) i (upd (qP (copyL S X) i) 4 0)
def qadvF (S : QLs) (n : Nat) (X0 : QLs) : Nat → Int32 × Int32 × QLs
  | 0 => (-1, sumT (itN dayF n (copyL S X0)) 6 - sumT (copyL S X0) 6, itN dayF n (copyL S X0))
  | i + 1 => if sumT (itN dayF n (qadvC S (qadvF S n X0 i).2.2 i)) 6 - sumT (qadvC S (qadvF S n X0 i).2.2 i) 6 ≤ (qadvF S n X0 i).2.1 then ((qadvF S n X0 i).1, (qadvF S n X0 i).2.1, itN dayF n (qadvC S (qadvF S n X0 i).2.2 i)) else (nI i, sumT (itN dayF n (qadvC S (qadvF S n X0 i).2.2 i)) 6 - sumT (qadvC S (qadvF S n X0 i).2.2 i) 6, itN dayF n (qadvC S (qadvF S n X0 i).2.2 i))
def qsatF (C : QLs) (t : Nat) : Nat → Nat → Int32
  | 0, _ => -1
  | d + 1, j => if qT (dayL (itN dayF j C)) t 5 < qT (dayL (itN dayF j C)) t 2 then qsatF C t d (j + 1) else nI (j + 1)
theorem qsat_p {C : QLs} {t d j : Nat} (h : qT (dayL (itN dayF j C)) t 5 < qT (dayL (itN dayF j C)) t 2) : qsatF C t (d + 1) j = qsatF C t d (j + 1) := if_pos h
theorem qsat_n {C : QLs} {t d j : Nat} (h : ¬ qT (dayL (itN dayF j C)) t 5 < qT (dayL (itN dayF j C)) t 2) : qsatF C t (d + 1) j = nI (j + 1) := if_neg h
set_option maxHeartbeats 4000000 in
set_option maxRecDepth 100000 in
theorem c_X1_foresee_ok (l : Launch) (z : QZ) (σ : Nat → QLs) (S : QLs) (hk : LOk S) (n : Nat) (h1 : 1 ≤ n) (h2 : n ≤ 100) (k : Nat) (hk9 : k ≤ 3) : GI l yX1_foresee wsX1_foresee ({ frames := 6, cells := 0, slots := 0, locals := 129 } : Room) z [.ref (za z 0), .int (nI n), .int (nI k)] 0 0 (XAt z) 0 55 (va_up σ 0 S) (fun r σ' => r = qfore S (copyL S (σ 1)) n k ∧ ∃ S2, σ' = va_up (va_up σ 0 S) 1 S2) := by
  intro ct sz hn hq hat
  refine q_entry (lo := 0) (cc := cX1_foresee) (maxL := 4) (ret := (some .int)) (by decide) rfl (Nat.le_of_ble_eq_true rfl) hn hq hat ?_
  intro p e s m below meth c ls C0 hK hsz h hl
  subst hsz
  obtain ⟨hx, hb, hr, hml, hown, hts, hlocks⟩ := id C0
  have hB : 0 < 2 := by decide
  have hin1 : ∀ w ∈ u_ws RX1 TX1 2, w ∈ wsX1_foresee := by decide +kernel
  have hl : lv_has ls 4 [(0, .ref (za z 0)), (1, .int (nI n)), (2, .int (nI k))] := hl
  have hk1 := hk.1
  have hk2 := hk.2.1
  refine lv_iload_n hx hb dX1_foresee_0 rfl (lv_at hl 1 rfl) ?_
  refine lv_iconst (v := 1) hx hb dX1_foresee_1 (by decide) ?_
  refine lv_bipush (v := 100) hx hb dX1_foresee_2 (by decide) ?_
  refine S_callSi C0 hK h (c_X1_isWithin l z σ S (nI n) 1 100) (va_cwS 3 hts gX1_foresee_X1_isWithin rfl rfl rfl (by decide +kernel) ⟨Nat.le_of_ble_eq_true rfl, Nat.le_of_ble_eq_true rfl⟩) rfl hl.1 (rest := []) rfl (Nat.le_of_ble_eq_true rfl) ⟨Nat.le_of_ble_eq_true rfl, Nat.le_of_ble_eq_true rfl⟩ dX1_foresee_4 (fun r u H locs hp h => ?_)
  obtain ⟨hr9, hu9⟩ := hp
  have hr9 := hr9.trans (if_pos (q_rng (k := n) 1 100 rfl rfl))
  subst hr9
  rw [hu9] at h
  refine S_callSv C0 hK h (c_X1_needArgument_ok l z σ S) (va_cwS 1 hts gX1_foresee_X1_needArgument rfl rfl rfl (by decide +kernel) ⟨Nat.le_of_ble_eq_true rfl, Nat.le_of_ble_eq_true rfl⟩) rfl hl.1 (rest := []) rfl (Nat.le_of_ble_eq_true rfl) ⟨Nat.le_of_ble_eq_true rfl, Nat.le_of_ble_eq_true rfl⟩ dX1_foresee_7 (fun u H locs hp h => ?_)
  rw [hp] at h
  refine lv_iload_n hx hb dX1_foresee_10 rfl (lv_at hl 2 rfl) ?_
  refine lv_iconst (v := 0) hx hb dX1_foresee_11 (by decide) ?_
  refine lv_iconst (v := 3) hx hb dX1_foresee_12 (by decide) ?_
  refine S_callSi C0 hK h (c_X1_isWithin l z σ S (nI k) 0 3) (va_cwS 3 hts gX1_foresee_X1_isWithin rfl rfl rfl (by decide +kernel) ⟨Nat.le_of_ble_eq_true rfl, Nat.le_of_ble_eq_true rfl⟩) rfl hl.1 (rest := []) rfl (Nat.le_of_ble_eq_true rfl) ⟨Nat.le_of_ble_eq_true rfl, Nat.le_of_ble_eq_true rfl⟩ dX1_foresee_13 (fun r u H locs hp h => ?_)
  obtain ⟨hr9, hu9⟩ := hp
  have hr9 := hr9.trans (if_pos (q_rng (k := k) 0 3 rfl rfl))
  subst hr9
  rw [hu9] at h
  refine S_callSv C0 hK h (c_X1_needIndex_ok l z σ S) (va_cwS 1 hts gX1_foresee_X1_needIndex rfl rfl rfl (by decide +kernel) ⟨Nat.le_of_ble_eq_true rfl, Nat.le_of_ble_eq_true rfl⟩) rfl hl.1 (rest := []) rfl (Nat.le_of_ble_eq_true rfl) ⟨Nat.le_of_ble_eq_true rfl, Nat.le_of_ble_eq_true rfl⟩ dX1_foresee_16 (fun u H locs hp h => ?_)
  rw [hp] at h
  refine lv_aload_n hx hb dX1_foresee_19 rfl (lv_at hl 0 rfl) ?_
  refine X_gO C0 hK h hin1 1 (by decide) (by decide +kernel) dX1_foresee_20 ?_
  refine lv_aload_n hx hb dX1_foresee_23 rfl (lv_at hl 0 rfl) ?_
  refine X_gO C0 hK h hin1 0 (by decide) (by decide +kernel) dX1_foresee_24 ?_
  rw [q_start σ S] at h
  refine S_callVv C0 hK h (c_X0_copyFrom l z (va_up σ 0 S) (σ 1) (by rw [va_up_self]; exact hk1) (by rw [va_up_self]; exact hk2)) (cwV 1 hts gX1_foresee_X0_copyFrom rfl rfl rfl (by decide +kernel) ⟨Nat.le_of_ble_eq_true rfl, Nat.le_of_ble_eq_true rfl⟩) (k := 1 + 27 * 1) (ci := 0) (by omega) (fun ct hA => (hA.2 1 (by decide)).1) rfl rfl rfl hl.1 (rest := []) rfl (Nat.le_of_ble_eq_true rfl) ⟨Nat.le_of_ble_eq_true rfl, Nat.le_of_ble_eq_true rfl⟩ dX1_foresee_27 (fun u H locs hp h => ?_)
  obtain ⟨S1, eS1⟩ : ∃ z9, z9 = copyL S (σ 1) := ⟨_, rfl⟩
  rw [hp, va_up_self, ← eS1] at h
  refine lv_aload_n hx hb dX1_foresee_30 rfl (lv_at hl 0 rfl) ?_
  refine X_gO C0 hK h hin1 1 (by decide) (by decide +kernel) dX1_foresee_31 ?_
  refine lv_iload_n hx hb dX1_foresee_34 rfl (lv_at hl 1 rfl) ?_
  refine S_callVi C0 hK h (c_X0_drunkIn l z (va_up σ 0 S) 1 (by decide) S1 (by subst eS1; exact lok_copy hk _) n (by omega)) (cwV 1 hts gX1_foresee_X0_drunkIn rfl rfl rfl (by decide +kernel) ⟨Nat.le_of_ble_eq_true rfl, Nat.le_of_ble_eq_true rfl⟩) (k := 1 + 27 * 1) (ci := 0) (by omega) (fun ct hA => (hA.2 1 (by decide)).1) rfl rfl rfl hl.1 (rest := []) rfl (Nat.le_of_ble_eq_true rfl) ⟨Nat.le_of_ble_eq_true rfl, Nat.le_of_ble_eq_true rfl⟩ dX1_foresee_35 (fun r u H locs hp h => ?_)
  obtain ⟨rfl, hp⟩ := hp
  obtain ⟨S2, eS2⟩ : ∃ z9, z9 = itN dayF n S1 := ⟨_, rfl⟩
  rw [hp, ← eS2] at h
  refine lv_istore_n (lv' := [(3, .int (sumT (itN dayF n S1) 6 - sumT S1 6)), (0, .ref (za z 0)), (1, .int (nI n)), (2, .int (nI k))]) hx hb dX1_foresee_38 rfl hl (by decide) rfl (fun ls hl => ?_)
  rcases (show k = 0 ∨ k = 1 ∨ k = 2 ∨ k = 3 by omega) with rfl | rfl | rfl | rfl
  · refine lv_iload_n hx hb dX1_foresee_39 rfl (lv_at hl 3 rfl) ?_
    refine lv_tableIn (off := 28) (tgt := 68) hx hb dX1_foresee_40 (by decide +kernel) (by decide +kernel) rfl (by decide) ?_
    refine lv_iload_n hx hb dX1_foresee_68 rfl (lv_at hl 0 rfl) ?_
    exact G_iret C0 hK h ⟨by subst eS2 eS1; rfl, _, rfl⟩ (Nat.le_of_ble_eq_true rfl) (Nat.le_of_ble_eq_true rfl) dX1_foresee_69
  · refine lv_iload_n hx hb dX1_foresee_39 rfl (lv_at hl 3 rfl) ?_
    refine lv_tableIn (off := 30) (tgt := 70) hx hb dX1_foresee_40 (by decide +kernel) (by decide +kernel) rfl (by decide) ?_
    refine lv_aload_n hx hb dX1_foresee_70 rfl (lv_at hl 1 rfl) ?_
    refine X_gO C0 hK h hin1 1 (by decide) (by decide +kernel) dX1_foresee_71 ?_
    refine lv_bipush (v := 7) hx hb dX1_foresee_74 (by decide) ?_
    refine S_callVi C0 hK h (c_X0_sumOfPipes l z (va_up σ 0 S) 1 (by decide) S2 (by subst eS2 eS1; exact (shp_days _ _).ok (lok_copy hk _)) 7 (by decide)) (cwV 1 hts gX1_foresee_X0_sumOfPipes rfl rfl rfl (by decide +kernel) ⟨Nat.le_of_ble_eq_true rfl, Nat.le_of_ble_eq_true rfl⟩) (k := 1 + 27 * 1) (ci := 0) (by omega) (fun ct hA => (hA.2 1 (by decide)).1) rfl rfl rfl hl.1 (rest := []) rfl (Nat.le_of_ble_eq_true rfl) ⟨Nat.le_of_ble_eq_true rfl, Nat.le_of_ble_eq_true rfl⟩ dX1_foresee_76 (fun r u H locs hp h => ?_)
    obtain ⟨rfl, hu9⟩ := hp
    rw [hu9] at h
    refine lv_aload_n hx hb dX1_foresee_79 rfl (lv_at hl 1 rfl) ?_
    refine X_gO C0 hK h hin1 0 (by decide) (by decide +kernel) dX1_foresee_80 ?_
    refine lv_bipush (v := 7) hx hb dX1_foresee_83 (by decide) ?_
    rw [q_c01] at h
    refine S_callVi C0 hK h (c_X0_sumOfPipes l z (va_up σ 1 S2) 0 hB S hk 7 (by decide)) (cwV 1 hts gX1_foresee_X0_sumOfPipes rfl rfl rfl (by decide +kernel) ⟨Nat.le_of_ble_eq_true rfl, Nat.le_of_ble_eq_true rfl⟩) (k := 1 + 27 * 0) (ci := 0) (by omega) (fun ct hA => (hA.2 0 (by decide)).1) rfl rfl rfl hl.1 (rest := [.int (sumP S2 7)]) rfl (Nat.le_of_ble_eq_true rfl) ⟨Nat.le_of_ble_eq_true rfl, Nat.le_of_ble_eq_true rfl⟩ dX1_foresee_85 (fun r u H locs hp h => ?_)
    obtain ⟨rfl, hu9⟩ := hp
    rw [hu9] at h
    refine lv_isub hx hb dX1_foresee_88 ?_
    rw [q_c10] at h
    exact G_iret C0 hK h ⟨by subst eS2 eS1; rfl, _, rfl⟩ (Nat.le_of_ble_eq_true rfl) (Nat.le_of_ble_eq_true rfl) dX1_foresee_89
  · refine lv_iload_n hx hb dX1_foresee_39 rfl (lv_at hl 3 rfl) ?_
    refine lv_tableIn (off := 50) (tgt := 90) hx hb dX1_foresee_40 (by decide +kernel) (by decide +kernel) rfl (by decide) ?_
    refine lv_aload_n hx hb dX1_foresee_90 rfl (lv_at hl 1 rfl) ?_
    refine X_gO C0 hK h hin1 1 (by decide) (by decide +kernel) dX1_foresee_91 ?_
    refine lv_iconst (v := 3) hx hb dX1_foresee_94 (by decide) ?_
    refine S_callVi C0 hK h (c_X0_sumOfTanks l z (va_up σ 0 S) 1 (by decide) S2 (by subst eS2 eS1; exact (shp_days _ _).ok (lok_copy hk _)) 3 (by decide)) (cwV 1 hts gX1_foresee_X0_sumOfTanks rfl rfl rfl (by decide +kernel) ⟨Nat.le_of_ble_eq_true rfl, Nat.le_of_ble_eq_true rfl⟩) (k := 1 + 27 * 1) (ci := 0) (by omega) (fun ct hA => (hA.2 1 (by decide)).1) rfl rfl rfl hl.1 (rest := []) rfl (Nat.le_of_ble_eq_true rfl) ⟨Nat.le_of_ble_eq_true rfl, Nat.le_of_ble_eq_true rfl⟩ dX1_foresee_95 (fun r u H locs hp h => ?_)
    obtain ⟨rfl, hu9⟩ := hp
    rw [hu9] at h
    exact G_iret C0 hK h ⟨by subst eS2 eS1; rfl, _, rfl⟩ (Nat.le_of_ble_eq_true rfl) (Nat.le_of_ble_eq_true rfl) dX1_foresee_98
  · refine lv_iload_n hx hb dX1_foresee_39 rfl (lv_at hl 3 rfl) ?_
    refine lv_tableOut (tgt := 99) hx hb dX1_foresee_40 (by decide +kernel) (by decide) ?_
    refine lv_aload_n hx hb dX1_foresee_99 rfl (lv_at hl 1 rfl) ?_
    refine X_gO C0 hK h hin1 1 (by decide) (by decide +kernel) dX1_foresee_100 ?_
    refine lv_iconst (v := 4) hx hb dX1_foresee_103 (by decide) ?_
    refine S_callVi C0 hK h (c_X0_sumOfPipes l z (va_up σ 0 S) 1 (by decide) S2 (by subst eS2 eS1; exact (shp_days _ _).ok (lok_copy hk _)) 4 (by decide)) (cwV 1 hts gX1_foresee_X0_sumOfPipes rfl rfl rfl (by decide +kernel) ⟨Nat.le_of_ble_eq_true rfl, Nat.le_of_ble_eq_true rfl⟩) (k := 1 + 27 * 1) (ci := 0) (by omega) (fun ct hA => (hA.2 1 (by decide)).1) rfl rfl rfl hl.1 (rest := []) rfl (Nat.le_of_ble_eq_true rfl) ⟨Nat.le_of_ble_eq_true rfl, Nat.le_of_ble_eq_true rfl⟩ dX1_foresee_104 (fun r u H locs hp h => ?_)
    obtain ⟨rfl, hu9⟩ := hp
    rw [hu9] at h
    exact G_iret C0 hK h ⟨by subst eS2 eS1; rfl, _, rfl⟩ (Nat.le_of_ble_eq_true rfl) (Nat.le_of_ble_eq_true rfl) dX1_foresee_107
set_option maxHeartbeats 4000000 in
set_option maxRecDepth 100000 in
theorem c_X1_sated_ok (l : Launch) (z : QZ) (σ : Nat → QLs) (S : QLs) (hk : LOk S) (t : Nat) (ht : t < qt S) : GI l yX1_sated wsX1_sated ({ frames := 5, cells := 0, slots := 0, locals := 106 } : Room) z [.ref (za z 0), .int (nI t)] 0 0 (XAt z) 0 55 (va_up σ 0 S) (fun r σ' => r = qsatF (copyL S (σ 1)) t 100 0 ∧ ∃ S2, σ' = va_up (va_up σ 0 S) 1 S2) := by
  intro ct sz hn hq hat
  refine q_entry (lo := 0) (cc := cX1_sated) (maxL := 3) (ret := (some .int)) (by decide) rfl (Nat.le_of_ble_eq_true rfl) hn hq hat ?_
  intro p e s m below meth c ls C0 hK hsz h hl
  subst hsz
  obtain ⟨hx, hb, hr, hml, hown, hts, hlocks⟩ := id C0
  have hB : 0 < 2 := by decide
  have hin1 : ∀ w ∈ u_ws RX1 TX1 2, w ∈ wsX1_sated := by decide +kernel
  have hl : lv_has ls 3 [(0, .ref (za z 0)), (1, .int (nI t))] := hl
  have hk1 := hk.1
  have hk2 := hk.2.1
  refine lv_aload_n hx hb dX1_sated_0 rfl (lv_at hl 0 rfl) ?_
  refine lv_iload_n hx hb dX1_sated_1 rfl (lv_at hl 1 rfl) ?_
  refine S_callVv C0 hK h (c_X1_needTank_ok l z σ S t ht (by omega)) (cwV 1 hts gX1_sated_X1_needTank rfl rfl rfl (by decide +kernel) ⟨Nat.le_of_ble_eq_true rfl, Nat.le_of_ble_eq_true rfl⟩) (k := 0) (ci := 1) (by omega) (fun ct hA => hA.1) rfl rfl rfl hl.1 (rest := []) rfl (Nat.le_of_ble_eq_true rfl) ⟨Nat.le_of_ble_eq_true rfl, Nat.le_of_ble_eq_true rfl⟩ dX1_sated_2 (fun u H locs hp h => ?_)
  rw [hp] at h
  refine lv_aload_n hx hb dX1_sated_5 rfl (lv_at hl 0 rfl) ?_
  refine X_gO C0 hK h hin1 1 (by decide) (by decide +kernel) dX1_sated_6 ?_
  refine lv_aload_n hx hb dX1_sated_9 rfl (lv_at hl 0 rfl) ?_
  refine X_gO C0 hK h hin1 0 (by decide) (by decide +kernel) dX1_sated_10 ?_
  rw [q_start σ S] at h
  refine S_callVv C0 hK h (c_X0_copyFrom l z (va_up σ 0 S) (σ 1) (by rw [va_up_self]; exact hk1) (by rw [va_up_self]; exact hk2)) (cwV 1 hts gX1_sated_X0_copyFrom rfl rfl rfl (by decide +kernel) ⟨Nat.le_of_ble_eq_true rfl, Nat.le_of_ble_eq_true rfl⟩) (k := 1 + 27 * 1) (ci := 0) (by omega) (fun ct hA => (hA.2 1 (by decide)).1) rfl rfl rfl hl.1 (rest := []) rfl (Nat.le_of_ble_eq_true rfl) ⟨Nat.le_of_ble_eq_true rfl, Nat.le_of_ble_eq_true rfl⟩ dX1_sated_13 (fun u H locs hp h => ?_)
  obtain ⟨S1, eS1⟩ : ∃ z9, z9 = copyL S (σ 1) := ⟨_, rfl⟩
  rw [hp, va_up_self, ← eS1] at h
  refine lv_iconst (v := 1) hx hb dX1_sated_16 (by decide) ?_
  refine lv_istore_n (lv' := [(2, .int 1), (0, .ref (za z 0)), (1, .int (nI t))]) hx hb dX1_sated_17 rfl hl (by decide) rfl (fun ls hl => ?_)
  subst eS1
  have L18 : ∀ (d i : Nat), i + d = 100 → qsatF (copyL S (σ 1)) t 100 0 = qsatF (copyL S (σ 1)) t d i → ∀ (H : Heap) (locs : List Loc) (ls : Array Slot), GW z (XAt z) 0 55 s.heap ct (va_up (va_up σ 0 S) 1 (itN dayF i (copyL S (σ 1)))) H locs → lv_has ls 3 [(2, .int (nI (i + 1))), (1, .int (nI t)), (0, .ref (za z 0))] → W p l e ({ frames := 5, cells := 0, slots := 0, locals := 106 } : Room) s m [.ref (za z 0), .int (nI t)].toArray below meth c H locs 0 0 (EI z (XAt z) 0 55 ct s below [.ref (za z 0), .int (nI t)] 0 0 (fun r σ' => r = qsatF (copyL S (σ 1)) t 100 0 ∧ ∃ S2, σ' = va_up (va_up σ 0 S) 1 S2)) (F0 m 18 ls []) := by
    intro  d
    induction d with
    | zero =>
      intro i hdi hq8 H locs ls h hl
      have hEi : i = 100 := by omega
      obtain ⟨S2, eS2⟩ : ∃ z9, z9 = itN dayF i (copyL S (σ 1)) := ⟨_, rfl⟩
      rw [← eS2] at h
      have hs9 : Shp (copyL S (σ 1)) S2 := by rw [eS2]; exact shp_days _ _
      have hk9 : LOk S2 := hs9.ok (lok_copy hk _)
      refine lv_iload_n hx hb dX1_sated_18 rfl (lv_at hl 0 rfl) ?_
      refine lv_bipush (v := 100) hx hb dX1_sated_19 (by decide) ?_
      refine lv_icmp_gt (tgt := 50) hx hb dX1_sated_21 (by decide) (fun _ => ?_) (fun q9 => absurd (show nI 100 < nI (i + 1) from nI_lt (by omega) (by omega)) q9)
      refine lv_iconst (v := (-1)) hx hb dX1_sated_50 (by decide) ?_
      exact G_iret C0 hK h ⟨by rw [hq8]; rfl, _, rfl⟩ (Nat.le_of_ble_eq_true rfl) (Nat.le_of_ble_eq_true rfl) dX1_sated_51
    | succ d ihL18 =>
      intro i hdi hq8 H locs ls h hl
      have hEi : i < 100 := by omega
      obtain ⟨S3, eS3⟩ : ∃ z9, z9 = itN dayF i (copyL S (σ 1)) := ⟨_, rfl⟩
      rw [← eS3] at h
      have hs9 : Shp (copyL S (σ 1)) S3 := by rw [eS3]; exact shp_days _ _
      have hk9 : LOk S3 := hs9.ok (lok_copy hk _)
      refine lv_iload_n hx hb dX1_sated_18 rfl (lv_at hl 0 rfl) ?_
      refine lv_bipush (v := 100) hx hb dX1_sated_19 (by decide) ?_
      refine lv_icmp_gt (tgt := 50) hx hb dX1_sated_21 (by decide) (fun q9 => absurd q9 (show ¬ nI 100 < nI (i + 1) from nI_nlt (by omega) (by omega))) (fun _ => ?_)
      refine lv_aload_n hx hb dX1_sated_24 rfl (lv_at hl 2 rfl) ?_
      refine X_gO C0 hK h hin1 1 (by decide) (by decide +kernel) dX1_sated_25 ?_
      refine S_callVv C0 hK h (c_X0_goThroughDay l z (va_up σ 0 S) 1 (by decide) S3 hk9) (cwV 0 hts gX1_sated_X0_goThroughDay rfl rfl rfl (by decide +kernel) ⟨Nat.le_of_ble_eq_true rfl, Nat.le_of_ble_eq_true rfl⟩) (k := 1 + 27 * 1) (ci := 0) (by omega) (fun ct hA => (hA.2 1 (by decide)).1) rfl rfl rfl hl.1 (rest := []) rfl (Nat.le_of_ble_eq_true rfl) ⟨Nat.le_of_ble_eq_true rfl, Nat.le_of_ble_eq_true rfl⟩ dX1_sated_28 (fun u H locs hp h => ?_)
      obtain ⟨S4, eS4⟩ : ∃ z9, z9 = dayL S3 := ⟨_, rfl⟩
      rw [hp, ← eS4] at h
      refine lv_aload_n hx hb dX1_sated_31 rfl (lv_at hl 2 rfl) ?_
      refine X_gO C0 hK h hin1 1 (by decide) (by decide +kernel) dX1_sated_32 ?_
      refine lv_iload_n hx hb dX1_sated_35 rfl (lv_at hl 1 rfl) ?_
      refine S_callVi C0 hK h (c_X0_isThirsty l z (va_up σ 0 S) 1 (by decide) S4 t (by omega)) (cwV 1 hts gX1_sated_X0_isThirsty rfl rfl rfl (by decide +kernel) ⟨Nat.le_of_ble_eq_true rfl, Nat.le_of_ble_eq_true rfl⟩) (k := 1 + 27 * 1) (ci := 0) (by omega) (fun ct hA => (hA.2 1 (by decide)).1) rfl rfl rfl hl.1 (rest := []) rfl (Nat.le_of_ble_eq_true rfl) ⟨Nat.le_of_ble_eq_true rfl, Nat.le_of_ble_eq_true rfl⟩ dX1_sated_36 (fun r u H locs hp h => ?_)
      rcases q_bool _ hp with ⟨hc5, rfl, hu9⟩ | ⟨hc5, rfl, hu9⟩
      · rw [hu9] at h
        refine lv_if_ne (tgt := 44) hx hb dX1_sated_39 (by decide) (fun _ => ?_) (fun q9 => absurd q9 (by decide))
        refine lv_iinc (v := nI (i + 1 + 1)) (lv' := [(2, .int (nI (i + 1 + 1))), (1, .int (nI t)), (0, .ref (za z 0))]) hx hb dX1_sated_44 hl (k := 0) rfl (q_inc (i + 1) 1) (by decide) rfl (fun ls hl => ?_)
        refine lv_goto (tgt := 18) hx hb dX1_sated_47 (by decide) ?_
        exact ihL18 (i + 1) (by omega) (by subst eS4; subst eS3; exact hq8.trans (qsat_p hc5)) _ _ _ (by subst eS4; rw [eS3] at h; exact h) (lv_sub hl [0, 1, 2] rfl)
      · rw [hu9] at h
        refine lv_if_ne (tgt := 44) hx hb dX1_sated_39 (by decide) (fun q9 => absurd (by decide) q9) (fun _ => ?_)
        refine lv_iload_n hx hb dX1_sated_42 rfl (lv_at hl 0 rfl) ?_
        exact G_iret C0 hK h ⟨by subst eS4; subst eS3; rw [hq8]; exact (qsat_n hc5).symm, _, rfl⟩ (Nat.le_of_ble_eq_true rfl) (Nat.le_of_ble_eq_true rfl) dX1_sated_43
  exact L18 (100) 0 (by omega) rfl _ _ _ h (lv_sub hl [0, 2, 1] rfl)
