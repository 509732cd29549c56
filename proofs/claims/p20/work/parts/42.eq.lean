/-! PART 42: the relation, and one step of each kind -/
def RR (D : Nat) (S : QLs) (M : QMs) : Prop := LOk S ∧ mt_ M = qt S ∧ mp_ M = qp S ∧ mY M 0 = qD S ∧ (∀ i, i < qt S → RE (rowA M i) (qT S i)) ∧ (∀ k, k < qp S → PE (rowB M k) (qP S k)) ∧ (∀ i, i < qt S → TI D (qT S i)) ∧ (∀ k, k < qp S → PI (qP S k))
theorem RR.mono {D E : Nat} {S : QLs} {M : QMs} (h : RR D S M) (hD : D ≤ E) : RR E S M := ⟨h.1, h.2.1, h.2.2.1, h.2.2.2.1, h.2.2.2.2.1, h.2.2.2.2.2.1, fun i hi => (h.2.2.2.2.2.2.1 i hi).mono hD, h.2.2.2.2.2.2.2⟩
theorem RR.f0 {D : Nat} {S : QLs} {M : QMs} (h : RR D S M) {k : Nat} (hk : k < qp S) : mf M k = qf S k ∧ mo M k = qo S k := by
  obtain ⟨-, -, -, -, -, hP, -, -⟩ := h
  have h0 : mB M (9 * k + 0) = qP S k 0 := (hP k hk).1 0 (by decide)
  have h1 : mB M (9 * k + 1) = qP S k 1 := (hP k hk).1 1 (by decide)
  unfold mf mo qf qo
  rw [h0, h1]; exact ⟨rfl, rfl⟩
theorem RR.mok {D : Nat} {S : QLs} {M : QMs} (h : RR D S M) : MOk M := by
  have hf := fun k hk => RR.f0 h (k := k) hk
  obtain ⟨⟨h1, h2, h3⟩, e1, e2, -, -, hP, -, -⟩ := h
  refine ⟨by omega, by omega, fun k hk => ?_⟩
  have hk2 : k < qp S := by omega
  obtain ⟨a1, a2, a3, a4, a5⟩ := h3 k hk2
  rw [(hf k hk2).1, (hf k hk2).2, e1]
  exact ⟨a1, a2, a3, ((hP k hk2).1 0 (by decide)).trans a4, ((hP k hk2).1 1 (by decide)).trans a5⟩
theorem RR.at_ {D : Nat} {S : QLs} {M : QMs} (h : RR D S M) {i k : Nat} (hi : i < qt S) (hk : k < 8) : mA M (8 * i + k) = qT S i k := h.2.2.2.2.1 i hi k hk
theorem RR.bt_ {D : Nat} {S : QLs} {M : QMs} (h : RR D S M) {i k : Nat} (hi : i < qp S) (hk : k < 8) : mB M (9 * i + k) = qP S i k := (h.2.2.2.2.2.1 i hi).1 k hk
theorem RR.tap {D : Nat} {S : QLs} {M : QMs} (h : RR D S M) {i : Nat} (hi : i < qp S) : mB M (9 * i + 8) = qP S i 9 := (h.2.2.2.2.2.1 i hi).2
theorem RR.setT {D : Nat} {S : QLs} {M M2 : QMs} (h : RR D S M) {i : Nat} {r : Nat → Int32} (ht : mt_ M2 = mt_ M) (hp : mp_ M2 = mp_ M) (hY : mY M2 = mY M) (hB : mB M2 = mB M) (hr : RE (rowA M2 i) r) (hne : ∀ j, j ≠ i → RE (rowA M2 j) (rowA M j)) (hti : TI D r) : RR D (sT S i r) M2 := by
  obtain ⟨h1, h2, h3, h4, h5, h6, h7, h8⟩ := h
  refine ⟨(shp_sT (S := S) (i := i) (r := r)).ok h1, ht.trans h2, hp.trans h3, by rw [hY]; exact h4, fun j hj => ?_, fun k hk => by rw [show rowB M2 k = rowB M k from by unfold rowB; rw [hB]]; exact h6 k hk, fun j hj => ?_, h8⟩
  · by_cases e : j = i
    · subst e; rw [qT_sT]; exact hr
    · rw [qT_sTn _ _ e]; exact (hne j e).tr (h5 j hj)
  · by_cases e : j = i
    · subst e; rw [qT_sT]; exact hti
    · rw [qT_sTn _ _ e]; exact h7 j hj
theorem RR.setP {D : Nat} {S : QLs} {M M2 : QMs} (h : RR D S M) {i : Nat} {r : Nat → Int32} (ht : mt_ M2 = mt_ M) (hp : mp_ M2 = mp_ M) (hY : mY M2 = mY M) (hB : mA M2 = mA M) (hr : PE (rowB M2 i) r) (hne : ∀ j q, j ≠ i → PE (rowB M j) q → PE (rowB M2 j) q) (hti : PI r) (h01 : r 0 = qP S i 0 ∧ r 1 = qP S i 1) : RR D (sP S i r) M2 := by
  obtain ⟨h1, h2, h3, h4, h5, h6, h7, h8⟩ := h
  have hs : Shp S (sP S i r) := by
    refine ⟨rfl, rfl, fun k => ?_⟩
    by_cases e : k = i
    · subst e; rw [qP_sP]; exact h01
    · rw [qP_sPn _ _ e]; exact ⟨rfl, rfl⟩
  refine ⟨hs.ok h1, ht.trans h2, hp.trans h3, by rw [hY]; exact h4, fun j hj => by rw [show rowA M2 j = rowA M j from by unfold rowA; rw [hB]]; exact h5 j hj, fun j hj => ?_, h7, fun j hj => ?_⟩
  · by_cases e : j = i
    · subst e; rw [qP_sP]; exact hr
    · rw [qP_sPn _ _ e]; exact hne j _ e (h6 j hj)
  · by_cases e : j = i
    · subst e; rw [qP_sP]; exact hti
    · rw [qP_sPn _ _ e]; exact h8 j hj
theorem i_quart {a : Int32} (h : 0 ≤ a.toInt ∧ a.toInt ≤ 20) : 0 ≤ (a / 4).toInt ∧ (a / 4).toInt ≤ 5 := by
  rw [i_div h.1 (by decide), show (4 : Int32).toInt = 4 by decide]; omega
theorem s_feed {D : Nat} {S : QLs} {M : QMs} (h : RR D S M) {i : Nat} (hi : i < qt S) : RR D (feedF i S) (mfeedF i M) := by
  have hT := h.2.2.2.2.2.2.1 i hi
  have e1 := h.at_ hi (show 1 < 8 by decide)
  have hb := i_quart hT.2.1
  have hf : feedR (qT S i) = pourR (qT S i) (qT S i 1) (qT S i 1 / 4) := by
    unfold feedR
    rw [show takeW (qT S i) (qT S i 1) 1 = qT S i 1 from by unfold takeW; rw [pk_un (by decide), pk_un (by decide)]]
    exact take_pour hT.2.2.2.1 ⟨hT.2.1.1, by have := hT.2.1.2; omega⟩
  show RR D (sT S i (feedR (qT S i))) (mPour M i (mA M (8 * i + 1)) (mA M (8 * i + 1) / 4))
  rw [hf, e1]
  exact h.setT rfl rfl rfl rfl (pour_row.tr (pourR_c (h.2.2.2.2.1 i hi) _ _)) (fun j hj => pour_ne hj) (pour_ti hT ⟨hT.2.1.1, by have := hT.2.1.2; omega⟩ ⟨hb.1, by omega⟩)
theorem s_crust {D : Nat} {S : QLs} {M : QMs} (h : RR D S M) {k : Nat} (hk : k < qp S) : RR D (crustF k S) (mcrustF k M) := by
  show RR D (crustL S k) (mcrust M k)
  unfold crustL mcrust
  rw [h.bt_ hk (show 5 < 8 by decide), h.bt_ hk (show 4 < 8 by decide)]
  split
  · exact h
  · have hP := h.2.2.2.2.2.2.2 k hk
    refine h.setP rfl rfl rfl rfl (setP_row (by decide) (h.2.2.2.2.2.1 k hk)) (fun j q hj hq => setP_ne (by decide) hj hq) ?_ ⟨pk_un (by decide), pk_un (by decide)⟩
    unfold PI
    rw [pk_us, pk_un (show 2 ≠ 4 by decide), pk_un (show 3 ≠ 4 by decide), pk_un (show 9 ≠ 4 by decide)]
    refine ⟨hP.1, hP.2.1, ?_, hP.2.2.2⟩
    have h4 := hP.2.2.1
    have e1 : (qP S k 4 + 1).toInt = (qP S k 4).toInt + 1 := i_add (by rw [show (1 : Int32).toInt = 1 by decide]; omega) (by rw [show (1 : Int32).toInt = 1 by decide]; omega)
    have e2 := i_min 20 (qP S k 4 + 1)
    rw [e1, show (20 : Int32).toInt = 20 by decide] at e2
    rw [e2]; constructor <;> split <;> omega
/-- what a row's tank drinks -/
theorem s_drink {D : Nat} {S : QLs} {M : QMs} (h : RR (D + 1) S M) (hD : D < 1000000) {i : Nat} (hi : i < qt S) (hT : TI D (qT S i)) : RR (D + 1) (drinkF i S) (mdrinkF i M) ∧ (drinkR (qT S i) 5).toInt ≤ (drinkR (qT S i) 2).toInt := by
  have e2 := h.at_ hi (show 2 < 8 by decide)
  have e3 := h.at_ hi (show 3 < 8 by decide)
  have e4 := h.at_ hi (show 4 < 8 by decide)
  obtain ⟨t0, t1, t2, t3, t4, t6⟩ := hT
  obtain ⟨v, ev⟩ : ∃ v, v = (if qT S i 4 < 50 then qT S i 2 else qT S i 2 / 2) := ⟨_, rfl⟩
  have hv : 0 ≤ v.toInt ∧ v.toInt ≤ (qT S i 2).toInt := by
    rw [ev]
    split
    · exact ⟨t2.1, Int.le_refl _⟩
    · rw [i_div t2.1 (by decide), show (2 : Int32).toInt = 2 by decide]; omega
  have ex := i_min v (qT S i 3)
  have hx : 0 ≤ (qmin v (qT S i 3)).toInt ∧ (qmin v (qT S i 3)).toInt ≤ (qT S i 2).toInt ∧ (qmin v (qT S i 3)).toInt ≤ (qT S i 3).toInt := by rw [ex]; refine ⟨?_, ?_, ?_⟩ <;> split <;> omega
  have hc : drinkR (qT S i) = upd (upd (upd (qT S i) 3 (qT S i 3 - qmin v (qT S i 3))) 5 (qmin v (qT S i 3))) 6 (qT S i 6 + qmin v (qT S i 3)) := by
    unfold drinkR
    simp only []
    rw [← ev, pk_un (show 6 ≠ 5 by decide), pk_un (show 6 ≠ 3 by decide)]
  have hm : mdrink M i = mSetT (mSetT (mSetT M i 3 (qT S i 3 - qmin v (qT S i 3))) i 5 (qmin v (qT S i 3))) i 6 (qT S i 6 + qmin v (qT S i 3)) := by
    unfold mdrink
    simp only []
    rw [e2, e3, e4, ← ev]
    congr 2
    show upd (upd (mA M) (8 * i + 3) _) (8 * i + 5) _ (8 * i + 6) = _
    rw [pk_un (by omega), pk_un (by omega)]
    exact h.at_ hi (show 6 < 8 by decide)
  show RR (D + 1) (sT S i (drinkR (qT S i))) (mdrink M i) ∧ _
  rw [hc, hm]
  refine ⟨h.setT rfl rfl rfl rfl ((setT_row (by decide)).tr (((setT_row (by decide)).tr (((setT_row (by decide)).tr ((h.2.2.2.2.1 i hi).up _ _)).up _ _)).up _ _)) (fun j hj => (setT_ne (by decide) hj).tr ((setT_ne (by decide) hj).tr (setT_ne (by decide) hj))) ?_, ?_⟩
  · unfold TI
    simp only [pk_us, pk_un (show (0 : Nat) ≠ 6 by decide), pk_un (show (0 : Nat) ≠ 5 by decide), pk_un (show (0 : Nat) ≠ 3 by decide), pk_un (show (1 : Nat) ≠ 6 by decide), pk_un (show (1 : Nat) ≠ 5 by decide), pk_un (show (1 : Nat) ≠ 3 by decide), pk_un (show (2 : Nat) ≠ 6 by decide), pk_un (show (2 : Nat) ≠ 5 by decide), pk_un (show (2 : Nat) ≠ 3 by decide), pk_un (show (3 : Nat) ≠ 6 by decide), pk_un (show (3 : Nat) ≠ 5 by decide), pk_un (show (4 : Nat) ≠ 6 by decide), pk_un (show (4 : Nat) ≠ 5 by decide), pk_un (show (4 : Nat) ≠ 3 by decide)]
    have a3 : (qT S i 3 - qmin v (qT S i 3)).toInt = (qT S i 3).toInt - (qmin v (qT S i 3)).toInt := i_sub (by omega) (by omega)
    have a6 : (qT S i 6 + qmin v (qT S i 3)).toInt = (qT S i 6).toInt + (qmin v (qT S i 3)).toInt := i_add (by omega) (by omega)
    exact ⟨t0, t1, t2, by rw [a3]; omega, t4, by rw [a6]; omega⟩
  · rw [pk_un (by decide), pk_us, pk_un (by decide), pk_un (by decide), pk_un (by decide)]
    exact hx.2.1
