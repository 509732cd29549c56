/-! PART 44: a day, days, what is told of all -/
theorem it_T {D : Nat} {f : Nat → QLs → QLs} {g : Nat → QMs → QMs} (hstep : ∀ i S M, RR D S M → i < qt S → RR D (f i S) (g i M)) (hs : ∀ i S, Shp S (f i S)) {S : QLs} {M : QMs} (h : RR D S M) : ∀ m, m ≤ qt S → RR D (itN f m S) (itN g m M)
  | 0, _ => h
  | m + 1, hm => hstep m _ _ (it_T hstep hs h m (by omega)) (by rw [(shp_it hs S m).1]; omega)
theorem it_P {D : Nat} {f : Nat → QLs → QLs} {g : Nat → QMs → QMs} (hstep : ∀ i S M, RR D S M → i < qp S → RR D (f i S) (g i M)) (hs : ∀ i S, Shp S (f i S)) {S : QLs} {M : QMs} (h : RR D S M) : ∀ m, m ≤ qp S → RR D (itN f m S) (itN g m M)
  | 0, _ => h
  | m + 1, hm => hstep m _ _ (it_P hstep hs h m (by omega)) (by rw [(shp_it hs S m).2.1]; omega)
theorem it_drink {D : Nat} {S : QLs} {M : QMs} (h : RR (D + 1) S M) (hD : D < 1000000) (hT : ∀ i, i < qt S → TI D (qT S i)) : ∀ m, m ≤ qt S → RR (D + 1) (itN drinkF m S) (itN mdrinkF m M) ∧ (∀ j, m ≤ j → qT (itN drinkF m S) j = qT S j) ∧ ∀ j, j < m → (qT (itN drinkF m S) j 5).toInt ≤ (qT (itN drinkF m S) j 2).toInt
  | 0, _ => ⟨h, fun _ _ => rfl, fun j hj => by omega⟩
  | m + 1, hm => by
    obtain ⟨a1, a2, a3⟩ := it_drink h hD hT m (by omega)
    have hq : m < qt (itN drinkF m S) := by rw [(shp_it (f := drinkF) (fun _ _ => shp_sT) S m).1]; omega
    have hs := s_drink a1 hD hq (by rw [a2 m (Nat.le_refl _)]; exact hT m (by omega))
    refine ⟨hs.1, fun j hj => ?_, fun j hj => ?_⟩
    · show qT (sT (itN drinkF m S) m _) j = _
      rw [qT_sTn _ _ (by omega)]; exact a2 j (by omega)
    · show (qT (sT (itN drinkF m S) m _) j 5).toInt ≤ (qT (sT (itN drinkF m S) m _) j 2).toInt
      by_cases e : j = m
      · subst e; rw [qT_sT]; exact hs.2
      · rw [qT_sTn _ _ e]; exact a3 j (by omega)
theorem s_day {D : Nat} {S : QLs} {M : QMs} (h : RR D S M) (hD : D < 1000000) : RR (D + 1) (dayL S) (mday M) ∧ ∀ i, i < qt S → (qT (dayL S) i 5).toInt ≤ (qT (dayL S) i 2).toInt := by
  unfold dayL mday
  simp only []
  have h1 : RR D (itN feedF (qt S) S) (itN mfeedF (mt_ M) M) := by
    rw [h.2.1]; exact it_T (f := feedF) (g := mfeedF) (fun i S M h hi => s_feed h hi) (fun _ _ => shp_sT) h _ (Nat.le_refl _)
  have t1 := (shp_it (f := feedF) (fun _ _ => shp_sT) S (qt S)).1
  generalize itN feedF (qt S) S = S1 at h1 t1
  generalize itN mfeedF (mt_ M) M = M1 at h1
  have h2 : RR D (itN flowF (qp S1) S1) (itN mflowF (mp_ M1) M1) := by
    rw [h1.2.2.1]; exact it_P (f := flowF) (g := mflowF) (fun i S M h hi => s_flow h hi) (fun _ _ => shp_flow) h1 _ (Nat.le_refl _)
  have t2 := (shp_it (f := flowF) (fun _ _ => shp_flow) S1 (qp S1)).1
  generalize itN flowF (qp S1) S1 = S2 at h2 t2
  generalize itN mflowF (mp_ M1) M1 = M2 at h2
  have h3 : RR D (if qD S2 - qD S2 / 4 * 4 = 0 then crustAll S2 else S2) (if mY M2 0 - mY M2 0 / 4 * 4 = 0 then itN mcrustF (mp_ M2) M2 else M2) ∧ qt (if qD S2 - qD S2 / 4 * 4 = 0 then crustAll S2 else S2) = qt S2 := by
    rw [h2.2.2.2.1]
    split
    · rw [h2.2.2.1]; exact ⟨it_P (f := crustF) (g := mcrustF) (fun i S M h hi => s_crust h hi) (fun _ _ => shp_crust) h2 _ (Nat.le_refl _), shp_crustAll.1⟩
    · exact ⟨h2, rfl⟩
  obtain ⟨h3, t3⟩ := h3
  generalize (if qD S2 - qD S2 / 4 * 4 = 0 then crustAll S2 else S2) = S3 at h3 t3
  generalize (if mY M2 0 - mY M2 0 / 4 * 4 = 0 then itN mcrustF (mp_ M2) M2 else M2) = M3 at h3
  obtain ⟨h4, -, h5⟩ := it_drink (h3.mono (Nat.le_succ D)) hD h3.2.2.2.2.2.2.1 (qt S3) (Nat.le_refl _)
  rw [h3.2.1]
  refine ⟨?_, fun i hi => h5 i (by omega)⟩
  generalize itN drinkF (qt S3) S3 = S4 at h4
  generalize itN mdrinkF (qt S3) M3 = M4 at h4
  obtain ⟨a1, a2, a3, a4, a5, a6, a7, a8⟩ := h4
  exact ⟨shp_sD.ok a1, a2, a3, by show upd (mY M4) 0 (mY M4 0 + 1) 0 = _; rw [pk_us, a4]; rfl, a5, a6, a7, a8⟩
theorem s_days {D : Nat} {S : QLs} {M : QMs} (h : RR D S M) : ∀ n, D + n < 1000000 → RR (D + n) (itN dayF n S) (itN mdayF n M)
  | 0, _ => h
  | n + 1, hn => (s_day (s_days h n (by omega)) (by omega)).1
theorem qsum_c {f g : Nat → Int32} : ∀ n, (∀ i, i < n → f i = g i) → qsum f n = qsum g n
  | 0, _ => rfl
  | n + 1, h => by
    show qsum f n + f n = qsum g n + g n
    rw [qsum_c n (fun i hi => h i (by omega)), h n (by omega)]
theorem RR.all {D : Nat} {S : QLs} {M : QMs} (h : RR D S M) {k : Nat} (hk : k < 8) : mall M k = sumT S k := by
  unfold mall sumT
  rw [h.2.1]; exact qsum_c _ (fun i hi => h.at_ hi hk)
theorem RR.allP {D : Nat} {S : QLs} {M : QMs} (h : RR D S M) {k : Nat} (hk : k < 8) : mallP M k = sumP S k := by
  unfold mallP sumP
  rw [h.2.2.1]; exact qsum_c _ (fun i hi => h.bt_ hi hk)
theorem RR.thc {D : Nat} {S : QLs} {M : QMs} (h : RR D S M) : ∀ n, n ≤ qt S → mthc M n = qthc S n
  | 0, _ => rfl
  | n + 1, hn => by
    show (if mA M (8 * n + 5) < mA M (8 * n + 2) then mthc M n + 1 else mthc M n + 0) = (if qT S n 5 < qT S n 2 then qthc S n + 1 else qthc S n)
    rw [h.thc n (by omega), h.at_ (by omega) (show 5 < 8 by decide), h.at_ (by omega) (show 2 < 8 by decide)]
    split
    · rfl
    · simp
theorem RR.count {D : Nat} {S : QLs} {M : QMs} (h : RR D S M) (k : Nat) : mcount M k = ofAllL S k := by
  match k with
  | 0 => exact h.2.2.2.1
  | 1 => show nI (mt_ M) = nI (qt S); rw [h.2.1]
  | 2 => show nI (mp_ M) = nI (qp S); rw [h.2.2.1]
  | 3 => exact h.all (by decide)
  | 4 => exact h.all (by decide)
  | 5 => exact h.all (by decide)
  | 6 => exact h.allP (by decide)
  | 7 => exact h.all (by decide)
  | n + 8 => show mthc M (mt_ M) = qthc S (qt S); rw [h.2.1]; exact h.thc _ (Nat.le_refl _)
theorem RR.told {D : Nat} {S : QLs} {M : QMs} (h : RR D S M) {k w : Nat} (hk : k < qp S) (hw : w < 9) : mtold M k w = ofPipeL S k w := by
  unfold mtold ofPipeL
  split
  · exact (can_val h hk).1
  · exact h.bt_ hk (by omega)
theorem qlong_c {f g : Nat → Int32} (d : Int64) : ∀ n, (∀ i, i < n → f i = g i) → qlong f n d = qlong g n d
  | 0, _ => rfl
  | n + 1, h => by
    show qlong f n d * 31 + (f n).toInt64 = qlong g n d * 31 + (g n).toInt64
    rw [qlong_c d n (fun i hi => h i (by omega)), h n (by omega)]
theorem RR.mean {D : Nat} {S : QLs} {M : QMs} (h : RR D S M) : mmean M = qmean S := by
  unfold mmean qmean
  rw [h.2.2.2.1, h.all (by decide)]
theorem RR.sus {D : Nat} {S : QLs} {M : QMs} (h : RR D S M) : ∀ n, n ≤ qp S → msus M n = (qsus S n).1 ∧ (if msus M n = -1 then (0 : Int32) else mB M (9 * (msus M n).toNatClampNeg + 6)) = (qsus S n).2
  | 0, _ => ⟨rfl, rfl⟩
  | n + 1, hn => by
    obtain ⟨h1, h2⟩ := h.sus n (by omega)
    have e : msus M (n + 1) = (if mB M (9 * n + 6) ≤ (if msus M n = -1 then (0 : Int32) else mB M (9 * (msus M n).toNatClampNeg + 6)) then msus M n else nI n) := rfl
    have e2 : qsus S (n + 1) = (if qP S n 6 ≤ (qsus S n).2 then qsus S n else (nI n, qP S n 6)) := rfl
    have hk := h.1.2.1
    rw [h2, h.bt_ (by omega) (show 6 < 8 by decide)] at e
    by_cases c : qP S n 6 ≤ (qsus S n).2
    · rw [if_pos c] at e e2
      rw [e, e2]; exact ⟨h1, h2⟩
    · rw [if_neg c] at e e2
      rw [e, e2, if_neg (q_nm1 (by omega)), nI_clamp (by omega)]
      exact ⟨rfl, h.bt_ (by omega) (by decide)⟩
