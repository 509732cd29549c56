/-! PART 45: foresee, advise, sated; what the keeper does -/
theorem RR.uh_ {D : Nat} {S : QLs} {M : QMs} (h : RR D S M) (x : Int32) : RR D S (uh M x) := h
theorem RR.copy {D : Nat} {S : QLs} {M : QMs} (h : RR D S M) (X : QLs) : RR D (copyL S X) M := by
  obtain ⟨c1, c2, c3, c4, c5⟩ := cpy_all S X
  obtain ⟨h1, h2, h3, h4, h5, h6, h7, h8⟩ := h
  exact ⟨lok_copy h1 X, h2.trans c1.symm, h3.trans c2.symm, h4.trans c3.symm, fun i hi => by rw [c1] at hi; rw [c4 i hi]; exact h5 i hi, fun i hi => by rw [c2] at hi; rw [c5 i hi]; exact h6 i hi, fun i hi => by rw [c1] at hi; rw [c4 i hi]; exact h7 i hi, fun i hi => by rw [c2] at hi; rw [c5 i hi]; exact h8 i hi⟩
theorem RR.fore {D n k : Nat} {S : QLs} {M : QMs} (h : RR D S M) (X : QLs) (hn : D + n < 1000000) : mfore M n k = qfore S (copyL S X) n k := by
  have h1 := s_days (h.copy X) n hn
  unfold mfore qfore
  rw [h1.all (show 6 < 8 by decide), h1.all (show 3 < 8 by decide), h1.allP (show 7 < 8 by decide), h1.allP (show 4 < 8 by decide), h.allP (show 7 < 8 by decide), (h.copy X).all (show 6 < 8 by decide)]
theorem RR.setAt {D : Nat} {S : QLs} {M : QMs} (h : RR D S M) {i k : Nat} {x : Int32} (hi : i < qt S) (hk : k < 8) (hT : TI D (upd (qT S i) k x)) : RR D (sT S i (upd (qT S i) k x)) (mSetT M i k x) :=
  h.setT rfl rfl rfl rfl ((setT_row hk).tr ((h.2.2.2.2.1 i hi).up _ _)) (fun j hj => setT_ne hk hj) hT
theorem RR.setPAt {D : Nat} {S : QLs} {M : QMs} (h : RR D S M) {i k : Nat} {x : Int32} (hi : i < qp S) (hk : k < 8) (hk2 : 2 ≤ k) (hP : PI (upd (qP S i) k x)) : RR D (sP S i (upd (qP S i) k x)) (mSetP M i k x) :=
  h.setP rfl rfl rfl rfl (setP_row hk (h.2.2.2.2.2.1 i hi)) (fun j q hj hq => setP_ne (by omega) hj hq) hP ⟨pk_un (by omega), pk_un (by omega)⟩
theorem qsum_b {f : Nat → Int32} {B : Int} (hB : 0 ≤ B ∧ B ≤ 100000000) : ∀ n, n ≤ 10 → (∀ i, i < n → 0 ≤ (f i).toInt ∧ (f i).toInt ≤ B) → 0 ≤ (qsum f n).toInt ∧ (qsum f n).toInt ≤ B * n
  | 0, _, _ => by rw [show qsum f 0 = 0 from rfl, i_0]; simp
  | n + 1, hn, h => by
    obtain ⟨a1, a2⟩ := qsum_b hB n (by omega) (fun i hi => h i (by omega))
    obtain ⟨b1, b2⟩ := h n (by omega)
    have hm : B * n ≤ 100000000 * 10 := Int.le_trans (Int.mul_le_mul_of_nonneg_right hB.2 (by omega)) (Int.mul_le_mul_of_nonneg_left (by omega) (by decide))
    have e : (qsum f (n + 1)).toInt = (qsum f n).toInt + (f n).toInt := i_add (by omega) (by omega)
    have e2 : B * ((n + 1 : Nat) : Int) = B * n + B := by rw [Int.natCast_add, Int.mul_add]; simp
    rw [e, e2]; omega
theorem RR.sum6 {D : Nat} {S : QLs} {M : QMs} (h : RR D S M) (hD : D ≤ 1000000) : 0 ≤ (mall M 6).toInt ∧ (mall M 6).toInt ≤ 200000000 := by
  rw [h.all (by decide)]
  have h1 := h.1.1
  obtain ⟨a, b⟩ := qsum_b (f := fun j => qT S j 6) (B := 20000000) (by omega) (qt S) h1 (fun i hi => by
    have := (h.2.2.2.2.2.2.1 i hi).2.2.2.2.2
    omega)
  exact ⟨a, by unfold sumT; omega⟩
theorem RR.sat {D : Nat} {S : QLs} {M : QMs} (h : RR D S M) {t : Nat} (ht : t < qt S) : ∀ d j, D + j + d < 1000000 → msatF M t d j = qsatF S t d j
  | 0, _, _ => rfl
  | d + 1, j, hb => by
    have h1 := s_days h j (by omega)
    have hq : t < qt (itN dayF j S) := by rw [(shp_days S j).1]; exact ht
    obtain ⟨h2, h3⟩ := s_day h1 (by omega)
    have hq2 : t < qt (dayL (itN dayF j S)) := by rw [(shp_day _).1]; exact hq
    have e5 := h2.at_ hq2 (show 5 < 8 by decide)
    have e2 := h2.at_ hq2 (show 2 < 8 by decide)
    have le := h3 t hq
    by_cases c : qT (dayL (itN dayF j S)) t 5 < qT (dayL (itN dayF j S)) t 2
    · rw [qsat_p c, msat_n (fun q => by rw [e5, e2] at q; rw [q] at c; exact absurd c (Int32.lt_irrefl)), h.sat ht d (j + 1) (by omega)]
    · rw [qsat_n c, msat_p (by
        rw [e5, e2]
        have : ¬ (qT (dayL (itN dayF j S)) t 5).toInt < (qT (dayL (itN dayF j S)) t 2).toInt := fun q => c (Int32.lt_iff_toInt_lt.mpr q)
        exact i_eq (by omega))]
theorem TI.s1 {D : Nat} {r : Nat → Int32} {x : Int32} (h : TI D r) (hx : 0 ≤ x.toInt ∧ x.toInt ≤ 20) : TI D (upd r 1 x) := by
  obtain ⟨t0, t1, t2, t3, t4, t6⟩ := h
  unfold TI
  rw [pk_us, pk_un (show 0 ≠ 1 by decide), pk_un (show 2 ≠ 1 by decide), pk_un (show 3 ≠ 1 by decide), pk_un (show 4 ≠ 1 by decide), pk_un (show 6 ≠ 1 by decide)]
  exact ⟨t0, hx, t2, t3, t4, t6⟩
theorem TI.s2 {D : Nat} {r : Nat → Int32} {x : Int32} (h : TI D r) (hx : 0 ≤ x.toInt ∧ x.toInt ≤ 20) : TI D (upd r 2 x) := by
  obtain ⟨t0, t1, t2, t3, t4, t6⟩ := h
  unfold TI
  rw [pk_us, pk_un (show 0 ≠ 2 by decide), pk_un (show 1 ≠ 2 by decide), pk_un (show 3 ≠ 2 by decide), pk_un (show 4 ≠ 2 by decide), pk_un (show 6 ≠ 2 by decide)]
  exact ⟨t0, t1, hx, t3, t4, t6⟩
theorem TI.s3 {D : Nat} {r : Nat → Int32} {x : Int32} (h : TI D r) (hx : 0 ≤ x.toInt ∧ x.toInt ≤ 200) : TI D (upd r 3 x) := by
  obtain ⟨t0, t1, t2, t3, t4, t6⟩ := h
  unfold TI
  rw [pk_us, pk_un (show 0 ≠ 3 by decide), pk_un (show 1 ≠ 3 by decide), pk_un (show 2 ≠ 3 by decide), pk_un (show 4 ≠ 3 by decide), pk_un (show 6 ≠ 3 by decide)]
  exact ⟨t0, t1, t2, hx, t4, t6⟩
theorem TI.s4 {D : Nat} {r : Nat → Int32} {x : Int32} (h : TI D r) (hx : 0 ≤ x.toInt ∧ x.toInt ≤ 99) : TI D (upd r 4 x) := by
  obtain ⟨t0, t1, t2, t3, t4, t6⟩ := h
  unfold TI
  rw [pk_us, pk_un (show 0 ≠ 4 by decide), pk_un (show 1 ≠ 4 by decide), pk_un (show 2 ≠ 4 by decide), pk_un (show 3 ≠ 4 by decide), pk_un (show 6 ≠ 4 by decide)]
  exact ⟨t0, t1, t2, t3, hx, t6⟩
theorem i_rng {x : Int32} {a b : Int32} (h : a ≤ x ∧ x ≤ b) : a.toInt ≤ x.toInt ∧ x.toInt ≤ b.toInt := ⟨Int32.le_iff_toInt_le.mp h.1, Int32.le_iff_toInt_le.mp h.2⟩
theorem RR.set {D : Nat} {S : QLs} {M : QMs} (h : RR D S M) {i : Nat} {x y : Int32} (hi : i < qt S) (hx : 0 ≤ x ∧ x ≤ 20) (hy : 0 ≤ y ∧ y ≤ 20) : RR D (sT (sT S i (upd (qT S i) 1 x)) i (upd (qT (sT S i (upd (qT S i) 1 x)) i) 2 y)) (mSetT (mSetT M i 1 x) i 2 y) := by
  have hx := i_rng hx; have hy := i_rng hy
  rw [i_0, i_20] at hx hy
  have h1 := h.setAt hi (show 1 < 8 by decide) ((h.2.2.2.2.2.2.1 i hi).s1 hx)
  exact h1.setAt hi (by decide) ((h1.2.2.2.2.2.2.1 i hi).s2 hy)
theorem RR.flush {D : Nat} {S : QLs} {M : QMs} (h : RR D S M) {i : Nat} (hi : i < qt S) : RR D (sT (sT S i (upd (qT S i) 4 0)) i (upd (qT (sT S i (upd (qT S i) 4 0)) i) 3 (qT (sT S i (upd (qT S i) 4 0)) i 3 / 2))) (mSetT (mSetT M i 4 0) i 3 (mA (mSetT M i 4 0) (8 * i + 3) / 2)) := by
  have h1 := h.setAt hi (show 4 < 8 by decide) ((h.2.2.2.2.2.2.1 i hi).s4 (x := 0) (by rw [i_0]; omega))
  rw [h1.at_ (i := i) hi (show 3 < 8 by decide)]
  refine h1.setAt hi (by decide) ((h1.2.2.2.2.2.2.1 i hi).s3 ?_)
  have h3 := (h1.2.2.2.2.2.2.1 i hi).2.2.2.1
  rw [i_div h3.1 (by decide), show (2 : Int32).toInt = 2 by decide]; omega
theorem RR.scrape {D : Nat} {S : QLs} {M : QMs} (h : RR D S M) {i : Nat} (hi : i < qp S) : RR D (sP S i (upd (qP S i) 4 0)) (mSetP M i 4 0) := by
  have hP := h.2.2.2.2.2.2.2 i hi
  refine h.setPAt hi (by decide) (by decide) ?_
  unfold PI
  rw [pk_us, pk_un (show 2 ≠ 4 by decide), pk_un (show 3 ≠ 4 by decide), pk_un (show 9 ≠ 4 by decide), i_0]
  exact ⟨hP.1, hP.2.1, by omega, hP.2.2.2⟩
theorem RR.steal {D : Nat} {S : QLs} {M : QMs} (h : RR D S M) {i : Nat} {x : Int32} (hi : i < qp S) (hx : 0 ≤ x ∧ x ≤ 9) : RR D (sP S i (upd (qP S i) 9 x)) (mSetP M i 8 x) := by
  have hP := h.2.2.2.2.2.2.2 i hi
  have hx := i_rng hx
  rw [i_0, show (9 : Int32).toInt = 9 by decide] at hx
  refine h.setP rfl rfl rfl rfl (setP_tap (h.2.2.2.2.2.1 i hi)) (fun j q hj hq => setP_ne (by decide) hj hq) ?_ ⟨pk_un (by decide), pk_un (by decide)⟩
  unfold PI
  rw [pk_us, pk_un (show 2 ≠ 9 by decide), pk_un (show 3 ≠ 9 by decide), pk_un (show 4 ≠ 9 by decide)]
  exact ⟨hP.1, hP.2.1, hP.2.2.1, hx⟩
