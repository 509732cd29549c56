/-! PART 47: reach -/
abbrev tb (x : Int32) (i : Nat) : Bool := x.toBitVec.getLsbD i
theorem tb_s1 : ∀ l, l < 32 → ((1 : Int32) <<< (nI l &&& 31)).toBitVec = BitVec.twoPow 32 l := by decide +kernel
theorem tb_sl : ∀ n, n < 32 → ((nI n &&& 31).toBitVec.smod 32).toNat = n := by decide +kernel
theorem tb_and (r : Int32) {f : Nat} (hf : f < 32) : r &&& (1 <<< (nI f &&& 31)) = 0 ↔ tb r f = false := by
  rw [← Int32.toBitVec_inj, Int32.toBitVec_and, tb_s1 f hf, BitVec.and_twoPow]
  constructor
  · intro h
    cases hq : tb r f with
    | false => rfl
    | true =>
      rw [if_pos hq] at h
      have h2 := congrArg (fun v => BitVec.getLsbD v f) h
      have h3 : (BitVec.twoPow 32 f).getLsbD f = false := h2.trans BitVec.getLsbD_zero
      rw [BitVec.getLsbD_twoPow] at h3
      simp [hf] at h3
  · intro h
    rw [if_neg (show ¬ tb r f = true by rw [h]; decide)]; rfl
theorem tb_shr (r : Int32) {f : Nat} (hf : f < 31) : (r >>> (nI f &&& 31)) &&& 1 = 1 ↔ tb r f = true := by
  have e0 : tb (r >>> (nI f &&& 31)) 0 = tb r f := by
    show (r >>> (nI f &&& 31)).toBitVec.getLsbD 0 = _
    rw [Int32.toBitVec_shiftRight]
    show (BitVec.sshiftRight r.toBitVec (((nI f &&& 31).toBitVec.smod 32).toNat)).getLsbD 0 = _
    rw [tb_sl f (by omega), BitVec.getLsbD_sshiftRight]
    simp [show f < 32 by omega]
  have e1 : (r >>> (nI f &&& 31)) &&& 1 = nI ((r >>> (nI f &&& 31)).toBitVec.toNat % 2 ^ 1) := pk_and _ 1 (by decide)
  rw [e1, ← e0]
  show _ ↔ Nat.testBit _ 0 = true
  rw [Nat.testBit_zero]
  rcases Nat.mod_two_eq_zero_or_one (r >>> (nI f &&& 31)).toBitVec.toNat with h | h
  · rw [show (2 : Nat) ^ 1 = 2 from rfl, h]; decide
  · rw [show (2 : Nat) ^ 1 = 2 from rfl, h]; decide
theorem tb_or (r : Int32) {t : Nat} (ht : t < 32) (j : Nat) : tb (r ||| (1 <<< (nI t &&& 31))) j = (tb r j || decide (j = t)) := by
  show (r ||| _).toBitVec.getLsbD j = _
  rw [Int32.toBitVec_or, tb_s1 t ht, BitVec.getLsbD_or, BitVec.getLsbD_twoPow]
  congr 1
  by_cases h : t = j
  · subst h; simp [ht]
  · simp [h, show ¬ j = t from fun q => h q.symm]
/-- bits are added, and only of tanks -/
def Gb (n : Nat) (r q : Int32) : Prop := (∀ j, tb r j = true → tb q j = true) ∧ ((∀ j, tb r j = true → j < n) → ∀ j, tb q j = true → j < n)
theorem Gb.rf {n : Nat} {r : Int32} : Gb n r r := ⟨fun _ h => h, fun h => h⟩
theorem Gb.tr {n : Nat} {r q s : Int32} (h : Gb n r q) (h2 : Gb n q s) : Gb n r s := ⟨fun j hj => h2.1 j (h.1 j hj), fun hr => h2.2 (h.2 hr)⟩
theorem gb_or {n t : Nat} {r : Int32} (ht : t < n) (hn : n ≤ 10) : Gb n r (r ||| (1 <<< (nI t &&& 31))) := by
  refine ⟨fun j hj => by rw [tb_or r (by omega), hj]; rfl, fun hr j hj => ?_⟩
  rw [tb_or r (by omega)] at hj
  rcases Bool.or_eq_true_iff.mp hj with h | h
  · exact hr j h
  · have := of_decide_eq_true h; omega
theorem gb_step {S : QLs} (hk : LOk S) {x r : Int32} {k : Nat} (h : k < qp S) : Gb (qt S) r (rStep S x k r) := by
  obtain ⟨-, a2, -, -, a5⟩ := hk.2.2 k h
  unfold rStep
  rw [a5]
  split
  · exact gb_or a2 hk.1
  · split
    · exact Gb.rf
    · exact gb_or a2 hk.1
theorem gb_round {S : QLs} (hk : LOk S) (x r : Int32) : ∀ m, m ≤ qp S → Gb (qt S) r (itN (rStep S x) m r)
  | 0, _ => Gb.rf
  | m + 1, hm => (gb_round hk x r m (by omega)).tr (gb_step hk (by omega))
def qc (r : Int32) : Nat → Nat
  | 0 => 0
  | m + 1 => qc r m + (if tb r m = true then 1 else 0)
theorem qc_le (r : Int32) : ∀ m, qc r m ≤ m
  | 0 => Nat.le_refl _
  | m + 1 => by have := qc_le r m; show qc r m + _ ≤ _; split <;> omega
theorem qc_mono {r q : Int32} (h : ∀ j, tb r j = true → tb q j = true) : ∀ m, qc r m ≤ qc q m
  | 0 => Nat.le_refl _
  | m + 1 => by
    have := qc_mono h m
    show qc r m + _ ≤ qc q m + _
    by_cases c : tb r m = true
    · rw [if_pos c, if_pos (h m c)]; omega
    · rw [if_neg c]; omega
theorem qc_lt {r q : Int32} (h : ∀ j, tb r j = true → tb q j = true) {i : Nat} (h1 : ¬ tb r i = true) (h2 : tb q i = true) : ∀ m, i < m → qc r m < qc q m
  | 0, hi => absurd hi (Nat.not_lt_zero _)
  | m + 1, hi => by
    show qc r m + _ < qc q m + _
    by_cases e : i = m
    · subst e
      have := qc_mono h i
      rw [if_neg h1, if_pos h2]; omega
    · have := qc_lt h h1 h2 m (by omega)
      by_cases c : tb r m = true
      · rw [if_pos c, if_pos (h m c)]; omega
      · rw [if_neg c]; omega
theorem gb_ne {n : Nat} {r q : Int32} (h : Gb n r q) (hr : ∀ j, tb r j = true → j < n) (hne : q ≠ r) : qc r n < qc q n := by
  have hex : ∃ i, ¬ tb r i = true ∧ tb q i = true := by
    apply Classical.byContradiction
    intro hno
    apply hne
    apply Int32.toBitVec_inj.mp
    apply BitVec.eq_of_getLsbD_eq
    intro i hi
    show tb q i = tb r i
    cases h1 : tb r i with
    | true => exact h.1 i h1
    | false =>
      cases h2 : tb q i with
      | false => rfl
      | true => exact absurd ⟨i, (by rw [h1]; decide), h2⟩ hno
  obtain ⟨i, h1, h2⟩ := hex
  exact qc_lt h.1 h1 h2 n (h.2 hr i h2)
theorem fix_round {S : QLs} (hk : LOk S) (x : Int32) : ∀ i, (∀ j, tb (itN (fun _ r => rRound S x r) (i + 1) 0) j = true → j < qt S) ∧ (itN (fun _ r => rRound S x r) (i + 1) 0 = itN (fun _ r => rRound S x r) i 0 ∨ i + 1 ≤ qc (itN (fun _ r => rRound S x r) (i + 1) 0) (qt S))
  | 0 => by
    have h0 : ∀ j, tb (0 : Int32) j = true → j < qt S := fun j hj => by rw [show tb (0 : Int32) j = false from BitVec.getLsbD_zero] at hj; cases hj
    have hg := gb_round hk x 0 (qp S) (Nat.le_refl _)
    refine ⟨hg.2 h0, ?_⟩
    by_cases e : rRound S x 0 = 0
    · exact Or.inl e
    · right
      have := gb_ne hg h0 e
      show 0 + 1 ≤ qc (rRound S x 0) (qt S)
      exact Nat.lt_of_le_of_lt (Nat.zero_le _) this
  | i + 1 => by
    obtain ⟨h1, h2⟩ := fix_round hk x i
    obtain ⟨r, er⟩ : ∃ r, r = itN (fun _ r => rRound S x r) (i + 1) 0 := ⟨_, rfl⟩
    have e2 : itN (fun _ r => rRound S x r) (i + 1 + 1) 0 = rRound S x r := by rw [er]; rfl
    rw [← er] at h1 h2
    rw [e2, ← er]
    have hg : Gb (qt S) r (rRound S x r) := gb_round hk x r (qp S) (Nat.le_refl _)
    refine ⟨hg.2 h1, ?_⟩
    by_cases e : rRound S x r = r
    · exact Or.inl e
    · right
      have h3 := gb_ne hg h1 e
      rcases h2 with h2 | h2
      · exfalso; apply e
        have e3 : r = rRound S x (itN (fun _ r => rRound S x r) i 0) := er
        rw [← h2] at e3; exact e3.symm
      · omega
theorem reach_fix {S : QLs} (hk : LOk S) (x : Int32) : itN (fun _ r => rRound S x r) (qt S + 1) 0 = itN (fun _ r => rRound S x r) (qt S) 0 := by
  rcases (fix_round hk x (qt S)).2 with h | h
  · exact h
  · have := qc_le (itN (fun _ r => rRound S x r) (qt S + 1) 0) (qt S); omega
theorem itN_c {α : Type} {f g : Nat → α → α} (a : α) : ∀ n, (∀ i a, i < n → f i a = g i a) → itN f n a = itN g n a
  | 0, _ => rfl
  | n + 1, h => by
    show f n (itN f n a) = g n (itN g n a)
    rw [itN_c a n (fun i a hi => h i a (by omega)), h n _ (by omega)]
theorem RR.reach {D : Nat} {S : QLs} {M : QMs} (h : RR D S M) (x : Int32) : mreach M x = reachL S x := by
  have hr : ∀ r, mrRound M x r = rRound S x r := fun r => by
    unfold mrRound rRound
    rw [h.2.2.1]
    refine itN_c r _ (fun k r hk => ?_)
    obtain ⟨a1, a2, -, a4, a5⟩ := h.1.2.2 k hk
    have h10 := h.1.1
    unfold mrStep rStep
    rw [h.bt_ hk (show 0 < 8 by decide), h.bt_ hk (show 1 < 8 by decide), a4]
    by_cases c : nI (qf S k) = x
    · rw [if_pos c, if_pos c]
    · rw [if_neg c, if_neg c]
      cases hq : tb r (qf S k) with
      | true => rw [if_neg (fun q => q ((tb_shr r (by omega)).mpr hq)), if_neg (fun q => by rw [(tb_and r (by omega)).mp q] at hq; cases hq)]
      | false => rw [if_pos (fun q => by rw [(tb_shr r (by omega)).mp q] at hq; cases hq), if_pos ((tb_and r (by omega)).mpr hq)]
  have e : mreach M x = itN (fun _ r => rRound S x r) (qt S + 1) 0 := by
    unfold mreach
    rw [h.2.1]
    exact itN_c 0 _ (fun i r _ => hr r)
  rw [e]
  exact reach_fix h.1 x
