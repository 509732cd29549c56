/-! PART 61: the world of the law: the class's cells, the hand-made land, int arrays behind them -/
abbrev US : Type := QLs × QLs × QLs × (Nat → Nat × (Nat → Int32))
/-- the class's two lands -/
def pr (X Y : QLs) : Nat → QLs := va_up (fun _ => Y) 0 X
theorem pr0 (X Y : QLs) : pr X Y 0 = X := va_up_self _ _ _
theorem pr1 (X Y : QLs) : pr X Y 1 = Y := va_up_ne _ _ (by decide)
theorem XAt.cg {z : QZ} {σ τ : Nat → QLs} {ct : Nat → va_E} (h : XAt z σ ct) (h0 : τ 0 = σ 0) (h1 : τ 1 = σ 1) : XAt z τ ct := by
  refine ⟨h.1, fun b hb => ?_⟩
  rcases (show b = 0 ∨ b = 1 by omega) with rfl | rfl
  · rw [h0]; exact h.2 0 (by omega)
  · rw [h1]; exact h.2 1 (by omega)
theorem XAt.off {z : QZ} {σ : Nat → QLs} {ct ct2 : Nat → va_E} (h : XAt z σ ct) (hk : ∀ k, k < 55 → ct2 k = ct k) : XAt z σ ct2 :=
  ⟨by rw [hk 0 (by omega)]; exact h.1, fun b hb => (h.2 b hb).off (fun k h1 h2 => hk k (by omega))⟩
abbrev tkV (r : Nat → Int32) : List Value := [.int (r 0), .int (r 1), .int (r 2), .int (r 3), .int (r 4), .int (r 5), .int (r 6), .int (r 7)]
abbrev ppV (r : Nat → Int32) : List Value := [.int (r 0), .int (r 1), .int (r 2), .int (r 3), .int (r 4), .int (r 9), .int (r 5), .int (r 6), .int (r 7)]
/-- the place in the class's row of the j-th field of a pipe made by hand -/
def fjP : Nat → Nat := fun j => match j with
  | 5 => 9
  | 6 => 5
  | 7 => 6
  | 8 => 7
  | k => k
theorem tkV_get {r : Nat → Int32} {j : Nat} (h : j < 8) : (tkV r)[j]? = some (.int (r j)) := by
  rcases (show j = 0 ∨ j = 1 ∨ j = 2 ∨ j = 3 ∨ j = 4 ∨ j = 5 ∨ j = 6 ∨ j = 7 by omega) with rfl | rfl | rfl | rfl | rfl | rfl | rfl | rfl <;> rfl
theorem ppV_get {r : Nat → Int32} {j : Nat} (h : j < 9) : (ppV r)[j]? = some (.int (r (fjP j))) := by
  rcases (show j = 0 ∨ j = 1 ∨ j = 2 ∨ j = 3 ∨ j = 4 ∨ j = 5 ∨ j = 6 ∨ j = 7 ∨ j = 8 by omega) with rfl | rfl | rfl | rfl | rfl | rfl | rfl | rfl | rfl <;> rfl
theorem tkV_set {r : Nat → Int32} {j : Nat} (h : j < 8) (x : Int32) : (tkV r).set j (.int x) = tkV (upd r j x) := by
  rcases (show j = 0 ∨ j = 1 ∨ j = 2 ∨ j = 3 ∨ j = 4 ∨ j = 5 ∨ j = 6 ∨ j = 7 by omega) with rfl | rfl | rfl | rfl | rfl | rfl | rfl | rfl <;> simp [upd]
theorem ppV_set {r : Nat → Int32} {j : Nat} (h : j < 9) (x : Int32) : (ppV r).set j (.int x) = ppV (upd r (fjP j) x) := by
  rcases (show j = 0 ∨ j = 1 ∨ j = 2 ∨ j = 3 ∨ j = 4 ∨ j = 5 ∨ j = 6 ∨ j = 7 ∨ j = 8 by omega) with rfl | rfl | rfl | rfl | rfl | rfl | rfl | rfl | rfl <;> simp [upd, fjP]
/-- slots: 0 and 1 the two arrays, 2 + i the tanks, 12 + k the pipes -/
def sUsed (t p a : Nat) : Prop := a < 2 + t ∨ (12 ≤ a ∧ a < 12 + p)
theorem su0 {t p : Nat} : sUsed t p 0 := Or.inl (by omega)
theorem su1 {t p : Nat} : sUsed t p 1 := Or.inl (by omega)
theorem suT {t p i : Nat} (h : i < t) : sUsed t p (2 + i) := Or.inl (by omega)
theorem suP {t p k : Nat} (h : k < p) : sUsed t p (12 + k) := Or.inr ⟨by omega, by omega⟩
def IxOk (ix : Nat → Nat) (t p b : Nat) : Prop := (t ≤ 10 ∧ p ≤ 14 ∧ 56 ≤ b) ∧ (∀ a, sUsed t p a → 56 ≤ ix a ∧ ix a < b) ∧ ∀ a c, sUsed t p a → sUsed t p c → ix a = ix c → a = c
def simV (z : QZ) (ix : Nat → Nat) (t p : Nat) (S : QLs) (a : Nat) : va_E :=
  if a = 0 then .inl (zA z, t, .inr (.inr (.inr (.inr (fun k => if k < t then some (za z (ix (2 + k))) else none)))))
  else if a = 1 then .inl (zB z, p, .inr (.inr (.inr (.inr (fun k => if k < p then some (za z (ix (12 + k))) else none)))))
  else if a < 12 then .inr (4, tkV (qT S (a - 2))) else .inr (2, ppV (qP S (a - 12)))
theorem simV_T {z : QZ} {ix : Nat → Nat} {t p : Nat} {S : QLs} {i : Nat} (h : i < 10) : simV z ix t p S (2 + i) = .inr (4, tkV (qT S i)) := by
  unfold simV
  rw [if_neg (by omega), if_neg (by omega), if_pos (by omega), show 2 + i - 2 = i by omega]
theorem simV_P {z : QZ} {ix : Nat → Nat} {t p : Nat} {S : QLs} {k : Nat} : simV z ix t p S (12 + k) = .inr (2, ppV (qP S k)) := by
  unfold simV
  rw [if_neg (by omega), if_neg (by omega), if_neg (by omega), show 12 + k - 12 = k by omega]
def SAt (z : QZ) (ix : Nat → Nat) (t p b : Nat) (S : QLs) (ct : Nat → va_E) : Prop :=
  IxOk ix t p b ∧ qt S = t ∧ qp S = p ∧ ct 55 = .inr (3, [.ref (za z (ix 0)), .ref (za z (ix 1)), .int (qD S)]) ∧ ∀ a, sUsed t p a → ct (ix a) = simV z ix t p S a
theorem SAt.off {z : QZ} {ix : Nat → Nat} {t p b b2 : Nat} {S : QLs} {ct ct2 : Nat → va_E} (h : SAt z ix t p b S ct) (hb : b ≤ b2) (hk : ∀ k, 55 ≤ k → k < b → ct2 k = ct k) : SAt z ix t p b2 S ct2 := by
  obtain ⟨⟨h1, h2, h3⟩, h4, h5, h6, h7⟩ := h
  refine ⟨⟨⟨h1.1, h1.2.1, by omega⟩, fun a ha => ⟨(h2 a ha).1, by have := (h2 a ha).2; omega⟩, h3⟩, h4, h5, ?_, fun a ha => ?_⟩
  · rw [hk 55 (by omega) (by omega)]; exact h6
  · have := h2 a ha
    rw [hk _ (by omega) (by omega)]; exact h7 a ha
theorem SAt.put {z : QZ} {ix : Nat → Nat} {t p b : Nat} {S S2 : QLs} {ct : Nat → va_E} {a : Nat} {e : va_E} (h : SAt z ix t p b S ct) (ha : sUsed t p a) (ht : qt S2 = qt S) (hp : qp S2 = qp S) (hD : qD S2 = qD S) (he : e = simV z ix t p S2 a) (hne : ∀ c, sUsed t p c → c ≠ a → simV z ix t p S2 c = simV z ix t p S c) : SAt z ix t p b S2 (va_up ct (ix a) e) := by
  obtain ⟨⟨h1, h2, h3⟩, h4, h5, h6, h7⟩ := h
  subst he
  have h9 := h2 a ha
  refine ⟨⟨h1, h2, h3⟩, ht.trans h4, hp.trans h5, ?_, fun c hc => ?_⟩
  · rw [va_up_ne _ _ (by omega), hD]; exact h6
  · by_cases e : c = a
    · subst e; rw [va_up_self]
    · rw [va_up_ne _ _ (fun q => e (h3 _ _ hc ha q)), hne c hc e]; exact h7 c hc
theorem SAt.putT {z : QZ} {ix : Nat → Nat} {t p b : Nat} {S : QLs} {ct : Nat → va_E} {i : Nat} (h : SAt z ix t p b S ct) (hi : i < t) (r : Nat → Int32) : SAt z ix t p b (sT S i r) (va_up ct (ix (2 + i)) (.inr (4, tkV r))) := by
  have h10 : t ≤ 10 := h.1.1.1
  refine h.put (suT hi) rfl rfl rfl (by rw [simV_T (by omega), show qT (sT S i r) i = r from va_up_self _ _ _]) (fun c hc hne => ?_)
  by_cases h2 : c < 2
  · rcases (show c = 0 ∨ c = 1 by omega) with rfl | rfl <;> rfl
  · by_cases h12 : c < 12
    · obtain ⟨j, rfl⟩ : ∃ j, c = 2 + j := ⟨c - 2, by omega⟩
      rw [simV_T (by omega), simV_T (by omega), show qT (sT S i r) j = qT S j from va_up_ne _ _ (by omega)]
    · obtain ⟨j, rfl⟩ : ∃ j, c = 12 + j := ⟨c - 12, by omega⟩
      rw [simV_P, simV_P]; rfl
theorem SAt.putP {z : QZ} {ix : Nat → Nat} {t p b : Nat} {S : QLs} {ct : Nat → va_E} {i : Nat} (h : SAt z ix t p b S ct) (hi : i < p) (r : Nat → Int32) : SAt z ix t p b (sP S i r) (va_up ct (ix (12 + i)) (.inr (2, ppV r))) := by
  refine h.put (suP hi) rfl rfl rfl (by rw [simV_P, show qP (sP S i r) i = r from va_up_self _ _ _]) (fun c hc hne => ?_)
  by_cases h2 : c < 2
  · rcases (show c = 0 ∨ c = 1 by omega) with rfl | rfl <;> rfl
  · by_cases h12 : c < 12
    · obtain ⟨j, rfl⟩ : ∃ j, c = 2 + j := ⟨c - 2, by omega⟩
      rw [simV_T (by omega), simV_T (by omega)]; rfl
    · obtain ⟨j, rfl⟩ : ∃ j, c = 12 + j := ⟨c - 12, by omega⟩
      rw [simV_P, simV_P, show qP (sP S i r) j = qP S j from va_up_ne _ _ (by omega)]
theorem SAt.putD {z : QZ} {ix : Nat → Nat} {t p b : Nat} {S : QLs} {ct : Nat → va_E} (h : SAt z ix t p b S ct) (d : Int32) : SAt z ix t p b (sD S d) (va_up ct 55 (.inr (3, [.ref (za z (ix 0)), .ref (za z (ix 1)), .int d]))) := by
  obtain ⟨⟨h1, h2, h3⟩, h4, h5, h6, h7⟩ := h
  refine ⟨⟨h1, h2, h3⟩, h4, h5, va_up_self _ _ _, fun a ha => ?_⟩
  have := h2 a ha
  rw [va_up_ne _ _ (by omega)]; exact h7 a ha
/-- two lands of which the hand-made one can't tell the difference -/
def SEq (S S2 : QLs) : Prop := qt S2 = qt S ∧ qp S2 = qp S ∧ qD S2 = qD S ∧ (∀ i, i < qt S → ∀ k, k < 8 → qT S2 i k = qT S i k) ∧ ∀ i, i < qp S → ∀ k, k < 8 ∨ k = 9 → qP S2 i k = qP S i k
theorem SEq.rf {S : QLs} : SEq S S := ⟨rfl, rfl, rfl, fun _ _ _ _ => rfl, fun _ _ _ _ => rfl⟩
theorem SEq.tr {S S2 S3 : QLs} (h : SEq S S2) (g : SEq S2 S3) : SEq S S3 := ⟨g.1.trans h.1, g.2.1.trans h.2.1, g.2.2.1.trans h.2.2.1, fun i hi k hk => (g.2.2.2.1 i (by rw [h.1]; exact hi) k hk).trans (h.2.2.2.1 i hi k hk), fun i hi k hk => (g.2.2.2.2 i (by rw [h.2.1]; exact hi) k hk).trans (h.2.2.2.2 i hi k hk)⟩
theorem SEq.sy {S S2 : QLs} (h : SEq S S2) : SEq S2 S := ⟨h.1.symm, h.2.1.symm, h.2.2.1.symm, fun i hi k hk => (h.2.2.2.1 i (by rw [← h.1]; exact hi) k hk).symm, fun i hi k hk => (h.2.2.2.2 i (by rw [← h.2.1]; exact hi) k hk).symm⟩
theorem tkV_cg {r q : Nat → Int32} (h : ∀ k, k < 8 → q k = r k) : tkV q = tkV r := by
  unfold tkV
  rw [h 0 (by omega), h 1 (by omega), h 2 (by omega), h 3 (by omega), h 4 (by omega), h 5 (by omega), h 6 (by omega), h 7 (by omega)]
theorem ppV_cg {r q : Nat → Int32} (h : ∀ k, k < 8 ∨ k = 9 → q k = r k) : ppV q = ppV r := by
  unfold ppV
  rw [h 0 (by omega), h 1 (by omega), h 2 (by omega), h 3 (by omega), h 4 (by omega), h 5 (by omega), h 6 (by omega), h 7 (by omega), h 9 (by omega)]
theorem SAt.cg {z : QZ} {ix : Nat → Nat} {t p b : Nat} {S S2 : QLs} {ct : Nat → va_E} (h : SAt z ix t p b S ct) (hs : SEq S S2) : SAt z ix t p b S2 ct := by
  obtain ⟨h1, h4, h5, h6, h7⟩ := h
  have h10 : t ≤ 10 := h1.1.1
  refine ⟨h1, hs.1.trans h4, hs.2.1.trans h5, by rw [hs.2.2.1]; exact h6, fun c hc => ?_⟩
  rw [h7 c hc]
  by_cases h2 : c < 2
  · rcases (show c = 0 ∨ c = 1 by omega) with rfl | rfl <;> rfl
  · by_cases h12 : c < 12
    · obtain ⟨j, rfl⟩ : ∃ j, c = 2 + j := ⟨c - 2, by omega⟩
      have hj : j < qt S := by rcases hc with hc | hc <;> omega
      rw [simV_T (by omega), simV_T (by omega), tkV_cg (hs.2.2.2.1 j hj)]
    · obtain ⟨j, rfl⟩ : ∃ j, c = 12 + j := ⟨c - 12, by omega⟩
      have hj : j < qp S := by rcases hc with hc | hc <;> omega
      rw [simV_P, simV_P, ppV_cg (hs.2.2.2.2 j hj)]
def UAt (z : QZ) (ix : Nat → Nat) (t p b n : Nat) (u : US) (ct : Nat → va_E) : Prop :=
  XAt z (pr u.1 u.2.1) ct ∧ SAt z ix t p b u.2.2.1 ct ∧ ∀ j, j < n → ct (b + j) = .inl (zI z, (u.2.2.2 j).1, .inl (u.2.2.2 j).2)
section UA
variable {z : QZ} {ix : Nat → Nat} {t p b n : Nat} {X Y S : QLs} {f : Nat → Nat × (Nat → Int32)} {ct : Nat → va_E}
theorem UAt.putT {i : Nat} (h : UAt z ix t p b n (X, Y, S, f) ct) (hi : i < t) (r : Nat → Int32) : UAt z ix t p b n (X, Y, sT S i r, f) (va_up ct (ix (2 + i)) (.inr (4, tkV r))) := by
  have h9 := h.2.1.1.2.1 _ (suT (p := p) hi)
  exact ⟨h.1.off (fun k hk => va_up_ne _ _ (by omega)), h.2.1.putT hi r, fun j hj => by rw [va_up_ne _ _ (by omega)]; exact h.2.2 j hj⟩
theorem UAt.putP {i : Nat} (h : UAt z ix t p b n (X, Y, S, f) ct) (hi : i < p) (r : Nat → Int32) : UAt z ix t p b n (X, Y, sP S i r, f) (va_up ct (ix (12 + i)) (.inr (2, ppV r))) := by
  have h9 := h.2.1.1.2.1 _ (suP (t := t) hi)
  exact ⟨h.1.off (fun k hk => va_up_ne _ _ (by omega)), h.2.1.putP hi r, fun j hj => by rw [va_up_ne _ _ (by omega)]; exact h.2.2 j hj⟩
theorem UAt.putD (h : UAt z ix t p b n (X, Y, S, f) ct) (d : Int32) : UAt z ix t p b n (X, Y, sD S d, f) (va_up ct 55 (.inr (3, [.ref (za z (ix 0)), .ref (za z (ix 1)), .int d]))) := by
  have h9 := h.2.1.1.1.2.2
  exact ⟨h.1.off (fun k hk => va_up_ne _ _ (by omega)), h.2.1.putD d, fun j hj => by rw [va_up_ne _ _ (by omega)]; exact h.2.2 j hj⟩
theorem UAt.putI {j : Nat} (h : UAt z ix t p b n (X, Y, S, f) ct) (hj : j < n) (g : Nat → Int32) : UAt z ix t p b n (X, Y, S, va_up f j ((f j).1, g)) (va_up ct (b + j) (.inl (zI z, (f j).1, .inl g))) := by
  have h9 := h.2.1.1.1.2.2
  refine ⟨h.1.off (fun k hk => va_up_ne _ _ (by omega)), h.2.1.off (Nat.le_refl _) (fun k h1 h2 => va_up_ne _ _ (by omega)), fun i hi => ?_⟩
  by_cases e : i = j
  · subst e; rw [va_up_self]; show _ = (.inl (zI z, (va_up f i _ i).1, .inl (va_up f i _ i).2) : va_E); rw [va_up_self]
  · rw [va_up_ne _ _ (by omega)]; show _ = (.inl (zI z, (va_up f j _ i).1, .inl (va_up f j _ i).2) : va_E); rw [va_up_ne _ _ e]; exact h.2.2 i hi
theorem UAt.cgS {S2 : QLs} (h : UAt z ix t p b n (X, Y, S, f) ct) (hs : SEq S S2) : UAt z ix t p b n (X, Y, S2, f) ct := ⟨h.1, h.2.1.cg hs, h.2.2⟩
/-- the arrays forgotten -/
theorem UAt.drop {f2 : Nat → Nat × (Nat → Int32)} (h : UAt z ix t p b n (X, Y, S, f) ct) (b2 : Nat) (hb : b ≤ b2) : UAt z ix t p b2 0 (X, Y, S, f2) ct := ⟨h.1, h.2.1.off hb (fun _ _ _ => rfl), fun j hj => by omega⟩
end UA
section UR
variable {p : Program} {l : Launch} {e : Env} {R : Room} {s : State} {m : MethodId} {args : Array Value} {below : List Frame} {meth : Method} {c : Code} {H : Heap} {locs : List Loc} {cells slots : Nat} {Q : State → Prop}
variable {cc : ByteArray} {nL : Nat} {ret : Option FieldType} {own : String} {ws : List Cond} {pc : Nat} {ls : Array Slot} {rest : List Value} {z : QZ} {c0 : Nat → va_E}
variable {ix : Nat → Nat} {t q b n : Nat} {X Y S : QLs} {f : Nat → Nat × (Nat → Int32)}
theorem GW.imp {α β : Type} {At : α → (Nat → va_E) → Prop} {At2 : β → (Nat → va_E) → Prop} {lo hi : Nat} {H0 : Heap} {a : α} {a2 : β} (h : GW z At lo hi H0 c0 a H locs) (hi2 : ∀ ct, At a ct → At2 a2 ct) : GW z At2 lo hi H0 c0 a2 H locs := by
  obtain ⟨ct, hP, hS, hA, hF, hn, hq⟩ := h
  exact ⟨ct, hP, hS, hi2 ct hA, hF, hn, hq⟩
theorem gw_ix {H0 : Heap} (h : GW z (UAt z ix t q b n) 0 (b + n) H0 c0 (X, Y, S, f) H locs) : IxOk ix t q b ∧ qt S = t ∧ qp S = q ∧ b + n ≤ zn z := by
  obtain ⟨ct, hP, hS, hA, hF, hn, hq⟩ := h
  exact ⟨hA.2.1.1, hA.2.1.2.1, hA.2.1.2.2.1, hn⟩
theorem U_gO (C0 : Cx p s m args meth c cc nL ret own ws) (hK : QK z s) (h : GW z (UAt z ix t q b n) 0 (b + n) s.heap c0 (X, Y, S, f) H locs) (hin : ∀ w ∈ u_ws RX3 TX3 3, w ∈ ws) (j : Nat) (hj : j < 3) {index : Nat} (hlink : Cond.fieldLink own index (TX3 j).1 (TX3 j).2.1 (TX3 j).2.2.1 ∈ ws) {v : Value} (hv : [Value.ref (za z (ix 0)), .ref (za z (ix 1)), .int (qD S)][j]? = some v) (hdg : decode cc pc = .ok (.getfield index, 3))
    (kk : W p l e R s m args below meth c H locs cells slots Q (F0 m (pc + 3) ls (v :: rest))) : W p l e R s m args below meth c H locs cells slots Q (F0 m pc ls (.ref (za z 55) :: rest)) := by
  obtain ⟨⟨⟨-, -, h9⟩, -⟩, -⟩ := gw_ix h
  exact G_get C0 hK h hin 3 rfl (by omega) (fun ct hA => hA.2.1.2.2.2.1) j hj hlink hv hdg kk
theorem U_pD (C0 : Cx p s m args meth c cc nL ret own ws) (hK : QK z s) (h : GW z (UAt z ix t q b n) 0 (b + n) s.heap c0 (X, Y, S, f) H locs) (hin : ∀ w ∈ u_ws RX3 TX3 3, w ∈ ws) {index : Nat} (hlink : Cond.fieldLink own index (TX3 2).1 (TX3 2).2.1 (TX3 2).2.2.1 ∈ ws) {x : Int32} (hdg : decode cc pc = .ok (.putfield index, 3))
    (kk : ∀ (H1 : Heap) (locs1 : List Loc) (S1 : QLs), S1 = sD S x → GW z (UAt z ix t q b n) 0 (b + n) s.heap c0 (X, Y, S1, f) H1 locs1 → W p l e R s m args below meth c H1 locs1 cells slots Q (F0 m (pc + 3) ls rest)) : W p l e R s m args below meth c H locs cells slots Q (F0 m pc ls (.int x :: .ref (za z 55) :: rest)) := by
  obtain ⟨⟨⟨-, -, h9⟩, -⟩, -⟩ := gw_ix h
  exact G_put C0 hK h hin 3 rfl tyX3 tyX3_ok nmX3 ⟨by omega, by omega⟩ (fun ct hA => hA.2.1.2.2.2.1) 2 (by decide) hlink rfl (tyX3_ok 2 (by decide)) (show 2 < 3 by decide) (a' := (X, Y, sD S x, f)) (fun ct hA => hA.putD x) hdg (fun H1 locs1 h1 => kk H1 locs1 _ rfl h1)
theorem U_gT (C0 : Cx p s m args meth c cc nL ret own ws) (hK : QK z s) (h : GW z (UAt z ix t q b n) 0 (b + n) s.heap c0 (X, Y, S, f) H locs) (hin : ∀ w ∈ u_ws RX4 TX4 8, w ∈ ws) {i : Nat} (hi : i < t) (j : Nat) (hj : j < 8) {index : Nat} (hlink : Cond.fieldLink own index (TX4 j).1 (TX4 j).2.1 (TX4 j).2.2.1 ∈ ws) (hdg : decode cc pc = .ok (.getfield index, 3))
    (kk : W p l e R s m args below meth c H locs cells slots Q (F0 m (pc + 3) ls (.int (qT S i j) :: rest))) : W p l e R s m args below meth c H locs cells slots Q (F0 m pc ls (.ref (za z (ix (2 + i))) :: rest)) := by
  obtain ⟨⟨⟨h8, -, h9⟩, h7, -⟩, -⟩ := gw_ix h
  have h6 := h7 _ (suT (p := q) hi)
  exact G_get C0 hK h hin 4 rfl (fs := tkV (qT S i)) (by omega) (fun ct hA => by rw [hA.2.1.2.2.2.2 _ (suT hi), simV_T (by omega)]) j hj hlink (tkV_get hj) hdg kk
theorem U_gP (C0 : Cx p s m args meth c cc nL ret own ws) (hK : QK z s) (h : GW z (UAt z ix t q b n) 0 (b + n) s.heap c0 (X, Y, S, f) H locs) (hin : ∀ w ∈ u_ws RX2 TX2 9, w ∈ ws) {i : Nat} (hi : i < q) (j : Nat) (hj : j < 9) {k9 : Nat} (hf9 : fjP j = k9) {index : Nat} (hlink : Cond.fieldLink own index (TX2 j).1 (TX2 j).2.1 (TX2 j).2.2.1 ∈ ws) (hdg : decode cc pc = .ok (.getfield index, 3))
    (kk : W p l e R s m args below meth c H locs cells slots Q (F0 m (pc + 3) ls (.int (qP S i k9) :: rest))) : W p l e R s m args below meth c H locs cells slots Q (F0 m pc ls (.ref (za z (ix (12 + i))) :: rest)) := by
  subst hf9
  obtain ⟨⟨⟨h8, -, h9⟩, h7, -⟩, -⟩ := gw_ix h
  have h6 := h7 _ (suP (t := t) hi)
  exact G_get C0 hK h hin 2 rfl (fs := ppV (qP S i)) (by omega) (fun ct hA => by rw [hA.2.1.2.2.2.2 _ (suP hi), simV_P]) j hj hlink (ppV_get hj) hdg kk
theorem U_pT (C0 : Cx p s m args meth c cc nL ret own ws) (hK : QK z s) (h : GW z (UAt z ix t q b n) 0 (b + n) s.heap c0 (X, Y, S, f) H locs) (hin : ∀ w ∈ u_ws RX4 TX4 8, w ∈ ws) {i : Nat} (hi : i < t) (j : Nat) (hj : j < 8) {index : Nat} (hlink : Cond.fieldLink own index (TX4 j).1 (TX4 j).2.1 (TX4 j).2.2.1 ∈ ws) {x : Int32} (hdg : decode cc pc = .ok (.putfield index, 3))
    (kk : ∀ (H1 : Heap) (locs1 : List Loc) (S1 : QLs), S1 = sT S i (upd (qT S i) j x) → GW z (UAt z ix t q b n) 0 (b + n) s.heap c0 (X, Y, S1, f) H1 locs1 → W p l e R s m args below meth c H1 locs1 cells slots Q (F0 m (pc + 3) ls rest)) : W p l e R s m args below meth c H locs cells slots Q (F0 m pc ls (.int x :: .ref (za z (ix (2 + i))) :: rest)) := by
  obtain ⟨⟨⟨h8, -, h9⟩, h7, -⟩, -⟩ := gw_ix h
  have h6 := h7 _ (suT (p := q) hi)
  have h5 : (TX4 j).2.2.2 = false := by rcases (show j = 0 ∨ j = 1 ∨ j = 2 ∨ j = 3 ∨ j = 4 ∨ j = 5 ∨ j = 6 ∨ j = 7 by omega) with rfl | rfl | rfl | rfl | rfl | rfl | rfl | rfl <;> rfl
  have h4 : tyX4 j = .int := by rcases (show j = 0 ∨ j = 1 ∨ j = 2 ∨ j = 3 ∨ j = 4 ∨ j = 5 ∨ j = 6 ∨ j = 7 by omega) with rfl | rfl | rfl | rfl | rfl | rfl | rfl | rfl <;> rfl
  exact G_put C0 hK h hin 4 rfl tyX4 tyX4_ok nmX4 (fs := tkV (qT S i)) ⟨by omega, by omega⟩ (fun ct hA => by rw [hA.2.1.2.2.2.2 _ (suT hi), simV_T (by omega)]) j hj hlink h5 (by rw [tyX4_ok j hj, h4]) (show j < 8 from hj) (a' := (X, Y, sT S i (upd (qT S i) j x), f)) (fun ct hA => by rw [tkV_set hj]; exact hA.putT hi _) hdg (fun H1 locs1 h1 => kk H1 locs1 _ rfl h1)
theorem U_pP (C0 : Cx p s m args meth c cc nL ret own ws) (hK : QK z s) (h : GW z (UAt z ix t q b n) 0 (b + n) s.heap c0 (X, Y, S, f) H locs) (hin : ∀ w ∈ u_ws RX2 TX2 9, w ∈ ws) {i : Nat} (hi : i < q) (j : Nat) (hj : j < 9) {k9 : Nat} (hf9 : fjP j = k9) {index : Nat} (hlink : Cond.fieldLink own index (TX2 j).1 (TX2 j).2.1 (TX2 j).2.2.1 ∈ ws) {x : Int32} (hdg : decode cc pc = .ok (.putfield index, 3))
    (kk : ∀ (H1 : Heap) (locs1 : List Loc) (S1 : QLs), S1 = sP S i (upd (qP S i) k9 x) → GW z (UAt z ix t q b n) 0 (b + n) s.heap c0 (X, Y, S1, f) H1 locs1 → W p l e R s m args below meth c H1 locs1 cells slots Q (F0 m (pc + 3) ls rest)) : W p l e R s m args below meth c H locs cells slots Q (F0 m pc ls (.int x :: .ref (za z (ix (12 + i))) :: rest)) := by
  subst hf9
  obtain ⟨⟨⟨h8, -, h9⟩, h7, -⟩, -⟩ := gw_ix h
  have h6 := h7 _ (suP (t := t) hi)
  have h5 : (TX2 j).2.2.2 = false := by rcases (show j = 0 ∨ j = 1 ∨ j = 2 ∨ j = 3 ∨ j = 4 ∨ j = 5 ∨ j = 6 ∨ j = 7 ∨ j = 8 by omega) with rfl | rfl | rfl | rfl | rfl | rfl | rfl | rfl | rfl <;> rfl
  have h4 : tyX2 j = .int := by rcases (show j = 0 ∨ j = 1 ∨ j = 2 ∨ j = 3 ∨ j = 4 ∨ j = 5 ∨ j = 6 ∨ j = 7 ∨ j = 8 by omega) with rfl | rfl | rfl | rfl | rfl | rfl | rfl | rfl | rfl <;> rfl
  exact G_put C0 hK h hin 2 rfl tyX2 tyX2_ok nmX2 (fs := ppV (qP S i)) ⟨by omega, by omega⟩ (fun ct hA => by rw [hA.2.1.2.2.2.2 _ (suP hi), simV_P]) j hj hlink h5 (by rw [tyX2_ok j hj, h4]) (show j < 9 from hj) (a' := (X, Y, sP S i (upd (qP S i) (fjP j) x), f)) (fun ct hA => by rw [ppV_set hj]; exact hA.putP hi _) hdg (fun H1 locs1 h1 => kk H1 locs1 _ rfl h1)
theorem U_lT (C0 : Cx p s m args meth c cc nL ret own ws) (hK : QK z s) (h : GW z (UAt z ix t q b n) 0 (b + n) s.heap c0 (X, Y, S, f) H locs) (hdg : decode cc pc = .ok (.arraylength, 1))
    (kk : W p l e R s m args below meth c H locs cells slots Q (F0 m (pc + 1) ls (.int (nI t) :: rest))) : W p l e R s m args below meth c H locs cells slots Q (F0 m pc ls (.ref (za z (ix 0)) :: rest)) := by
  obtain ⟨⟨-, h7, -⟩, -⟩ := gw_ix h
  have h6 := h7 _ (su0 (t := t) (p := q))
  obtain ⟨ct, hP, hS, hA, hF, hn, hq⟩ := h
  exact va_alen (x := (t, .inr (.inr (.inr (.inr (fun k => if k < t then some (za z (ix (2 + k))) else none)))))) C0.1 C0.2.1 hK.1 hP (ix 0) 2 ((wd_get (by omega)).trans (by rw [hA.2.1.2.2.2.2 _ su0]; rfl)) rfl rfl hdg kk
theorem U_lP (C0 : Cx p s m args meth c cc nL ret own ws) (hK : QK z s) (h : GW z (UAt z ix t q b n) 0 (b + n) s.heap c0 (X, Y, S, f) H locs) (hdg : decode cc pc = .ok (.arraylength, 1))
    (kk : W p l e R s m args below meth c H locs cells slots Q (F0 m (pc + 1) ls (.int (nI q) :: rest))) : W p l e R s m args below meth c H locs cells slots Q (F0 m pc ls (.ref (za z (ix 1)) :: rest)) := by
  obtain ⟨⟨-, h7, -⟩, -⟩ := gw_ix h
  have h6 := h7 _ (su1 (t := t) (p := q))
  obtain ⟨ct, hP, hS, hA, hF, hn, hq⟩ := h
  exact va_alen (x := (q, .inr (.inr (.inr (.inr (fun k => if k < q then some (za z (ix (12 + k))) else none)))))) C0.1 C0.2.1 hK.1 hP (ix 1) 3 ((wd_get (by omega)).trans (by rw [hA.2.1.2.2.2.2 _ su1]; rfl)) rfl rfl hdg kk
theorem U_aT (C0 : Cx p s m args meth c cc nL ret own ws) (hK : QK z s) (h : GW z (UAt z ix t q b n) 0 (b + n) s.heap c0 (X, Y, S, f) H locs) {i : Nat} {x : Int32} (hx : x = nI i) (hi : i < t) (hdg : decode cc pc = .ok (.aaload, 1))
    (kk : W p l e R s m args below meth c H locs cells slots Q (F0 m (pc + 1) ls (.ref (za z (ix (2 + i))) :: rest))) : W p l e R s m args below meth c H locs cells slots Q (F0 m pc ls (.int x :: .ref (za z (ix 0)) :: rest)) := by
  obtain ⟨⟨h8, h7, -⟩, -⟩ := gw_ix h
  have h6 := h7 _ (su0 (t := t) (p := q))
  obtain ⟨ct, hP, hS, hA, hF, hn, hq⟩ := h
  subst hx
  have e1 : (nI i).toNatClampNeg = i := nI_clamp (by omega)
  refine va_aldq (n := t) (f := fun k => if k < t then some (za z (ix (2 + k))) else none) C0.1 C0.2.1 hK.1 hP (ix 0) 2 ((wd_get (by omega)).trans (by rw [hA.2.1.2.2.2.2 _ su0]; rfl)) rfl (vp_in_nI hi (by omega)) hdg ?_
  rw [e1, if_pos hi]; exact kk
theorem U_aP (C0 : Cx p s m args meth c cc nL ret own ws) (hK : QK z s) (h : GW z (UAt z ix t q b n) 0 (b + n) s.heap c0 (X, Y, S, f) H locs) {i : Nat} {x : Int32} (hx : x = nI i) (hi : i < q) (hdg : decode cc pc = .ok (.aaload, 1))
    (kk : W p l e R s m args below meth c H locs cells slots Q (F0 m (pc + 1) ls (.ref (za z (ix (12 + i))) :: rest))) : W p l e R s m args below meth c H locs cells slots Q (F0 m pc ls (.int x :: .ref (za z (ix 1)) :: rest)) := by
  obtain ⟨⟨h8, h7, -⟩, -⟩ := gw_ix h
  have h6 := h7 _ (su1 (t := t) (p := q))
  obtain ⟨ct, hP, hS, hA, hF, hn, hq⟩ := h
  subst hx
  have e1 : (nI i).toNatClampNeg = i := nI_clamp (by omega)
  refine va_aldq (n := q) (f := fun k => if k < q then some (za z (ix (12 + k))) else none) C0.1 C0.2.1 hK.1 hP (ix 1) 3 ((wd_get (by omega)).trans (by rw [hA.2.1.2.2.2.2 _ su1]; rfl)) rfl (vp_in_nI hi (by omega)) hdg ?_
  rw [e1, if_pos hi]; exact kk
theorem U_il (C0 : Cx p s m args meth c cc nL ret own ws) (hK : QK z s) (h : GW z (UAt z ix t q b n) 0 (b + n) s.heap c0 (X, Y, S, f) H locs) {j i : Nat} (hj : j < n) {x : Int32} (hx : x = nI i) (hi : i < (f j).1) (hl : (f j).1 < 1000) (hdg : decode cc pc = .ok (.iaload, 1))
    (kk : W p l e R s m args below meth c H locs cells slots Q (F0 m (pc + 1) ls (.int ((f j).2 i) :: rest))) : W p l e R s m args below meth c H locs cells slots Q (F0 m pc ls (.int x :: .ref (za z (b + j)) :: rest)) :=
  G_iald C0 hK h (by omega) (fun ct hA => hA.2.2 j hj) hx hi (show (f j).1 < 2147483648 by omega) hdg kk
theorem U_is (C0 : Cx p s m args meth c cc nL ret own ws) (hK : QK z s) (h : GW z (UAt z ix t q b n) 0 (b + n) s.heap c0 (X, Y, S, f) H locs) {j i : Nat} (hj : j < n) {x v : Int32} (hx : x = nI i) (hi : i < (f j).1) (hl : (f j).1 < 1000) (hdg : decode cc pc = .ok (.iastore, 1))
    (kk : ∀ (H1 : Heap) (locs1 : List Loc), GW z (UAt z ix t q b n) 0 (b + n) s.heap c0 (X, Y, S, va_up f j ((f j).1, upd (f j).2 i v)) H1 locs1 → W p l e R s m args below meth c H1 locs1 cells slots Q (F0 m (pc + 1) ls rest)) : W p l e R s m args below meth c H locs cells slots Q (F0 m pc ls (.int v :: .int x :: .ref (za z (b + j)) :: rest)) :=
  G_iast C0 hK h ⟨by omega, by omega⟩ (fun ct hA => hA.2.2 j hj) hx hi (show (f j).1 < 2147483648 by omega) (a' := (X, Y, S, va_up f j ((f j).1, upd (f j).2 i v))) (fun ct hA => hA.putI hj _) hdg kk
theorem u_ltT {H0 : Heap} (h : GW z (UAt z ix t q b n) 0 (b + n) H0 c0 (X, Y, S, f) H locs) {i : Nat} (hi : i < t) : ix (2 + i) < b + n := by
  obtain ⟨⟨-, h7, -⟩, -⟩ := gw_ix h
  have := h7 _ (suT (p := q) hi)
  omega
end UR
