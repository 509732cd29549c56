/-! PART 62: worlds that grow -/
def zx (z : QZ) (q : Nat) : QZ := (z.1, z.2.1, z.2.2.1, z.2.2.2.1, zn z + 1, va_up (za z) (zn z) q)
def XZ (sz : Nat) (z z2 : QZ) : Prop := (zG z2 = zG z ∧ zI z2 = zI z ∧ zR z2 = zR z ∧ zA z2 = zA z ∧ zB z2 = zB z) ∧ zn z ≤ zn z2 ∧ (∀ k, k < zn z → za z2 k = za z k) ∧ (∀ k, zn z ≤ k → k < zn z2 → sz ≤ za z2 k) ∧ qI (zn z2) (za z2)
theorem XZ.rf {sz : Nat} {z : QZ} (h : qI (zn z) (za z)) : XZ sz z z := ⟨⟨rfl, rfl, rfl, rfl, rfl⟩, Nat.le_refl _, fun _ _ => rfl, fun k h1 h2 => by omega, h⟩
theorem XZ.tr {sz sz2 : Nat} {z z2 z3 : QZ} (h : XZ sz z z2) (g : XZ sz2 z2 z3) (hs : sz ≤ sz2) : XZ sz z z3 := by
  obtain ⟨⟨a1, a2, a3, a4, a5⟩, hn, hk, ho, hq⟩ := h
  obtain ⟨⟨b1, b2, b3, b4, b5⟩, gn, gk, go, gq⟩ := g
  refine ⟨⟨b1.trans a1, b2.trans a2, b3.trans a3, b4.trans a4, b5.trans a5⟩, by omega, fun k h1 => (gk k (by omega)).trans (hk k h1), fun k h1 h2 => ?_, gq⟩
  by_cases h3 : k < zn z2
  · rw [gk k h3]; exact ho k h1 h3
  · have := go k (by omega) h2; omega
theorem XZ.A {sz sz0 : Nat} {z z2 : QZ} (h : XZ sz z z2) (hs : sz0 ≤ sz) (q : Nat) : qA (zn z2) (za z2) sz0 q ↔ qA (zn z) (za z) sz0 q := by
  obtain ⟨-, hn, hk, ho, -⟩ := h
  constructor
  · rintro (⟨k, h1, rfl⟩ | h1)
    · by_cases h3 : k < zn z
      · exact Or.inl ⟨k, h3, (hk k h3).symm⟩
      · exact Or.inr (by have := ho k (by omega) h1; omega)
    · exact Or.inr h1
  · rintro (⟨k, h1, rfl⟩ | h1)
    · exact Or.inl ⟨k, by omega, hk k h1⟩
    · exact Or.inr h1
theorem vaS_iff {A A2 : Nat → Prop} (h : ∀ x, A2 x ↔ A x) {H0 H : Heap} {locs : List Loc} (hS : va_S A H0 H locs) : va_S A2 H0 H locs := ⟨hS.1, fun q h1 h2 => hS.2.1 q h1 (fun h3 => h2 ((h q).mpr h3)), fun l hl => (h _).mpr (hS.2.2 l hl)⟩
theorem QK.zx {sz : Nat} {z z2 : QZ} {s : State} (h : XZ sz z z2) (hK : QK z s) : QK z2 s := by
  obtain ⟨⟨a1, a2, a3, a4, a5⟩, -⟩ := h
  refine ⟨?_, hK.2⟩
  have e : zT z2 = zT z := by unfold zT; rw [a2, a3, a4, a5]
  rw [e, a1]; exact hK.1
theorem LandAt.ext {sz B : Nat} {z z2 : QZ} {S : QLs} {ct : Nat → va_E} (h : XZ sz z z2) (hB : B + 27 ≤ zn z) (hu : LandAt z B S ct) : LandAt z2 B S ct := by
  obtain ⟨⟨a1, a2, a3, a4, a5⟩, hn, hk, ho, hq⟩ := h
  obtain ⟨h1, h2, h3, h4, h5⟩ := hu
  refine ⟨?_, ?_, ?_, fun i hi => ?_, fun i hi => ?_⟩
  · rw [hk _ (by omega), hk _ (by omega)]; exact h1
  · rw [h2, a3]
    refine congrArg (fun g => (.inl (_, 10, .inr (.inr (.inr (.inr g)))) : va_E)) (funext fun i => ?_)
    split
    · rw [hk _ (by omega)]
    · rfl
  · rw [h3, a3]
    refine congrArg (fun g => (.inl (_, 14, .inr (.inr (.inr (.inr g)))) : va_E)) (funext fun i => ?_)
    split
    · rw [hk _ (by omega)]
    · rfl
  · rw [a2]; exact h4 i hi
  · rw [a2]; exact h5 i hi
theorem XAt.ext {sz : Nat} {z z2 : QZ} {σ : Nat → QLs} {ct : Nat → va_E} (h : XZ sz z z2) (hB : 55 ≤ zn z) (hu : XAt z σ ct) : XAt z2 σ ct := by
  refine ⟨?_, fun b hb => (hu.2 b hb).ext h (by omega)⟩
  rw [h.2.2.1 _ (by omega), h.2.2.1 _ (by omega)]; exact hu.1
theorem SAt.ext {sz : Nat} {z z2 : QZ} {ix : Nat → Nat} {t p b : Nat} {S : QLs} {ct : Nat → va_E} (h : XZ sz z z2) (hB : b ≤ zn z) (hu : SAt z ix t p b S ct) : SAt z2 ix t p b S ct := by
  obtain ⟨h1, h4, h5, h6, h7⟩ := hu
  have hx : ∀ a, sUsed t p a → za z2 (ix a) = za z (ix a) := fun a ha => h.2.2.1 _ (by have := (h1.2.1 a ha).2; omega)
  obtain ⟨⟨a1, a2, a3, a4, a5⟩, -⟩ := h
  refine ⟨h1, h4, h5, by rw [hx 0 su0, hx 1 su1]; exact h6, fun a ha => ?_⟩
  rw [h7 a ha]
  unfold simV
  rw [a4, a5]
  split
  · refine congrArg (fun g => (.inl (_, t, .inr (.inr (.inr (.inr g)))) : va_E)) (funext fun k => ?_)
    split
    · rename_i hk; rw [hx _ (suT hk)]
    · rfl
  · split
    · refine congrArg (fun g => (.inl (_, p, .inr (.inr (.inr (.inr g)))) : va_E)) (funext fun k => ?_)
      split
      · rename_i hk; rw [hx _ (suP hk)]
      · rfl
    · rfl
theorem UAt.ext {sz : Nat} {z z2 : QZ} {ix : Nat → Nat} {t p b n : Nat} {u : US} {ct : Nat → va_E} (h : XZ sz z z2) (hB : b + n ≤ zn z) (hu : UAt z ix t p b n u ct) : UAt z2 ix t p b n u ct := by
  have h56 := hu.2.1.1.1.2.2
  refine ⟨hu.1.ext h (by omega), hu.2.1.ext h (by omega), fun j hj => ?_⟩
  rw [h.1.2.1]; exact hu.2.2 j hj
/-- a further cell behind the others -/
theorem UAt.more {z : QZ} {ix : Nat → Nat} {t p b n : Nat} {X Y S : QLs} {f : Nat → Nat × (Nat → Int32)} {ct : Nat → va_E} (h : UAt z ix t p b n (X, Y, S, f) ct) {k : Nat} (hk : b + n ≤ k) (e : va_E) : UAt z ix t p b n (X, Y, S, f) (va_up ct k e) := by
  have h56 := h.2.1.1.1.2.2
  exact ⟨h.1.off (fun j hj => va_up_ne _ _ (by omega)), h.2.1.off (Nat.le_refl _) (fun j h1 h2 => va_up_ne _ _ (by omega)), fun j hj => by rw [va_up_ne _ _ (by omega)]; exact h.2.2 j hj⟩
theorem UAt.moreI {z : QZ} {ix : Nat → Nat} {t p b n len : Nat} {X Y S : QLs} {f : Nat → Nat × (Nat → Int32)} {g : Nat → Int32} {ct : Nat → va_E} (h : UAt z ix t p b n (X, Y, S, f) ct) : UAt z ix t p b (n + 1) (X, Y, S, va_up f n (len, g)) (va_up ct (b + n) (.inl (zI z, len, .inl g))) := by
  obtain ⟨h1, h2, h3⟩ := h.more (k := b + n) (Nat.le_refl _) (.inl (zI z, len, .inl g))
  refine ⟨h1, h2, fun j hj => ?_⟩
  show _ = (.inl (zI z, (va_up f n (len, g) j).1, .inl (va_up f n (len, g) j).2) : va_E)
  by_cases e : j = n
  · subst e; rw [va_up_self, va_up_self]
  · rw [va_up_ne f _ e]; exact h3 j (by omega)
theorem wd_snoc {n q : Nat} {ad : Nat → Nat} {ct : Nat → va_E} {e : va_E} : wd (n + 1) (va_up ad n q) (va_up ct n e) = wd n ad ct ++ [(q, e)] := by
  unfold wd
  rw [List.range_succ, List.map_append, List.map_cons, List.map_nil, va_up_self, va_up_self]
  refine congrArg (fun x => x ++ [(q, e)]) (List.map_congr_left fun k hk => ?_)
  have : k < n := List.mem_range.mp hk
  rw [va_up_ne _ _ (by omega), va_up_ne _ _ (by omega)]
theorem GW.grow {z : QZ} {q : Nat} {e : va_E} {ct : Nat → va_E} {H0 H1 : Heap} {locs : List Loc} {α : Type} {At : α → (Nat → va_E) → Prop} {a : α} {hi : Nat} (hP : va_P (zG z) vwCl (wd (zn z) (za z) ct ++ [(q, e)]) H1) (hD : va_D (qA (zn z) (za z) H0.size) (wd (zn z) (za z) ct ++ [(q, e)])) (hS : va_S (qA (zn z) (za z) H0.size) H0 H1 locs) (hA : At a (va_up ct (zn z) e)) (hh : hi ≤ zn z + 1) : XZ H0.size z (zx z q) ∧ GW (zx z q) At 0 hi H0 (va_up ct (zn z) e) a H1 locs := by
  have hsnoc := wd_snoc (n := zn z) (q := q) (ad := za z) (ct := ct) (e := e)
  have hl : (wd (zn z) (za z) ct).length = zn z := wd_len
  have hq : qI (zn z + 1) (va_up (za z) (zn z) q) := by
    intro i j hi hj hij
    exact hD.1 i j _ _ (by rw [← hsnoc]; exact wd_get hi) (by rw [← hsnoc]; exact wd_get hj) hij
  have hqs : H0.size ≤ q := by
    have h1 := hD.2 (zn z) (q, e) (by rw [← hsnoc]; exact (wd_get (by omega)).trans (by rw [va_up_self, va_up_self]))
    rcases h1 with ⟨k, hk, h2⟩ | h1
    · have := hq k (zn z) (by omega) (by omega) (by rw [va_up_ne _ _ (by omega), va_up_self]; exact h2)
      omega
    · exact h1
  have hX : XZ H0.size z (zx z q) := ⟨⟨rfl, rfl, rfl, rfl, rfl⟩, Nat.le_succ _, fun k hk => va_up_ne _ _ (by omega), fun k h1 h2 => by
    have h2 : k < zn z + 1 := h2
    show H0.size ≤ va_up (za z) (zn z) q k
    rw [show k = zn z by omega, va_up_self]; exact hqs, hq⟩
  refine ⟨hX, va_up ct (zn z) e, ?_, vaS_iff (hX.A (Nat.le_refl _)) hS, hA, Fr.rf, hh, hq⟩
  show va_P (zG z) vwCl (wd (zn z + 1) (va_up (za z) (zn z) q) _) H1
  rw [hsnoc]; exact hP
section UN
variable {p : Program} {l : Launch} {e : Env} {R : Room} {s : State} {m : MethodId} {args : Array Value} {below : List Frame} {meth : Method} {c : Code} {H : Heap} {locs : List Loc} {cells slots : Nat} {Q : State → Prop}
variable {cc : ByteArray} {nL : Nat} {ret : Option FieldType} {own : String} {ws : List Cond} {pc : Nat} {ls : Array Slot} {rest : List Value} {z : QZ} {c0 : Nat → va_E}
variable {ix : Nat → Nat} {t q b n : Nat} {X Y S : QLs} {f : Nat → Nat × (Nat → Int32)}
theorem U_ni (C0 : Cx p s m args meth c cc nL ret own ws) (hK : QK z s) (h : GW z (UAt z ix t q b n) 0 (b + n) s.heap c0 (X, Y, S, f) H locs) (hzn : zn z = b + n) (hw : Cond.arrayClass .int ∈ ws) {len : Nat} {x : Int32} (hx : x = nI len) (hlen : len < 1000) (hc : cells + 1 ≤ R.cells) (hs : slots + len ≤ R.slots) (hdg : decode cc pc = .ok (.newarray .int, 2))
    (kk : ∀ (z2 : QZ) (c1 : Nat → va_E) (H1 : Heap), XZ s.heap.size z z2 → zn z2 = b + (n + 1) → QK z2 s → GW z2 (UAt z2 ix t q b (n + 1)) 0 (b + (n + 1)) s.heap c1 (X, Y, S, va_up f n (len, fun _ => 0)) H1 locs → W p l e R s m args below meth c H1 locs (cells + 1) (slots + len) Q (F0 m (pc + 2) ls (.ref (za z2 (b + n)) :: rest))) : W p l e R s m args below meth c H locs cells slots Q (F0 m pc ls (.int x :: rest)) := by
  obtain ⟨ct, hP, hS, hA, hF, hn, hq⟩ := h
  refine q_newi C0 hK hP (wd_DA hq) hS (fun q h => qA_new h) hw hx hlen hc hs hdg (fun a H1 hP1 hD1 hS1 => ?_)
  have hA2 : UAt z ix t q b (n + 1) (X, Y, S, va_up f n (len, fun _ => 0)) (va_up ct (zn z) (.inl (zI z, len, .inl (fun _ => 0)))) := by rw [hzn]; exact hA.moreI
  obtain ⟨hX, hG⟩ := GW.grow (At := UAt z ix t q b (n + 1)) (a := (X, Y, S, va_up f n (len, fun _ => 0))) (hi := b + (n + 1)) hP1 hD1 hS1 hA2 (by omega)
  have hG2 : GW (zx z a) (UAt (zx z a) ix t q b (n + 1)) 0 (b + (n + 1)) s.heap (va_up ct (zn z) (.inl (zI z, len, .inl (fun _ => 0)))) (X, Y, S, va_up f n (len, fun _ => 0)) H1 locs := by
    refine hG.imp (fun ct2 hA3 => ?_)
    obtain ⟨g1, g2, g3⟩ := hA3
    have h56 := g2.1.1.2.2
    exact ⟨g1.ext hX (by omega), g2.ext hX (by omega), g3⟩
  have ea : a = za (zx z a) (b + n) := by
    show a = va_up (za z) (zn z) a (b + n)
    rw [← hzn, va_up_self]
  have hz2 : zn (zx z a) = b + (n + 1) := by show zn z + 1 = _; omega
  have k2 := kk (zx z a) _ H1 hX hz2 (hK.zx hX) hG2
  rw [← ea] at k2
  exact k2
end UN
/-- the world behind a call that may make cells: it has grown -/
def UEnd (v : QZ × (Nat → Nat) × US) (t : State) : Prop := ∃ ct, va_P (zG v.1) vwCl (wd (zn v.1) (za v.1) ct) t.heap ∧ QK v.1 t ∧ UAt v.1 v.2.1 (qt v.2.2.2.2.1) (qp v.2.2.2.2.1) (zn v.1) 0 v.2.2 ct
/-- contracts of methods that make cells: from a world z with the land S made by hand, no further array -/
def NPre (z : QZ) (ix : Nat → Nat) (u : US) (ct : Nat → va_E) : Prop := UAt z ix (qt u.2.2.1) (qp u.2.2.1) (zn z) 0 u ct
def NI (l : Launch) (y : MethodName) (ws : List Cond) (rm : Room) (z : QZ) (av : List Value) (mc ms : Nat) (ix : Nat → Nat) (u : US) (post : Int32 → QZ × (Nat → Nat) × US → Prop) : Prop :=
  ∀ ct sz, qI (zn z) (za z) → NPre z ix u ct → Met l y ws rm (va_Pc av (QPre z ct sz)) (va_Qi (fun r v => XZ sz z v.1 ∧ post r v) UEnd (qA (zn z) (za z) sz)) mc ms (qA (zn z) (za z) sz)
def NV (l : Launch) (y : MethodName) (ws : List Cond) (rm : Room) (z : QZ) (av : List Value) (mc ms : Nat) (ix : Nat → Nat) (u : US) (post : QZ × (Nat → Nat) × US → Prop) : Prop :=
  ∀ ct sz, qI (zn z) (za z) → NPre z ix u ct → Met l y ws rm (va_Pc av (QPre z ct sz)) (va_Qv (fun v => XZ sz z v.1 ∧ post v) UEnd (qA (zn z) (za z) sz)) mc ms (qA (zn z) (za z) sz)
/-- the state at rest -/
abbrev GN (z : QZ) (ix : Nat → Nat) (H0 : Heap) (c0 : Nat → va_E) (u : US) (H : Heap) (locs : List Loc) : Prop := GW z (UAt z ix (qt u.2.2.1) (qp u.2.2.1) (zn z) 0) 0 (zn z + 0) H0 c0 u H locs
section UC
variable {p : Program} {l : Launch} {e : Env} {R : Room} {s : State} {m : MethodId} {args : Array Value} {below : List Frame} {meth : Method} {c : Code} {H : Heap} {locs : List Loc} {cells slots : Nat} {Q : State → Prop}
variable {cc : ByteArray} {nL : Nat} {ret : Option FieldType} {own : String} {ws : List Cond} {pc : Nat} {ls : Array Slot} {st0 rest : List Value} {z : QZ} {c0 : Nat → va_E} {ix : Nat → Nat} {u : US}
variable {y : MethodName} {bytes : ByteArray} {maxL mc ms n index : Nat} {ret2 : Option FieldType} {ws2 : List Cond} {rm : Room} {C : String} {As : List Value}
theorem UEnd.gn {z z2 : QZ} {ix : Nat → Nat} {u : US} {t : State} {H0 H1 : Heap} {locs : List Loc} {sz : Nat} (hX : XZ sz z z2) (hs : H0.size ≤ sz) (hS : va_S (qA (zn z) (za z) H0.size) H0 H1 locs) (ht : t.heap = H1) (h : UEnd (z2, ix, u) t) : XZ H0.size z z2 ∧ ∃ c1, GN z2 ix H0 c1 u H1 locs := by
  obtain ⟨ct, hP, hK, hA⟩ := h
  rw [ht] at hP
  obtain ⟨a1, a2, a3, a4, a5⟩ := id hX
  exact ⟨⟨a1, a2, a3, fun k h1 h2 => by have := a4 k h1 h2; omega, a5⟩, ct, ct, hP, vaS_iff (hX.A hs) hS, hA, Fr.rf, Nat.le_refl _, a5⟩
theorem N_callSi (C0 : Cx p s m args meth c cc nL ret own ws) (hK : QK z s) (h : GN z ix s.heap c0 u H locs) {post : Int32 → QZ × (Nat → Nat) × US → Prop} (hM : NI l y ws2 rm z As mc ms ix u post)
    (cw : CallB R s args own index y bytes maxL ret2 ws2 rm mc ms n ∧ (Cond.static y).before args s = true) (hlen : As.length = n) (hsz : ls.size = nL) (hst : st0 = As.reverse ++ rest) (hroom : (rest.map fun v => v.category).sum ≤ 8) (hf : cells + mc ≤ R.cells ∧ slots + ms ≤ R.slots) (hdg : decode cc pc = .ok (.invokestatic index, 3))
    (kk : ∀ (r : Int32) (z2 : QZ) (ix2 : Nat → Nat) (u2 : US) (c1 : Nat → va_E) (H1 : Heap) (locs1 : List Loc), post r (z2, ix2, u2) → XZ s.heap.size z z2 → QK z2 s → GN z2 ix2 s.heap c1 u2 H1 locs1 → W p l e R s m args below meth c H1 locs1 (cells + mc) (slots + ms) Q (F0 m (pc + 3) ls (.int r :: rest))) : W p l e R s m args below meth c H locs cells slots Q (F0 m pc ls st0) := by
  obtain ⟨ct, hP, hS, hA, hF, hn, hq⟩ := h
  refine va_calli (va_runS (As := As) (rest := rest) ⟨C0.1, C0.2.1, C0.2.2.2.1, C0.2.2.2.2.1, C0.2.2.2.2.2.1⟩ (hM ct H.size hq hA) cw ⟨q_blind, q_given hK hP⟩ rfl hlen hsz hst (lv_room hroom) hdg hf) hS (fun q _ h => qA_sub hS.1 h) (fun q h => qA_sub hS.1 h) (fun r v t H1 locs1 ht hvm hp hB hz1 hk1 hS1 => ?_)
  obtain ⟨z2, ix2, u2⟩ := v
  obtain ⟨hX, hp⟩ := hp
  obtain ⟨hX2, c1, hG⟩ := UEnd.gn hX hS.1 hS1 ht hB
  exact kk r z2 ix2 u2 c1 H1 locs1 hp hX2 (hK.zx hX2) hG
theorem N_callVv (C0 : Cx p s m args meth c cc nL ret own ws) (hK : QK z s) (h : GN z ix s.heap c0 u H locs) {post : QZ × (Nat → Nat) × US → Prop} (hM : NV l y ws2 rm z (.ref (za z 55) :: As) mc ms ix u post)
    (cw : CallW R s args own RX3 index y bytes maxL ret2 ws2 rm mc ms n) (hlen : As.length = n) (hsz : ls.size = nL) (hst : st0 = As.reverse ++ .ref (za z 55) :: rest) (hroom : (rest.map fun v => v.category).sum ≤ 8) (hf : cells + mc ≤ R.cells ∧ slots + ms ≤ R.slots) (hdg : decode cc pc = .ok (.invokevirtual index, 3))
    (kk : ∀ (z2 : QZ) (ix2 : Nat → Nat) (u2 : US) (c1 : Nat → va_E) (H1 : Heap) (locs1 : List Loc), post (z2, ix2, u2) → XZ s.heap.size z z2 → QK z2 s → GN z2 ix2 s.heap c1 u2 H1 locs1 → W p l e R s m args below meth c H1 locs1 (cells + mc) (slots + ms) Q (F0 m (pc + 3) ls rest)) : W p l e R s m args below meth c H locs cells slots Q (F0 m pc ls st0) := by
  obtain ⟨ct, hP, hS, hA, hF, hn, hq⟩ := h
  have h56 : 56 ≤ zn z := hA.2.1.1.1.2.2
  refine va_callv (va_runV (As := As) (rest := rest) ⟨C0.1, C0.2.1, C0.2.2.2.1, C0.2.2.2.2.1, C0.2.2.2.2.2.1⟩ (hM ct H.size hq hA) cw ⟨q_blind, q_recv (q := (RX3, TX3, 3)) hK hP (show 55 < zn z by omega) hA.2.1.2.2.2.1 rfl, q_given hK hP⟩ rfl hlen hsz hst (lv_room hroom) hdg hf) hS (fun q _ h => qA_sub hS.1 h) (fun q h => qA_sub hS.1 h) (fun v t H1 locs1 ht hvm hp hB hz1 hk1 hS1 => ?_)
  obtain ⟨z2, ix2, u2⟩ := v
  obtain ⟨hX, hp⟩ := hp
  obtain ⟨hX2, c1, hG⟩ := UEnd.gn hX hS.1 hS1 ht hB
  exact kk z2 ix2 u2 c1 H1 locs1 hp hX2 (hK.zx hX2) hG
/-- the ends of such methods: z the world at the start, z2 the one now -/
theorem N_end {z2 : QZ} {ix2 : Nat → Nat} {u2 : US} {c1 : Nat → va_E} (hK : QK z2 s) (hX : XZ s.heap.size z z2) (h : GN z2 ix2 s.heap c1 u2 H locs) {t : State} (ht : t.heap = H) (hW : s.WarmedH t.vm) : UEnd (z2, ix2, u2) t ∧ va_S (qA (zn z) (za z) s.heap.size) s.heap H locs := by
  obtain ⟨ct, hP, hS, hA, hF, hn, hq⟩ := h
  exact ⟨⟨ct, by rw [ht]; exact hP, QK.warm hW hK, hA⟩, vaS_iff (fun x => (hX.A (Nat.le_refl _) x).symm) hS⟩
theorem N_zret {z2 : QZ} {ix2 : Nat → Nat} {u2 : US} {c1 : Nat → va_E} (C0 : Cx p s m args meth c cc nL (some .boolean) own ws) (hK : QK z2 s) (hX : XZ s.heap.size z z2) (h : GN z2 ix2 s.heap c1 u2 H locs) {r : Int32} {post : Int32 → QZ × (Nat → Nat) × US → Prop} {mc ms : Nat} (hp : post r (z2, ix2, u2)) (hb : r = 0 ∨ r = 1) (h1 : cells ≤ mc) (h2 : slots ≤ ms) (hdg : decode cc pc = .ok (.ireturn, 1)) :
    W p l e R s m args below meth c H locs cells slots (MQ below (va_Qi (fun r v => XZ s.heap.size z v.1 ∧ post r v) UEnd (qA (zn z) (za z) s.heap.size)) args s mc ms (qA (zn z) (za z) s.heap.size)) (F0 m pc ls [.int r]) := by
  have hS : va_S (qA (zn z) (za z) s.heap.size) s.heap H locs := by
    obtain ⟨ct, hP, hS, hA, hF, hn, hq⟩ := h
    exact vaS_iff (fun x => (hX.A (Nat.le_refl _) x).symm) hS
  refine W.widen (k := mc) (n := ms) h1 h2 ?_
  exact W.zret C0.1 C0.2.1 C0.2.2.1 (by rcases hb with rfl | rfl <;> rfl) (fun t ht hW => ⟨⟨r, (z2, ix2, u2), rfl, ⟨hX, hp⟩, (N_end hK hX h ht hW).1⟩, hS.F ht⟩) hS.2.2 hdg C0.2.2.2.2.2.2
theorem N_vret {z2 : QZ} {ix2 : Nat → Nat} {u2 : US} {c1 : Nat → va_E} (C0 : Cx p s m args meth c cc nL none own ws) (hK : QK z2 s) (hX : XZ s.heap.size z z2) (h : GN z2 ix2 s.heap c1 u2 H locs) {post : QZ × (Nat → Nat) × US → Prop} {mc ms : Nat} (hp : post (z2, ix2, u2)) (h1 : cells ≤ mc) (h2 : slots ≤ ms) (hdg : decode cc pc = .ok (.return_, 1)) :
    W p l e R s m args below meth c H locs cells slots (MQ below (va_Qv (fun v => XZ s.heap.size z v.1 ∧ post v) UEnd (qA (zn z) (za z) s.heap.size)) args s mc ms (qA (zn z) (za z) s.heap.size)) (F0 m pc ls []) := by
  have hS : va_S (qA (zn z) (za z) s.heap.size) s.heap H locs := by
    obtain ⟨ct, hP, hS, hA, hF, hn, hq⟩ := h
    exact vaS_iff (fun x => (hX.A (Nat.le_refl _) x).symm) hS
  refine W.widen (k := mc) (n := ms) h1 h2 ?_
  exact W.vret C0.1 C0.2.1 C0.2.2.1 (fun t ht hW => ⟨⟨(z2, ix2, u2), rfl, ⟨hX, hp⟩, (N_end hK hX h ht hW).1⟩, hS.F ht⟩) hS.2.2 hdg C0.2.2.2.2.2.2
end UC
/-- the entry of such a method -/
theorem n_entry {l : Launch} {y : MethodName} {ws ws' : List Cond} {rm : Room} {z : QZ} {av : List Value} {mc ms : Nat} {ct : Nat → va_E} {sz : Nat} {Qc : Array Value → State → Outcome → State → Prop} {free : Addr → Prop} {cc : ByteArray} {maxL : Nat} {ret : Option FieldType} {ix : Nat → Nat} {u : US}
    (hy : plainName y.cls = true) (hw : ws = Cond.code y cc maxL ret :: ws') (hlen : (lg_sl av).length ≤ maxL) (hq : qI (zn z) (za z)) (hat : NPre z ix u ct)
    (body : ∀ p e s m below meth c ls, Cx p s m av.toArray meth c cc maxL ret y.cls ws → QK z s → sz = s.heap.size → GN z ix s.heap ct u s.heap [] → lv_has ls maxL (lv_args 0 av) →
      W p l e rm s m av.toArray below meth c s.heap [] 0 0 (MQ below Qc av.toArray s mc ms free) (F0 m 0 ls [])) : Met l y ws rm (va_Pc av (QPre z ct sz)) Qc mc ms free :=
  q_entry (lo := 0) (hi := zn z + 0) (At := UAt z ix (qt u.2.2.1) (qp u.2.2.1) (zn z) 0) (a := u) hy hw hlen (Nat.le_refl _) hq hat body
