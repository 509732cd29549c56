/-! PART 25: worlds that grow; the reference's kept and bringBack -/
abbrev qR (n : Nat) (c : ClassId) (f : Nat → Option Nat) : va_E := .inl (c, n, .inr (.inr (.inr (.inr f))))
abbrev zx (z : QZ) (q : Nat) : QZ := (z.1, z.2.1, z.2.2.1, z.2.2.2.1, zn z + 1, va_up (za z) (zn z) q)
theorem wd_snoc {n : Nat} {ad : Nat → Nat} {ct : Nat → va_E} {q : Nat} {e : va_E} : wd n ad ct ++ [(q, e)] = wd (n + 1) (va_up ad n q) (va_up ct n e) := by
  unfold wd
  rw [List.range_succ, List.map_append]
  congr 1
  · apply List.map_congr_left
    intro k hk
    have := List.mem_range.mp hk
    rw [va_up_ne _ _ (by omega), va_up_ne _ _ (by omega)]
  · simp [va_up_self]
theorem wd_qI {n : Nat} {ad : Nat → Nat} {ct : Nat → va_E} {A : Nat → Prop} (h : va_D A (wd n ad ct)) : qI n ad := fun i j hi hj e => h.1 i j _ _ (wd_get hi) (wd_get hj) e
theorem wd_at {n : Nat} {ad : Nat → Nat} {ct : Nat → va_E} {X : va_W} {k : Nat} (h : k < n) : (wd n ad ct ++ X)[k]? = some (ad k, ct k) := by
  rw [List.getElem?_append_left (by rw [wd_len]; exact h)]; exact wd_get h
theorem wd_tl {n : Nat} {ad : Nat → Nat} {ct : Nat → va_E} {X : va_W} (j : Nat) : (wd n ad ct ++ X)[n + j]? = X[j]? := by
  rw [List.getElem?_append_right (by rw [wd_len]; omega), wd_len, Nat.add_sub_cancel_left]
theorem wd_tset {n : Nat} {ad : Nat → Nat} {ct : Nat → va_E} {X : va_W} {j : Nat} {y : Nat × va_E} : (wd n ad ct ++ X).set (n + j) y = wd n ad ct ++ X.set j y := by
  rw [List.set_append_right _ _ (by rw [wd_len]; omega), wd_len, Nat.add_sub_cancel_left]
theorem qA_x {z : QZ} {q sz x : Nat} (hq : sz ≤ q) : qA (zn (zx z q)) (za (zx z q)) sz x ↔ qA (zn z) (za z) sz x := by
  constructor
  · rintro (⟨k, hk, e⟩ | h)
    · by_cases h1 : k = zn z
      · subst h1
        rw [show za (zx z q) (zn z) = q from va_up_self _ _ _] at e
        exact Or.inr (by omega)
      · rw [show za (zx z q) k = za z k from va_up_ne _ _ h1] at e
        exact Or.inl ⟨k, by have : k < zn z + 1 := hk; omega, e⟩
    · exact Or.inr h
  · rintro (⟨k, hk, e⟩ | h)
    · exact Or.inl ⟨k, by show k < zn z + 1; omega, by rw [show za (zx z q) k = za z k from va_up_ne _ _ (by omega)]; exact e⟩
    · exact Or.inr h
theorem va_S.iff {A B : Nat → Prop} (h : ∀ x, A x ↔ B x) {H0 H : Heap} {locs : List Loc} (hS : va_S A H0 H locs) : va_S B H0 H locs := ⟨hS.1, fun q h1 h2 => hS.2.1 q h1 (fun h3 => h2 ((h q).mp h3)), fun l hl => (h _).mp (hS.2.2 l hl)⟩
theorem wd_new {n : Nat} {ad : Nat → Nat} {ct : Nat → va_E} {q sz : Nat} {e : va_E} (hD : va_D (qA n ad sz) (wd n ad ct ++ [(q, e)])) : sz ≤ q := by
  have h1 : (wd n ad ct ++ [(q, e)])[n + 0]? = some (q, e) := wd_tl 0
  rcases hD.2 _ _ h1 with ⟨k, hk, e1⟩ | h
  · have := hD.1 k (n + 0) _ _ (wd_at hk) h1 e1
    omega
  · exact h
/-- the state of a world that has one cell more -/
theorem GW_push {z : QZ} {α : Type} {At : α → (Nat → va_E) → Prop} {lo hi : Nat} {H0 H1 : Heap} {c0 ct : Nat → va_E} {a : α} {locs : List Loc} {q : Nat} {e : va_E}
    (hP : va_P (zG z) vwCl (wd (zn z) (za z) ct ++ [(q, e)]) H1) (hD : va_D (qA (zn z) (za z) H0.size) (wd (zn z) (za z) ct ++ [(q, e)])) (hS : va_S (qA (zn z) (za z) H0.size) H0 H1 locs) (hA : At a (va_up ct (zn z) e)) (hF : Fr lo hi c0 ct) (hn : hi ≤ zn z) :
    H0.size ≤ q ∧ GW (zx z q) At lo hi H0 (va_up c0 (zn z) e) a H1 locs := by
  have hq := wd_new hD
  refine ⟨hq, va_up ct (zn z) e, ?_, ?_, hA, ?_, by show hi ≤ zn z + 1; omega, ?_⟩
  · rw [wd_snoc] at hP; exact hP
  · exact hS.iff (fun x => (qA_x hq).symm)
  · intro k hk
    by_cases h : k = zn z
    · subst h; rw [va_up_self, va_up_self]
    · rw [va_up_ne _ _ h, va_up_ne _ _ h]; exact hF k hk
  · rw [wd_snoc] at hD; exact wd_qI hD
/-- back to the world without it -/
theorem GW_pop {z : QZ} {α : Type} {At At2 : α → (Nat → va_E) → Prop} {lo hi : Nat} {H0 H1 : Heap} {c0 c1 : Nat → va_E} {a : α} {locs : List Loc} {q : Nat} (h : GW (zx z q) At lo hi H0 c1 a H1 locs) (hq : H0.size ≤ q) (hc : ∀ k, k < zn z → c1 k = c0 k) (hn : hi ≤ zn z) (hA : ∀ ct ct2, At a ct → (∀ k, k < zn z → ct2 k = ct k) → At2 a ct2) : GW z At2 lo hi H0 c0 a H1 locs := by
  obtain ⟨ct, hP, hS, hat, hF, -, hI⟩ := h
  refine ⟨fun k => if k < zn z then ct k else c0 k, ?_, ?_, hA ct _ hat (fun k hk => if_pos hk), ?_, hn, fun i j hi hj e => ?_⟩
  · intro k x hk
    obtain ⟨h1, rfl⟩ := wd_of hk
    have h2 := hP k _ (wd_get (show k < zn (zx z q) by show k < zn z + 1; omega))
    rw [show za (zx z q) k = za z k from va_up_ne _ _ (by omega)] at h2
    show va_at (zG z) vwCl (za z k, if k < zn z then ct k else c0 k) H1
    rw [if_pos h1]; exact h2
  · exact hS.iff (fun x => qA_x hq)
  · intro k hk
    show (if k < zn z then ct k else c0 k) = c0 k
    by_cases h1 : k < zn z
    · rw [if_pos h1, hF k hk, hc k h1]
    · rw [if_neg h1]
  · refine hI i j (by show i < zn z + 1; omega) (by show j < zn z + 1; omega) ?_
    rw [show za (zx z q) i = za z i from va_up_ne _ _ (by omega), show za (zx z q) j = za z j from va_up_ne _ _ (by omega)]; exact e
theorem MAt.same {z z2 : QZ} {M : QMs} {ct ct2 : Nat → va_E} (h : MAt z M ct) (ha : ∀ k, 55 ≤ k → k < 59 → za z2 k = za z k) (hI : zI z2 = zI z) (hk : ∀ k, 55 ≤ k → k < 59 → ct2 k = ct k) : MAt z2 M ct2 := by
  have h2 := h.off hk
  obtain ⟨h1, h3, h4, h5⟩ := h2
  refine ⟨?_, by rw [hI]; exact h3, by rw [hI]; exact h4, by rw [hI]; exact h5⟩
  rw [h1]; unfold mO
  rw [ha 56 (by omega) (by omega), ha 57 (by omega) (by omega), ha 58 (by omega) (by omega)]
theorem q_asg (vm : Vm) (c : ClassId) : vm.assignable c c = true := by
  show Vm.assignableAux vm (255 + 1) c c = true
  rw [Vm.assignableAux]
  simp only [beq_self_eq_true, Bool.true_or]
section QKP
variable {p : Program} {l : Launch} {e : Env} {R : Room} {s : State} {m : MethodId} {args : Array Value} {below : List Frame} {meth : Method} {c : Code} {H : Heap} {locs : List Loc} {cells slots : Nat} {Q : State → Prop}
variable {cc : ByteArray} {nL : Nat} {ret : Option FieldType} {own : String} {ws : List Cond} {pc : Nat} {ls : Array Slot} {rest : List Value} {z : QZ} {w : va_W} {A : Nat → Prop} {H0 : Heap}
theorem q_nmI (hK : QK z s) : s.vm.findClass "[I" = some (zI z) := (hK.1.2 0 _ rfl).2
theorem q_nmR (hK : QK z s) : s.vm.findClass "[[I" = some (zR z) := (hK.1.2 1 _ rfl).2
theorem q_kdR (hK : QK z s) : ∃ k : Class, s.vm.classes[zR z]? = some k ∧ k.kind = .array (zI z) (.array .int) := by
  obtain ⟨comp, cA, kA, h1, h2, h3, h4, h5⟩ := arrayOverA_spec hK.2.1
  have e1 : comp = zI z := Option.some.inj (h1.symm.trans (q_nmI hK))
  have e2 : cA = zR z := Option.some.inj (h5.symm.trans (q_nmR hK))
  subst e1; subst e2
  exact ⟨kA, h3, h4⟩
/-- new int[n][] -/
theorem q_anew (C0 : Cx p s m args meth c cc nL ret own ws) (hK : QK z s) (hP : va_P (zG z) vwCl w H) (hD : va_D A w) (hS : va_S A H0 H locs) (hA : ∀ q, H0.size ≤ q → A q) {index : Nat} (hl : Cond.classLink own index "[I" ∈ ws) {n : Nat} {x : Int32} (hx : x = nI n) (hn : n < 1000) (hc : cells + 1 ≤ R.cells) (hs : slots + n ≤ R.slots) (hdg : decode cc pc = .ok (.anewarray index, 3))
    (kk : ∀ (q : Nat) (H1 : Heap), va_P (zG z) vwCl (w ++ [(q, qR n (zR z) (fun _ => none))]) H1 → va_D A (w ++ [(q, qR n (zR z) (fun _ => none))]) → va_S A H0 H1 locs → W p l e R s m args below meth c H1 locs (cells + 1) (slots + n) Q (F0 m (pc + 3) ls (.ref q :: rest))) : W p l e R s m args below meth c H locs cells slots Q (F0 m pc ls (.int x :: rest)) := by
  subst hx
  have t0 : (nI n).toNatClampNeg = n := nI_clamp (by omega)
  refine W.anewA (t := .int) C0.1 C0.2.1 C0.2.2.2.2.1 (C0.2.2.2.2.2.1 _ hl) (show (Cond.arrayOver (.array .int)).before args s = true from hK.2.1) rfl hdg rfl (nI_pos (by omega)) (by rw [t0]; omega) hc (by rw [t0]; exact hs) fun cA kA comp f1 f2 f3 f4 => ?_
  have ec : cA = zR z := Option.some.inj (f1.symm.trans (q_nmR hK))
  subst ec
  rw [t0]
  generalize hH1 : H.push ({ cls := zR z, slots := Array.replicate n .null, vm := .none } : Cell) = H1
  have z1 : H1.size = H.size + 1 := by rw [← hH1, Array.size_push]
  have e1 : H1[H.size]? = some (arrV (zR z) n (fun _ => .null)) := by rw [← hH1, Array.getElem?_push_size, ← arrV_new]
  have o1 : ∀ q : Nat, q < H.size → H1[q]? = H[q]? := fun q hq => by rw [← hH1, Array.getElem?_push, if_neg (Nat.ne_of_lt hq)]
  refine kk H.size H1 ((hP.kept (fun k y hy => o1 y.1 ((hP k y hy).lt))).app (fun k y hy => ?_)) (hD.push hP rfl (hA _ hS.1)) ⟨Nat.le_trans hS.1 (by omega), fun y h1 h2 => (o1 y (Nat.lt_of_lt_of_le h1 hS.1)).trans (hS.2.1 y h1 h2), hS.2.2⟩
  have hz : k < 1 := (List.getElem?_eq_some_iff.mp hy).1
  rw [show k = 0 by omega] at hy
  cases hy
  show H1[H.size]? = some (vp_cell _ _)
  rw [e1, vp_cell_q]
  rfl
/-- an int array into a place of an array of arrays -/
theorem q_aast (C0 : Cx p s m args meth c cc nL ret own ws) (hK : QK z s) (hP : va_P (zG z) vwCl w H) (hD : va_D A w) (hS : va_S A H0 H locs) (q0 qv : Nat) {a v n nv : Nat} {f : Nat → Option Nat} {g : Nat → Int32} (ha : w[q0]? = some (a, qR n (zR z) f)) (hv : w[qv]? = some (v, .inl (zI z, nv, .inl g))) {x : Int32} {i : Nat} (hx : x = nI i) (hi : i < n) (hn : n < 1000) (hdg : decode cc pc = .ok (.aastore, 1))
    (kk : ∀ (H1 : Heap) (locs1 : List Loc), va_P (zG z) vwCl (w.set q0 (a, qR n (zR z) (va_up f i (some v)))) H1 → va_D A (w.set q0 (a, qR n (zR z) (va_up f i (some v)))) → va_S A H0 H1 locs1 → W p l e R s m args below meth c H1 locs1 cells slots Q (F0 m (pc + 1) ls rest)) : W p l e R s m args below meth c H locs cells slots Q (F0 m pc ls (.ref v :: .int x :: .ref a :: rest)) := by
  subst hx
  have t0 : (nI i).toNatClampNeg = i := nI_clamp (by omega)
  obtain ⟨kR, k1, k2⟩ := q_kdR hK
  obtain ⟨kE, hkE, -⟩ := Vm.findClass_spec (q_nmI hK)
  refine W.aast C0.1 C0.2.1 (hP q0 _ ha) (fun q h => by cases h) (fun h => by cases h) k1 k2 rfl hkE ⟨nI_pos (by omega), by show _ < (arrV _ _ _).slots.size; rw [arrV_size, t0]; exact hi⟩ (hP qv _ hv) (fun q h => by cases h) hkE (q_asg _ _) rfl rfl hdg fun H1 e9 z9 oq => ?_
  rw [t0] at e9 ⊢
  refine kk H1 _ (hP.set hD ha ?_ oq) (hD.set ha) (hS.put z9 oq (hD.2 q0 _ ha))
  show H1[a]? = some (vp_cell _ _)
  rw [e9]
  rw [vp_cell_q, vp_cell_q, arrV_store]
  congr 2
  funext q
  by_cases hq : q = i
  · subst hq
    simp [updV, va_up, va_rf]
  · simp [updV, va_up, hq]
theorem q_clone (C0 : Cx p s m args meth c cc nL ret own ws) (hK : QK z s) (hsz : ls.size = nL) (hP : va_P (zG z) vwCl w H) (hD : va_D A w) (hS : va_S A H0 H locs) (hA : ∀ q, H0.size ≤ q → A q) (q0 : Nat) {a n : Nat} {f : Nat → Int32} (ha : w[q0]? = some (a, .inl (zI z, n, .inl f))) {index : Nat}
    (h1 : Cond.methodLink own index ⟨"[I", "clone", "()Ljava/lang/Object;"⟩ ∈ ws) (h2 : Cond.sameMethod "[I" "java/lang/Object" "clone" "()Ljava/lang/Object;" ∈ ws) (h3 : Cond.native ⟨"java/lang/Object", "clone", "()Ljava/lang/Object;"⟩ ∈ ws) (h4 : Cond.instanceMethod ⟨"java/lang/Object", "clone", "()Ljava/lang/Object;"⟩ ∈ ws) (h5 : Cond.selects "[I" ⟨"[I", "clone", "()Ljava/lang/Object;"⟩ ⟨"java/lang/Object", "clone", "()Ljava/lang/Object;"⟩ ∈ ws)
    (hr : 1 ≤ R.frames ∧ (rest.map fun v => v.category).sum + 14 ≤ R.locals) (hc : cells + 1 ≤ R.cells) (hs : slots + n ≤ R.slots) (hdg : decode cc pc = .ok (.invokevirtual index, 3))
    (kk : ∀ (q : Nat) (H1 : Heap), va_P (zG z) vwCl (w ++ [(q, .inl (zI z, n, .inl f))]) H1 → va_D A (w ++ [(q, .inl (zI z, n, .inl f))]) → va_S A H0 H1 locs → W p l e R s m args below meth c H1 locs (cells + 1) (slots + n) Q (F0 m (pc + 3) ls (.ref q :: rest))) : W p l e R s m args below meth c H locs cells slots Q (F0 m pc ls (.ref a :: rest)) :=
  va_clone C0.1 C0.2.1 (C0.2.2.2.1.trans hsz.symm) C0.2.2.2.2.1 (C0.2.2.2.2.2.1 _ h1) (C0.2.2.2.2.2.1 _ h2) (C0.2.2.2.2.2.1 _ h3) (C0.2.2.2.2.2.1 _ h4) (C0.2.2.2.2.2.1 _ h5) hK.2.2.1 hK.1 hP hD hS hA q0 0 ha rfl (q_nmI hK)
    (fun i v hv => by
      have hv2 : (arrV (zI z) n (fun j => .int (f j))).slots[i]? = some v := hv
      have hi : i < n := by
        have := (Array.getElem?_eq_some_iff.mp hv2).1
        rwa [arrV_size] at this
      rw [arrV_read _ _ hi] at hv2
      cases hv2
      rfl) hr.1 hr.2 hc hs hdg (fun q H1 _ hP1 hD1 hS1 => kk q H1 hP1 hD1 hS1)
end QKP
/-- the cells that kept makes -/
def kpW (z : QZ) (M : QMs) (r : Nat × Nat × Nat × Nat) : va_W := [(r.1, qR 3 (zR z) (va_up (va_up (va_up (fun _ => none) 0 (some r.2.1)) 1 (some r.2.2.1)) 2 (some r.2.2.2))), (r.2.1, .inl (zI z, 80, .inl (mA M))), (r.2.2.1, .inl (zI z, 126, .inl (mB M))), (r.2.2.2, .inl (zI z, 1, .inl (mY M)))]
set_option maxHeartbeats 4000000 in
set_option maxRecDepth 100000 in
theorem c_X2_kept (l : Launch) (z : QZ) (M : QMs) : ∀ ct sz, 59 ≤ zn z → qI (zn z) (za z) → MAt z M ct → Met l yX2_kept wsX2_kept ({ frames := 1, cells := 4, slots := 210, locals := 20 } : Room) (va_Pc [.ref (za z 55)] (QPre z ct sz)) (va_Qr (fun _ : Nat × Nat × Nat × Nat => True) (fun r a t => a = r.1 ∧ va_P (zG z) vwCl (wd (zn z) (za z) ct ++ kpW z M r) t.heap ∧ QK z t ∧ va_D (qA (zn z) (za z) sz) (wd (zn z) (za z) ct ++ kpW z M r)) (qA (zn z) (za z) sz)) 4 210 (qA (zn z) (za z) sz) := by
  intro ct sz hn hq hat
  refine q_entry (lo := 55) (cc := cX2_kept) (maxL := 1) (ret := (some (.array (.array .int)))) (by decide) rfl (Nat.le_of_ble_eq_true rfl) hn hq hat ?_
  intro p e s m below meth c ls C0 hK hsz h hl
  subst hsz
  obtain ⟨hx, hb, hr, hml, hown, hts, hlocks⟩ := id C0
  have hin2 : ∀ w ∈ u_ws RX2 TX2 6, w ∈ wsX2_kept := by decide +kernel
  have hl : lv_has ls 1 [(0, .ref (za z 55))] := hl
  have hA9 : ∀ q, s.heap.size ≤ q → qA (zn z) (za z) s.heap.size q := fun q h => Or.inr h
  obtain ⟨hM1, hM2, hM3, hM4⟩ := id hat
  have hP : va_P (zG z) vwCl (wd (zn z) (za z) ct) s.heap := by
    obtain ⟨ct9, hP, -, hA2, hF, -, -⟩ := h
    refine fun k q hk => ?_
    obtain ⟨h1, rfl⟩ := wd_of hk
    have h2 := hP k _ (wd_get h1)
    by_cases h3 : 55 ≤ k ∧ k < 59
    · have h4 : k = 55 ∨ k = 56 ∨ k = 57 ∨ k = 58 := by omega
      rcases h4 with rfl | rfl | rfl | rfl
      · rw [hA2.1] at h2; rw [hM1]; exact h2
      · rw [hA2.2.1] at h2; rw [hM2]; exact h2
      · rw [hA2.2.2.1] at h2; rw [hM3]; exact h2
      · rw [hA2.2.2.2] at h2; rw [hM4]; exact h2
    · rw [hF k h3] at h2; exact h2
  have hD : va_D (qA (zn z) (za z) s.heap.size) (wd (zn z) (za z) ct) := wd_DA hq
  have hS : va_S (qA (zn z) (za z) s.heap.size) s.heap s.heap [] := va_S.rf
  refine lv_iconst (v := 3) hx hb dX2_kept_0 (by decide) ?_
  refine q_anew C0 hK hP hD hS hA9 (by decide +kernel) (n := 3) rfl (by decide) (Nat.le_of_ble_eq_true rfl) (Nat.le_of_ble_eq_true rfl) dX2_kept_1 (fun r0 H hP hD hS => ?_)
  refine lv_dup hx hb dX2_kept_4 rfl ?_
  refine lv_iconst (v := 0) hx hb dX2_kept_5 (by decide) ?_
  refine lv_aload_n hx hb dX2_kept_6 rfl (lv_at hl 0 rfl) ?_
  refine va_get hx hb hts hin2 hown hK.1 hP 55 ((wd_at (by omega)).trans (by rw [hM1])) (ci := 2) rfl 3 (by decide) (hts _ (by decide +kernel : Cond.fieldLink RX2 9 (TX2 3).1 (TX2 3).2.1 (TX2 3).2.2.1 ∈ wsX2_kept)) (fun _ h9 => h9) rfl dX2_kept_7 ?_
  refine q_clone C0 hK hl.1 hP hD hS hA9 56 ((wd_at (by omega)).trans (by rw [hM2])) (by decide +kernel) (by decide +kernel) (by decide +kernel) (by decide +kernel) (by decide +kernel) ⟨Nat.le_of_ble_eq_true rfl, Nat.le_of_ble_eq_true rfl⟩ (Nat.le_of_ble_eq_true rfl) (Nat.le_of_ble_eq_true rfl) dX2_kept_10 (fun r1 H hP hD hS => ?_)
  rw [List.append_assoc] at hP hD
  refine va_castA hx hb hown (hts _ (by decide +kernel : Cond.classLink RX2 103 "[I" ∈ wsX2_kept)) hP (zn z + 1) ((wd_tl 1).trans rfl) (q_nmI hK) dX2_kept_13 ?_
  refine q_aast C0 hK hP hD hS (zn z + 0) (zn z + 1) ((wd_tl 0).trans rfl) ((wd_tl 1).trans rfl) (i := 0) rfl (by decide) (by decide) dX2_kept_16 (fun H locs hP hD hS => ?_)
  rw [wd_tset] at hP hD
  refine lv_dup hx hb dX2_kept_17 rfl ?_
  refine lv_iconst (v := 1) hx hb dX2_kept_18 (by decide) ?_
  refine lv_aload_n hx hb dX2_kept_19 rfl (lv_at hl 0 rfl) ?_
  refine va_get hx hb hts hin2 hown hK.1 hP 55 ((wd_at (by omega)).trans (by rw [hM1])) (ci := 2) rfl 4 (by decide) (hts _ (by decide +kernel : Cond.fieldLink RX2 13 (TX2 4).1 (TX2 4).2.1 (TX2 4).2.2.1 ∈ wsX2_kept)) (fun _ h9 => h9) rfl dX2_kept_20 ?_
  refine q_clone C0 hK hl.1 hP hD hS hA9 57 ((wd_at (by omega)).trans (by rw [hM3])) (by decide +kernel) (by decide +kernel) (by decide +kernel) (by decide +kernel) (by decide +kernel) ⟨Nat.le_of_ble_eq_true rfl, Nat.le_of_ble_eq_true rfl⟩ (Nat.le_of_ble_eq_true rfl) (Nat.le_of_ble_eq_true rfl) dX2_kept_23 (fun r2 H hP hD hS => ?_)
  rw [List.append_assoc] at hP hD
  refine va_castA hx hb hown (hts _ (by decide +kernel : Cond.classLink RX2 103 "[I" ∈ wsX2_kept)) hP (zn z + 2) ((wd_tl 2).trans rfl) (q_nmI hK) dX2_kept_26 ?_
  refine q_aast C0 hK hP hD hS (zn z + 0) (zn z + 2) ((wd_tl 0).trans rfl) ((wd_tl 2).trans rfl) (i := 1) rfl (by decide) (by decide) dX2_kept_29 (fun H locs hP hD hS => ?_)
  rw [wd_tset] at hP hD
  refine lv_dup hx hb dX2_kept_30 rfl ?_
  refine lv_iconst (v := 2) hx hb dX2_kept_31 (by decide) ?_
  refine lv_aload_n hx hb dX2_kept_32 rfl (lv_at hl 0 rfl) ?_
  refine va_get hx hb hts hin2 hown hK.1 hP 55 ((wd_at (by omega)).trans (by rw [hM1])) (ci := 2) rfl 5 (by decide) (hts _ (by decide +kernel : Cond.fieldLink RX2 16 (TX2 5).1 (TX2 5).2.1 (TX2 5).2.2.1 ∈ wsX2_kept)) (fun _ h9 => h9) rfl dX2_kept_33 ?_
  refine q_clone C0 hK hl.1 hP hD hS hA9 58 ((wd_at (by omega)).trans (by rw [hM4])) (by decide +kernel) (by decide +kernel) (by decide +kernel) (by decide +kernel) (by decide +kernel) ⟨Nat.le_of_ble_eq_true rfl, Nat.le_of_ble_eq_true rfl⟩ (Nat.le_of_ble_eq_true rfl) (Nat.le_of_ble_eq_true rfl) dX2_kept_36 (fun r3 H hP hD hS => ?_)
  rw [List.append_assoc] at hP hD
  refine va_castA hx hb hown (hts _ (by decide +kernel : Cond.classLink RX2 103 "[I" ∈ wsX2_kept)) hP (zn z + 3) ((wd_tl 3).trans rfl) (q_nmI hK) dX2_kept_39 ?_
  refine q_aast C0 hK hP hD hS (zn z + 0) (zn z + 3) ((wd_tl 0).trans rfl) ((wd_tl 3).trans rfl) (i := 2) rfl (by decide) (by decide) dX2_kept_42 (fun H locs hP hD hS => ?_)
  rw [wd_tset] at hP hD
  refine W.widen (k := 4) (n := 210) (Nat.le_of_ble_eq_true rfl) (Nat.le_of_ble_eq_true rfl) ?_
  exact W.aret hx hb hr (Or.inr ⟨_, rfl⟩) (Or.inr ⟨_, rfl⟩) (fun t ht hW => ⟨⟨(r0, r1, r2, r3), r0, rfl, trivial, rfl, by rw [ht]; exact hP, QK.warm hW hK, hD⟩, hS.F ht⟩) hS.2.2 dX2_kept_43 hlocks
