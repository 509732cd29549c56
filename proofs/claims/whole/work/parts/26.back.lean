/-! PART 26: bringBack; calls while the kept cells stand -/
theorem qA_out {N n sz : Nat} {ad ad4 : Nat → Nat} {ct4 : Nat → va_E} (hD : va_D (qA n ad sz) (wd N ad4 ct4)) (hag : ∀ k, k < n → ad4 k = ad k) (hN : n ≤ N) : ∀ k, n ≤ k → k < N → sz ≤ ad4 k := fun k h1 h2 => by
  rcases hD.2 k _ (wd_get h2) with ⟨j, hj, e⟩ | h
  · have := wd_qI hD j k (by omega) h2 (by rw [hag j hj]; exact e)
    omega
  · exact h
theorem qA_two {z zk : QZ} {sz : Nat} (hN : zn z ≤ zn zk) (hag : ∀ k, k < zn z → za zk k = za z k) (hout : ∀ k, zn z ≤ k → k < zn zk → sz ≤ za zk k) (x : Nat) : qA (zn zk) (za zk) sz x ↔ qA (zn z) (za z) sz x := by
  constructor
  · rintro (⟨k, hk, e⟩ | h)
    · by_cases h1 : k < zn z
      · exact Or.inl ⟨k, h1, by rw [← hag k h1]; exact e⟩
      · exact Or.inr (by rw [← e]; exact hout k (by omega) hk)
    · exact Or.inr h
  · rintro (⟨k, hk, e⟩ | h)
    · exact Or.inl ⟨k, by omega, by rw [hag k hk]; exact e⟩
    · exact Or.inr h
theorem GW_grow {z zk : QZ} {α : Type} {At : α → (Nat → va_E) → Prop} {lo hi : Nat} {H0 H1 : Heap} {ct4 : Nat → va_E} {a : α} {locs : List Loc} (hN : zn z ≤ zn zk) (hG : zG zk = zG z) (hag : ∀ k, k < zn z → za zk k = za z k) (hout : ∀ k, zn z ≤ k → k < zn zk → H0.size ≤ za zk k) (hP : va_P (zG z) vwCl (wd (zn zk) (za zk) ct4) H1) (hI : qI (zn zk) (za zk)) (hS : va_S (qA (zn z) (za z) H0.size) H0 H1 locs) (hA : At a ct4) (hn : hi ≤ zn zk) : GW zk At lo hi H0 ct4 a H1 locs :=
  ⟨ct4, by rw [hG]; exact hP, hS.iff (fun x => (qA_two hN hag hout x).symm), hA, Fr.rf, hn, hI⟩
theorem GW_shrink {z zk : QZ} {α : Type} {At At2 : α → (Nat → va_E) → Prop} {lo hi : Nat} {H0 H1 : Heap} {c0 c1 : Nat → va_E} {a : α} {locs : List Loc} (h : GW zk At lo hi H0 c1 a H1 locs) (hout : ∀ k, zn z ≤ k → k < zn zk → H0.size ≤ za zk k) (hag : ∀ k, k < zn z → za zk k = za z k) (hN : zn z ≤ zn zk) (hG : zG zk = zG z) (hc : ∀ k, k < zn z → ¬ (lo ≤ k ∧ k < hi) → c1 k = c0 k) (hn : hi ≤ zn z) (hA : ∀ ct ct2, At a ct → (∀ k, k < zn z → ct2 k = ct k) → At2 a ct2) : GW z At2 lo hi H0 c0 a H1 locs := by
  obtain ⟨ct, hP, hS, hat, hF, -, hI⟩ := h
  refine ⟨fun k => if k < zn z then ct k else c0 k, ?_, hS.iff (qA_two hN hag hout), hA ct _ hat (fun k hk => if_pos hk), ?_, hn, fun i j hi hj e => hI i j (by omega) (by omega) (by rw [hag i hi, hag j hj]; exact e)⟩
  · intro k x hk
    obtain ⟨h1, rfl⟩ := wd_of hk
    have h2 := hP k _ (wd_get (show k < zn zk by omega))
    rw [hag k h1, hG] at h2
    show va_at (zG z) vwCl (za z k, if k < zn z then ct k else c0 k) H1
    rw [if_pos h1]; exact h2
  · intro k hk
    show (if k < zn z then ct k else c0 k) = c0 k
    by_cases h1 : k < zn z
    · rw [if_pos h1, hF k hk, hc k h1 hk]
    · rw [if_neg h1]
def KpAt (z : QZ) (K : Nat) (fA fB fY : Nat → Int32) (ct : Nat → va_E) : Prop := (∃ g : Nat → Option Nat, ct K = qR 3 (zR z) g ∧ g 0 = some (za z (K + 1)) ∧ g 1 = some (za z (K + 2)) ∧ g 2 = some (za z (K + 3))) ∧ ct (K + 1) = .inl (zI z, 80, .inl fA) ∧ ct (K + 2) = .inl (zI z, 126, .inl fB) ∧ ct (K + 3) = .inl (zI z, 1, .inl fY)
theorem KpAt.off {z : QZ} {K : Nat} {fA fB fY : Nat → Int32} {ct ct2 : Nat → va_E} (h : KpAt z K fA fB fY ct) (hk : ∀ k, K ≤ k → ct2 k = ct k) : KpAt z K fA fB fY ct2 := by
  obtain ⟨⟨g, h1, h2⟩, h3, h4, h5⟩ := h
  exact ⟨⟨g, by rw [hk _ (by omega)]; exact h1, h2⟩, by rw [hk _ (by omega)]; exact h3, by rw [hk _ (by omega)]; exact h4, by rw [hk _ (by omega)]; exact h5⟩
def BAt (z : QZ) (K : Nat) (fA fB fY : Nat → Int32) (M : QMs) (ct : Nat → va_E) : Prop := MAt z M ct ∧ KpAt z K fA fB fY ct
theorem BAt.up {z : QZ} {K k : Nat} {fA fB fY : Nat → Int32} {M M2 : QMs} {ct : Nat → va_E} {e : va_E} (h : BAt z K fA fB fY M ct) (hk : k < K) (h2 : MAt z M2 (va_up ct k e)) : BAt z K fA fB fY M2 (va_up ct k e) := ⟨h2, h.2.off (fun j hj => va_up_ne _ _ (by omega))⟩
theorem BAt.fr {z : QZ} {K : Nat} {fA fB fY : Nat → Int32} {M M2 : QMs} {ct ct2 : Nat → va_E} (hK : 59 ≤ K) (h : BAt z K fA fB fY M ct) (h2 : MAt z M2 ct2) (hF : Fr 55 59 ct ct2) : BAt z K fA fB fY M2 ct2 := ⟨h2, h.2.off (fun j hj => hF j (by omega))⟩
section QBB
variable {p : Program} {l : Launch} {e : Env} {R : Room} {s : State} {m : MethodId} {args : Array Value} {below : List Frame} {meth : Method} {c : Code} {H : Heap} {locs : List Loc} {cells slots : Nat} {Q : State → Prop}
variable {cc : ByteArray} {nL : Nat} {ret : Option FieldType} {own : String} {ws : List Cond} {pc : Nat} {ls : Array Slot} {st0 rest : List Value} {z : QZ} {c0 : Nat → va_E} {M : QMs} {K : Nat} {fA fB fY : Nat → Int32}
variable {α : Type} {At : α → (Nat → va_E) → Prop} {lo hi : Nat} {a : α}
theorem G_ialdN (C0 : Cx p s m args meth c cc nL ret own ws) (hK : QK z s) (h : GW z At lo hi s.heap c0 a H locs) {k len : Nat} {f : Nat → Int32} (hk : k < zn z) (hc : ∀ ct, At a ct → ct k = .inl (zI z, len, .inl f)) {i : Int32} {j : Nat} (hij : i = nI j) (hj : j < len) (hlen : len < 2147483648) (hdg : decode cc pc = .ok (.iaload, 1))
    (kk : W p l e R s m args below meth c H locs cells slots Q (F0 m (pc + 1) ls (.int (f j) :: rest))) : W p l e R s m args below meth c H locs cells slots Q (F0 m pc ls (.int i :: .ref (za z k) :: rest)) := by
  obtain ⟨ct, hP, hS, hA, hF, hn, hq⟩ := h
  subst hij
  have e1 : (nI j).toNatClampNeg = j := nI_clamp (by omega)
  refine va_iald C0.1 C0.2.1 hK.1 hP k 0 ((wd_get hk).trans (by rw [hc ct hA])) rfl (vp_in_nI hj (by omega)) hdg ?_
  rw [e1]; exact kk
theorem B_aald (C0 : Cx p s m args meth c cc nL ret own ws) (hK : QK z s) (h : GW z (BAt z K fA fB fY) lo hi s.heap c0 M H locs) (hk : K < zn z) {i : Int32} {j : Nat} (hij : i = nI j) (hj : j < 3) (hdg : decode cc pc = .ok (.aaload, 1))
    (kk : W p l e R s m args below meth c H locs cells slots Q (F0 m (pc + 1) ls (.ref (za z (K + 1 + j)) :: rest))) : W p l e R s m args below meth c H locs cells slots Q (F0 m pc ls (.int i :: .ref (za z K) :: rest)) := by
  obtain ⟨ct, hP, hS, hA, hF, hn, hq⟩ := h
  obtain ⟨g, g1, g2, g3, g4⟩ := hA.2.1
  subst hij
  have e1 : (nI j).toNatClampNeg = j := nI_clamp (by omega)
  have hr : g j = some (za z (K + 1 + j)) := by
    rcases (show j = 0 ∨ j = 1 ∨ j = 2 by omega) with rfl | rfl | rfl
    · exact g2
    · exact g3
    · exact g4
  have hv : vp_in (nI j) 3 := vp_in_nI hj (by omega)
  have hp := hP K _ ((wd_get hk).trans (by rw [g1]))
  have hlt : (nI j).toNatClampNeg < 3 := by rw [e1]; exact hj
  refine W.aald (v := .ref (za z (K + 1 + j))) (ty := .array .int) C0.1 C0.2.1 hp ((hK.1.2 1 _ rfl).1 3 (fun j => va_rf (g j))) rfl (fun q => by cases q) (by show ¬ (nI j < 0 ∨ (arrV _ _ _).slots.size ≤ _); rw [arrV_size]; exact hv) (by show (arrV _ _ _).slots[_]? = _; rw [arrV_read _ _ hlt, e1, hr]; rfl) rfl rfl hdg kk
theorem G_copyN (C0 : Cx p s m args meth c cc nL ret own ws) (hK : QK z s) (hsz : ls.size = nL) (h : GW z At lo hi s.heap c0 a H locs) {k0 k1 n0 n1 sp dp n : Nat} {f g f2 : Nat → Int32} (hk0 : k0 < zn z) (hk1 : lo ≤ k1 ∧ k1 < hi) (hc0 : ∀ ct, At a ct → ct k0 = .inl (zI z, n0, .inl f)) (hc1 : ∀ ct, At a ct → ct k1 = .inl (zI z, n1, .inl g)) {i0 i1 i2 : Int32} (e0 : i0 = nI sp) (e1 : i1 = nI dp) (e2 : i2 = nI n) (h0 : sp + n ≤ n0) (h1 : dp + n ≤ n1) (hb0 : n0 < 2147483648) (hb1 : n1 < 2147483648) (hf2 : ∀ j, j < n1 → va_cpy f g sp dp n j = f2 j) {a' : α} (hu : ∀ ct, At a ct → At a' (va_up ct k1 (.inl (zI z, n1, .inl f2))))
    {index : Nat} (hl : Cond.methodLink own index arraycopyName ∈ ws) (hn : Cond.native arraycopyName ∈ ws) (hs : Cond.static arraycopyName ∈ ws) (hi9 : Cond.initialized "java/lang/System" ∈ ws) (hr : 1 ≤ R.frames ∧ (rest.map fun v => v.category).sum + (nativeFrameWords "java/lang/System" "arraycopy" 5 + 11) ≤ R.locals) (hdg : decode cc pc = .ok (.invokestatic index, 3))
    (kk : ∀ (H1 : Heap) (locs1 : List Loc), GW z At lo hi s.heap c0 a' H1 locs1 → W p l e R s m args below meth c H1 locs1 cells slots Q (F0 m (pc + 3) ls rest)) : W p l e R s m args below meth c H locs cells slots Q (F0 m pc ls (.int i2 :: .int i1 :: .ref (za z k1) :: .int i0 :: .ref (za z k0) :: rest)) := by
  obtain ⟨ct, hP, hS, hA, hF, hn9, hq⟩ := h
  subst e0; subst e1; subst e2
  have t0 : (nI sp).toNatClampNeg = sp := nI_clamp (by omega)
  have t1 : (nI dp).toNatClampNeg = dp := nI_clamp (by omega)
  have t2 : (nI n).toNatClampNeg = n := nI_clamp (by omega)
  refine va_copyi C0.1 C0.2.1 (C0.2.2.2.1.trans hsz.symm) C0.2.2.2.2.1 (C0.2.2.2.2.2.1 _ hl) (C0.2.2.2.2.2.1 _ hn) (C0.2.2.2.2.2.1 _ hs) (C0.2.2.2.2.2.1 _ hi9) hK.1 hP (wd_DA hq) hS k0 k1 0 0 ((wd_get hk0).trans (by rw [hc0 ct hA])) ((wd_get (Nat.lt_of_lt_of_le hk1.2 hn9)).trans (by rw [hc1 ct hA])) rfl rfl rfl (nI_pos (by omega)) (nI_pos (by omega)) (nI_pos (by omega)) (by rw [t0, t2]; exact h0) (by rw [t1, t2]; exact h1) (fun _ _ => rfl) hr.1 hr.2 hdg (fun H1 locs1 hP1 hD1 hS1 => kk H1 locs1 ⟨_, ?_, hS1, hu ct hA, hF.up hk1, hn9, hq⟩)
  rw [t0, t1, t2, wd_set] at hP1
  exact wd_repl hP1 (fun a ha => va_at_int hf2 ha)
theorem G_iastN (C0 : Cx p s m args meth c cc nL ret own ws) (hK : QK z s) (h : GW z At lo hi s.heap c0 a H locs) {k len : Nat} {f f2 : Nat → Int32} (hk : lo ≤ k ∧ k < hi) (hc : ∀ ct, At a ct → ct k = .inl (zI z, len, .inl f)) {i x : Int32} {j : Nat} (hij : i = nI j) (hj : j < len) (hlen : len < 2147483648) (hf2 : ∀ q, q < len → upd f j x q = f2 q) {a' : α} (hu : ∀ ct, At a ct → At a' (va_up ct k (.inl (zI z, len, .inl f2)))) (hdg : decode cc pc = .ok (.iastore, 1))
    (kk : ∀ (H1 : Heap) (locs1 : List Loc), GW z At lo hi s.heap c0 a' H1 locs1 → W p l e R s m args below meth c H1 locs1 cells slots Q (F0 m (pc + 1) ls rest)) : W p l e R s m args below meth c H locs cells slots Q (F0 m pc ls (.int x :: .int i :: .ref (za z k) :: rest)) := by
  obtain ⟨ct, hP, hS, hA, hF, hn, hq⟩ := h
  subst hij
  have e1 : (nI j).toNatClampNeg = j := nI_clamp (by omega)
  refine va_iast C0.1 C0.2.1 hK.1 hP (wd_DA hq) hS k 0 ((wd_get (Nat.lt_of_lt_of_le hk.2 hn)).trans (by rw [hc ct hA])) rfl (vp_in_nI hj (by omega)) hdg (fun H1 locs1 hP1 hD1 hS1 => kk H1 locs1 ⟨_, ?_, hS1, hu ct hA, hF.up hk, hn, hq⟩)
  rw [e1, wd_set] at hP1; exact wd_repl hP1 (fun a ha => va_at_int hf2 ha)
end QBB
set_option maxHeartbeats 4000000 in
set_option maxRecDepth 100000 in
theorem c_X2_bringBack (l : Launch) (z : QZ) (M : QMs) (K : Nat) (fA fB fY : Nat → Int32) (hK9 : 59 ≤ K) (hK8 : K + 4 ≤ zn z) : GV l yX2_bringBack wsX2_bringBack ({ frames := 1, cells := 0, slots := 0, locals := 60 } : Room) z [.ref (za z 55), .ref (za z K)] 0 0 (BAt z K fA fB fY) 55 59 M (fun M' => M' = (mH M, mt_ M, mp_ M, fA, fB, fY)) := by
  intro ct sz hn hq hat
  refine q_entry (lo := 55) (cc := cX2_bringBack) (maxL := 2) (ret := none) (by decide) rfl (Nat.le_of_ble_eq_true rfl) hn hq hat ?_
  intro p e s m below meth c ls C0 hK hsz h hl
  subst hsz
  obtain ⟨hx, hb, hr, hml, hown, hts, hlocks⟩ := id C0
  have hin2 : ∀ w ∈ u_ws RX2 TX2 6, w ∈ wsX2_bringBack := by decide +kernel
  have hl : lv_has ls 2 [(0, .ref (za z 55)), (1, .ref (za z K))] := hl
  refine lv_aload_n hx hb dX2_bringBack_0 rfl (lv_at hl 1 rfl) ?_
  refine lv_iconst (v := 0) hx hb dX2_bringBack_1 (by decide) ?_
  refine B_aald C0 hK h (by omega) (j := 0) rfl (by decide) dX2_bringBack_2 ?_
  refine lv_iconst (v := 0) hx hb dX2_bringBack_3 (by decide) ?_
  refine lv_aload_n hx hb dX2_bringBack_4 rfl (lv_at hl 0 rfl) ?_
  refine G_get C0 hK h hin2 2 rfl (by omega) (fun ct hA => hA.1.1) 3 (by decide) (by decide +kernel) rfl dX2_bringBack_5 ?_
  refine lv_iconst (v := 0) hx hb dX2_bringBack_8 (by decide) ?_
  refine lv_aload_n hx hb dX2_bringBack_9 rfl (lv_at hl 0 rfl) ?_
  refine G_get C0 hK h hin2 2 rfl (by omega) (fun ct hA => hA.1.1) 3 (by decide) (by decide +kernel) rfl dX2_bringBack_10 ?_
  refine G_alen C0 hK h (by omega) (fun ct hA => hA.1.2.1) dX2_bringBack_13 ?_
  refine G_copyN C0 hK hl.1 h (k0 := K + 1 + 0) (n := 80) (sp := 0) (dp := 0) (by omega) (by omega) (fun ct hA => hA.2.2.1) (fun ct hA => hA.1.2.1) rfl rfl rfl (by omega) (by omega) (by omega) (by omega) (f2 := fA) (fun q hq => by rw [pk_cpy_in (by omega) (by omega)]; congr 1; omega) (a' := uA M fA) (fun ct hA => hA.up (by omega) (hA.1.A _)) (by decide +kernel) (by decide +kernel) (by decide +kernel) (by decide +kernel) (by decide) dX2_bringBack_14 (fun H locs h => ?_)
  refine lv_aload_n hx hb dX2_bringBack_17 rfl (lv_at hl 1 rfl) ?_
  refine lv_iconst (v := 1) hx hb dX2_bringBack_18 (by decide) ?_
  refine B_aald C0 hK h (by omega) (j := 1) rfl (by decide) dX2_bringBack_19 ?_
  refine lv_iconst (v := 0) hx hb dX2_bringBack_20 (by decide) ?_
  refine lv_aload_n hx hb dX2_bringBack_21 rfl (lv_at hl 0 rfl) ?_
  refine G_get C0 hK h hin2 2 rfl (by omega) (fun ct hA => hA.1.1) 4 (by decide) (by decide +kernel) rfl dX2_bringBack_22 ?_
  refine lv_iconst (v := 0) hx hb dX2_bringBack_25 (by decide) ?_
  refine lv_aload_n hx hb dX2_bringBack_26 rfl (lv_at hl 0 rfl) ?_
  refine G_get C0 hK h hin2 2 rfl (by omega) (fun ct hA => hA.1.1) 4 (by decide) (by decide +kernel) rfl dX2_bringBack_27 ?_
  refine G_alen C0 hK h (by omega) (fun ct hA => hA.1.2.2.1) dX2_bringBack_30 ?_
  refine G_copyN C0 hK hl.1 h (k0 := K + 1 + 1) (n := 126) (sp := 0) (dp := 0) (by omega) (by omega) (fun ct hA => hA.2.2.2.1) (fun ct hA => hA.1.2.2.1) rfl rfl rfl (by omega) (by omega) (by omega) (by omega) (f2 := fB) (fun q hq => by rw [pk_cpy_in (by omega) (by omega)]; congr 1; omega) (a' := uB (uA M fA) fB) (fun ct hA => hA.up (by omega) (hA.1.B _)) (by decide +kernel) (by decide +kernel) (by decide +kernel) (by decide +kernel) (by decide) dX2_bringBack_31 (fun H locs h => ?_)
  have hf9 : ∀ (x : Nat → Int32) (q : Nat), q < 1 → upd x 0 (fY 0) q = fY q := fun x q hq => by rw [show q = 0 by omega]; exact pk_us
  refine lv_aload_n hx hb dX2_bringBack_34 rfl (lv_at hl 0 rfl) ?_
  refine G_get C0 hK h hin2 2 rfl (by omega) (fun ct hA => hA.1.1) 5 (by decide) (by decide +kernel) rfl dX2_bringBack_35 ?_
  refine lv_iconst (v := 0) hx hb dX2_bringBack_38 (by decide) ?_
  refine lv_aload_n hx hb dX2_bringBack_39 rfl (lv_at hl 1 rfl) ?_
  refine lv_iconst (v := 2) hx hb dX2_bringBack_40 (by decide) ?_
  refine B_aald C0 hK h (by omega) (j := 2) rfl (by decide) dX2_bringBack_41 ?_
  refine lv_iconst (v := 0) hx hb dX2_bringBack_42 (by decide) ?_
  refine G_ialdN C0 hK h (k := K + 1 + 2) (by omega) (fun ct hA => hA.2.2.2.2) (j := 0) rfl (by decide) (by decide) dX2_bringBack_43 ?_
  refine G_iastN C0 hK h (k := 58) (by omega) (fun ct hA => hA.1.2.2.2) (j := 0) rfl (by decide) (by decide) (f2 := fY) (hf9 _) (a' := uY (uB (uA M fA) fB) fY) (fun ct hA => hA.up (by omega) (hA.1.Y _)) dX2_bringBack_44 (fun H locs h => ?_)
  exact G_vret C0 hK h rfl (Nat.le_of_ble_eq_true rfl) (Nat.le_of_ble_eq_true rfl) dX2_bringBack_45
section QBC
variable {p : Program} {l : Launch} {e : Env} {R : Room} {s : State} {m : MethodId} {args : Array Value} {below : List Frame} {meth : Method} {c : Code} {H : Heap} {locs : List Loc} {cells slots : Nat} {Q : State → Prop}
variable {cc : ByteArray} {nL : Nat} {ret : Option FieldType} {own : String} {ws : List Cond} {pc : Nat} {ls : Array Slot} {st0 rest : List Value} {z : QZ} {c0 : Nat → va_E} {M : QMs} {K : Nat} {fA fB fY : Nat → Int32}
variable {y : MethodName} {bytes : ByteArray} {maxL mc ms n index : Nat} {ret2 : Option FieldType} {ws2 : List Cond} {rm : Room} {As : List Value}
theorem B_calli (C0 : Cx p s m args meth c cc nL ret own ws) (hK : QK z s) (hK9 : 59 ≤ K) (h : GW z (BAt z K fA fB fY) 55 59 s.heap c0 M H locs) {post : Int32 → QMs → Prop} (hM : GI l y ws2 rm z (.ref (za z 55) :: As) mc ms (MAt z) 55 59 M post)
    (cw : CallW R s args own RX2 index y bytes maxL ret2 ws2 rm mc ms n) (hlen : As.length = n) (hsz : ls.size = nL) (hst : st0 = As.reverse ++ .ref (za z 55) :: rest) (hroom : (rest.map fun v => v.category).sum ≤ 8) (hf : cells + mc ≤ R.cells ∧ slots + ms ≤ R.slots) (hdg : decode cc pc = .ok (.invokevirtual index, 3))
    (kk : ∀ (r : Int32) (u : QMs) (H1 : Heap) (locs1 : List Loc), post r u → GW z (BAt z K fA fB fY) 55 59 s.heap c0 u H1 locs1 → W p l e R s m args below meth c H1 locs1 (cells + mc) (slots + ms) Q (F0 m (pc + 3) ls (.int r :: rest))) : W p l e R s m args below meth c H locs cells slots Q (F0 m pc ls st0) :=
  G_callVi C0 hK h hM (fun _ h => h.1) (fun u => u) (fun _ _ _ hA hB hF => hA.fr hK9 hB hF) (Nat.le_refl _) (Nat.le_refl _) cw (k := 55) (ci := 2) (by omega) (fun ct hA => hA.1.1) rfl rfl hlen hsz hst hroom hf hdg kk
theorem B_callv (C0 : Cx p s m args meth c cc nL ret own ws) (hK : QK z s) (hK9 : 59 ≤ K) (h : GW z (BAt z K fA fB fY) 55 59 s.heap c0 M H locs) {post : QMs → Prop} (hM : GV l y ws2 rm z (.ref (za z 55) :: As) mc ms (MAt z) 55 59 M post)
    (cw : CallW R s args own RX2 index y bytes maxL ret2 ws2 rm mc ms n) (hlen : As.length = n) (hsz : ls.size = nL) (hst : st0 = As.reverse ++ .ref (za z 55) :: rest) (hroom : (rest.map fun v => v.category).sum ≤ 8) (hf : cells + mc ≤ R.cells ∧ slots + ms ≤ R.slots) (hdg : decode cc pc = .ok (.invokevirtual index, 3))
    (kk : ∀ (u : QMs) (H1 : Heap) (locs1 : List Loc), post u → GW z (BAt z K fA fB fY) 55 59 s.heap c0 u H1 locs1 → W p l e R s m args below meth c H1 locs1 (cells + mc) (slots + ms) Q (F0 m (pc + 3) ls (rest))) : W p l e R s m args below meth c H locs cells slots Q (F0 m pc ls st0) :=
  G_callVv C0 hK h hM (fun _ h => h.1) (fun u => u) (fun _ _ _ hA hB hF => hA.fr hK9 hB hF) (Nat.le_refl _) (Nat.le_refl _) cw (k := 55) (ci := 2) (by omega) (fun ct hA => hA.1.1) rfl rfl hlen hsz hst hroom hf hdg kk
theorem G_kept (C0 : Cx p s m args meth c cc nL ret own ws) (hK : QK z s) (h : GW z (MAt z) 55 59 s.heap c0 M H locs) (cw : CallW R s args own RX2 index yX2_kept bytes maxL ret2 wsX2_kept ({ frames := 1, cells := 4, slots := 210, locals := 20 } : Room) 4 210 0) (hsz : ls.size = nL) (hst : st0 = .ref (za z 55) :: rest) (hroom : (rest.map fun v => v.category).sum ≤ 8) (hf : cells + 4 ≤ R.cells ∧ slots + 210 ≤ R.slots) (hdg : decode cc pc = .ok (.invokevirtual index, 3))
    (kk : ∀ (zk : QZ) (c1 : Nat → va_E) (H1 : Heap) (locs1 : List Loc), QK zk s → zn zk = zn z + 4 → (∀ k, k < zn z → za zk k = za z k) → GW zk (BAt zk (zn z) (mA M) (mB M) (mY M)) 55 59 s.heap c1 M H1 locs1 → (∀ M2 H2 locs2, GW zk (BAt zk (zn z) (mA M) (mB M) (mY M)) 55 59 s.heap c1 M2 H2 locs2 → GW z (MAt z) 55 59 s.heap c0 M2 H2 locs2) → W p l e R s m args below meth c H1 locs1 (cells + 4) (slots + 210) Q (F0 m (pc + 3) ls (.ref (za zk (zn z)) :: rest))) : W p l e R s m args below meth c H locs cells slots Q (F0 m pc ls st0) := by
  obtain ⟨ct, hP, hS, hA, hF, hn, hq⟩ := h
  refine va_callr (va_runV (As := []) (rest := rest) ⟨C0.1, C0.2.1, C0.2.2.2.1, C0.2.2.2.2.1, C0.2.2.2.2.2.1⟩ (c_X2_kept l z M ct H.size hn hq hA) cw ⟨q_blind, q_recv (q := (RX2, TX2, 6)) hK hP (k := 55) (ci := 2) (by omega) hA.1 rfl, q_given hK hP⟩ rfl rfl hsz hst (lv_room hroom) hdg hf) hS (fun q _ h => qA_sub hS.1 h) (fun q h => qA_sub hS.1 h) (fun r ra t H1 locs1 ht hvm hp hB hz1 hk1 hS1 => ?_)
  obtain ⟨r0, r1, r2, r3⟩ := r
  obtain ⟨hra, hP1, -, hD1⟩ := hB
  rw [ht] at hP1
  have hra : ra = r0 := hra
  subst hra
  have hD2 : va_D (qA (zn z) (za z) s.heap.size) (wd (zn z) (za z) ct ++ kpW z M (ra, r1, r2, r3)) := hD1.weaken (fun _ _ _ h => qA_sub hS.1 h)
  have e4 : wd (zn z) (za z) ct ++ kpW z M (ra, r1, r2, r3) = (((wd (zn z) (za z) ct ++ [(ra, qR 3 (zR z) (va_up (va_up (va_up (fun _ => none) 0 (some r1)) 1 (some r2)) 2 (some r3)))]) ++ [(r1, .inl (zI z, 80, .inl (mA M)))]) ++ [(r2, .inl (zI z, 126, .inl (mB M)))]) ++ [(r3, .inl (zI z, 1, .inl (mY M)))] := by
    simp [kpW]
  rw [e4] at hP1 hD2
  clear e4 hD1
  rw [wd_snoc, wd_snoc, wd_snoc, wd_snoc] at hP1 hD2
  have hag : ∀ k, k < zn z → za (zx (zx (zx (zx z ra) r1) r2) r3) k = za z k := fun k hk => by
    show va_up (va_up (va_up (va_up (za z) (zn z) ra) (zn z + 1) r1) (zn z + 1 + 1) r2) (zn z + 1 + 1 + 1) r3 k = za z k
    rw [va_up_ne _ _ (by omega), va_up_ne _ _ (by omega), va_up_ne _ _ (by omega), va_up_ne _ _ (by omega)]
  have hout : ∀ k, zn z ≤ k → k < zn (zx (zx (zx (zx z ra) r1) r2) r3) → s.heap.size ≤ za (zx (zx (zx (zx z ra) r1) r2) r3) k := qA_out hD2 hag (show zn z ≤ zn z + 1 + 1 + 1 + 1 by omega)
  have hold : ∀ k, k < zn z → (va_up (va_up (va_up (va_up ct (zn z) (qR 3 (zR z) (va_up (va_up (va_up (fun _ => none) 0 (some r1)) 1 (some r2)) 2 (some r3)))) (zn z + 1) (.inl (zI z, 80, .inl (mA M)))) (zn z + 1 + 1) (.inl (zI z, 126, .inl (mB M)))) (zn z + 1 + 1 + 1) (.inl (zI z, 1, .inl (mY M)))) k = ct k := fun k hk => by
    rw [va_up_ne _ _ (by omega), va_up_ne _ _ (by omega), va_up_ne _ _ (by omega), va_up_ne _ _ (by omega)]
  rw [show (.ref ra : Value) = .ref (za (zx (zx (zx (zx z ra) r1) r2) r3) (zn z)) from by
    show (.ref ra : Value) = .ref (va_up (va_up (va_up (va_up (za z) (zn z) ra) (zn z + 1) r1) (zn z + 1 + 1) r2) (zn z + 1 + 1 + 1) r3 (zn z))
    rw [va_up_ne _ _ (by omega), va_up_ne _ _ (by omega), va_up_ne _ _ (by omega), va_up_self]]
  refine kk (zx (zx (zx (zx z ra) r1) r2) r3) _ H1 locs1 hK rfl hag (GW_grow (z := z) (by show zn z ≤ zn z + 1 + 1 + 1 + 1; omega) rfl hag hout hP1 (wd_qI hD2) hS1 ⟨hA.same (fun k h1 h2 => hag k (by omega)) rfl (fun k h1 h2 => hold k (by omega)), ⟨_, by rw [va_up_ne _ _ (by omega), va_up_ne _ _ (by omega), va_up_ne _ _ (by omega), va_up_self], ?_, ?_, ?_⟩, ?_, ?_, ?_⟩ (by show 59 ≤ zn z + 1 + 1 + 1 + 1; omega)) (fun M2 H2 locs2 h2 => GW_shrink h2 hout hag (by show zn z ≤ zn z + 1 + 1 + 1 + 1; omega) rfl (fun k h1 h3 => (hold k h1).trans (hF k h3)) hn (fun ct1 ct2 h3 h4 => h3.1.same (fun k h5 h6 => (hag k (by omega)).symm) rfl (fun k h5 h6 => h4 k (by omega))))
  · show some r1 = some (va_up (va_up (va_up (va_up (za z) (zn z) ra) (zn z + 1) r1) (zn z + 1 + 1) r2) (zn z + 1 + 1 + 1) r3 (zn z + 1))
    rw [va_up_ne _ _ (by omega), va_up_ne _ _ (by omega), va_up_self]
  · show some r2 = some (va_up (va_up (va_up (va_up (za z) (zn z) ra) (zn z + 1) r1) (zn z + 1 + 1) r2) (zn z + 1 + 1 + 1) r3 (zn z + 2))
    rw [va_up_ne _ _ (by omega), show zn z + 2 = zn z + 1 + 1 from rfl, va_up_self]
  · show some r3 = some (va_up (va_up (va_up (va_up (za z) (zn z) ra) (zn z + 1) r1) (zn z + 1 + 1) r2) (zn z + 1 + 1 + 1) r3 (zn z + 3))
    rw [show zn z + 3 = zn z + 1 + 1 + 1 from rfl, va_up_self]
  · rw [va_up_ne _ _ (by omega), va_up_ne _ _ (by omega), va_up_self]
  · rw [va_up_ne _ _ (by omega), show zn z + 2 = zn z + 1 + 1 from rfl, va_up_self]
  · rw [show zn z + 3 = zn z + 1 + 1 + 1 from rfl, va_up_self]
end QBC
