/-! PART 67: rows for making tanks, pipes, arrays of them -/
section QNQ
variable {p : Program} {l : Launch} {e : Env} {R : Room} {s : State} {m : MethodId} {args : Array Value} {below : List Frame} {meth : Method} {c : Code} {H : Heap} {locs : List Loc} {cells slots : Nat} {Q : State → Prop}
variable {cc : ByteArray} {nL : Nat} {ret : Option FieldType} {own : String} {ws : List Cond} {pc : Nat} {ls : Array Slot} {rest : List Value} {z : QZ} {w : va_W} {A : Nat → Prop} {H0 : Heap} {c0 : Nat → va_E}
variable {ix : Nat → Nat} {t q b len ci t0 : Nat} {cA : ClassId} {u : US} {g : Nat → Option Nat} {fs : List Value}
theorem q_newq (C0 : Cx p s m args meth c cc nL ret own ws) (hK : QK z s) (hP : va_P (zG z) vwCl w H) (hD : va_D A w) (hS : va_S A H0 H locs) (hA : ∀ q, H0.size ≤ q → A q) {C : String} (hao : va_AO C s) (hty : (zT z)[t0]? = some (cA, .object C)) {index : Nat} (hl : Cond.classLink own index C ∈ ws) {n : Nat} {x : Int32} (hx : x = nI n) (hn : n < 1000) (hc : cells + 1 ≤ R.cells) (hs : slots + n ≤ R.slots) (hdg : decode cc pc = .ok (.anewarray index, 3))
    (kk : ∀ (q : Nat) (H1 : Heap), va_P (zG z) vwCl (w ++ [(q, .inl (cA, n, .inr (.inr (.inr (.inr (fun _ => none))))))]) H1 → va_D A (w ++ [(q, .inl (cA, n, .inr (.inr (.inr (.inr (fun _ => none))))))]) → va_S A H0 H1 locs → W p l e R s m args below meth c H1 locs (cells + 1) (slots + n) Q (F0 m (pc + 3) ls (.ref q :: rest))) : W p l e R s m args below meth c H locs cells slots Q (F0 m pc ls (.int x :: rest)) := by
  subst hx
  have tn : (nI n).toNatClampNeg = n := nI_clamp (by omega)
  refine W.anew C0.1 C0.2.1 C0.2.2.2.2.1 (C0.2.2.2.2.2.1 _ hl) (va_AO.use hao) rfl hdg rfl (nI_pos (by omega)) (by rw [tn]; omega) hc (by rw [tn]; exact hs) fun c1 kA comp f1 f2 f3 f4 => ?_
  obtain ⟨-, -, -, -, -, g4⟩ := (hK.1.2 t0 _ hty).2
  have ec : c1 = cA := Option.some.inj (f1.symm.trans g4)
  subst ec
  rw [tn]
  generalize hH1 : H.push ({ cls := c1, slots := Array.replicate n .null, vm := .none } : Cell) = H1
  have z1 : H1.size = H.size + 1 := by rw [← hH1, Array.size_push]
  have e1 : H1[H.size]? = some (arrV c1 n (fun _ => .null)) := by rw [← hH1, Array.getElem?_push_size, ← arrV_new]
  have o1 : ∀ q : Nat, q < H.size → H1[q]? = H[q]? := fun q hq => by rw [← hH1, Array.getElem?_push, if_neg (Nat.ne_of_lt hq)]
  refine kk H.size H1 ((hP.kept (fun k y hy => o1 y.1 ((hP k y hy).lt))).app (fun k y hy => ?_)) (hD.push hP rfl (hA _ hS.1)) ⟨Nat.le_trans hS.1 (by omega), fun y h1 h2 => (o1 y (Nat.lt_of_lt_of_le h1 hS.1)).trans (hS.2.1 y h1 h2), hS.2.2⟩
  have hz : k < 1 := (List.getElem?_eq_some_iff.mp hy).1
  rw [show k = 0 by omega] at hy
  cases hy
  show H1[H.size]? = some (vp_cell _ _)
  rw [vp_cell_q, e1]
  rfl
/-- a further array of references, at b -/
def BAt (z : QZ) (ix : Nat → Nat) (t q b : Nat) (cA : ClassId) (len : Nat) (a : US × (Nat → Option Nat)) (ct : Nat → va_E) : Prop := UAt z ix t q b 0 a.1 ct ∧ ct b = .inl (cA, len, .inr (.inr (.inr (.inr a.2))))
/-- and an object behind it, at b + 1 -/
def CAt (z : QZ) (ix : Nat → Nat) (t q b : Nat) (cA : ClassId) (len ci : Nat) (a : US × (Nat → Option Nat) × List Value) (ct : Nat → va_E) : Prop := UAt z ix t q b 0 a.1 ct ∧ ct b = .inl (cA, len, .inr (.inr (.inr (.inr a.2.1)))) ∧ ct (b + 1) = .inr (ci, a.2.2)
theorem UAt.wid {n : Nat} {X Y S : QLs} {f : Nat → Nat × (Nat → Int32)} {ct : Nat → va_E} (h : UAt z ix t q b 0 (X, Y, S, f) ct) : UAt z ix t q (b + n) 0 (X, Y, S, f) ct := h.drop (b + n) (by omega)
theorem B_rd {H0 : Heap} (h : GW z (BAt z ix t q b cA len) 0 (b + 1) H0 c0 (u, g) H locs) : GW z (UAt z ix t q (b + 1) 0) 0 (b + 1 + 0) H0 c0 (u.1, u.2.1, u.2.2.1, u.2.2.2) H locs := h.imp (fun ct hA => hA.1.wid)
theorem C_rd {H0 : Heap} (h : GW z (CAt z ix t q b cA len ci) 0 (b + 2) H0 c0 (u, g, fs) H locs) : GW z (UAt z ix t q (b + 2) 0) 0 (b + 2 + 0) H0 c0 (u.1, u.2.1, u.2.2.1, u.2.2.2) H locs := h.imp (fun ct hA => hA.1.wid)
/-- the array is made -/
theorem B_new (C0 : Cx p s m args meth c cc nL ret own ws) (hK : QK z s) (h : GW z (UAt z ix t q b 0) 0 (b + 0) s.heap c0 u H locs) (hzn : zn z = b) {C : String} (hao : va_AO C s) (hty : (zT z)[t0]? = some (cA, .object C)) {index : Nat} (hl : Cond.classLink own index C ∈ ws) {n : Nat} {x : Int32} (hx : x = nI n) (hn : n < 1000) (hc : cells + 1 ≤ R.cells) (hs : slots + n ≤ R.slots) (hdg : decode cc pc = .ok (.anewarray index, 3))
    (kk : ∀ (z2 : QZ) (c1 : Nat → va_E) (H1 : Heap), XZ s.heap.size z z2 → zn z2 = b + 1 → QK z2 s → GW z2 (BAt z2 ix t q b cA n) 0 (b + 1) s.heap c1 (u, fun _ => none) H1 locs → W p l e R s m args below meth c H1 locs (cells + 1) (slots + n) Q (F0 m (pc + 3) ls (.ref (za z2 b) :: rest))) : W p l e R s m args below meth c H locs cells slots Q (F0 m pc ls (.int x :: rest)) := by
  obtain ⟨ct, hP, hS, hA, hF, hn9, hq⟩ := h
  refine q_newq C0 hK hP (wd_DA hq) hS (fun q h => qA_new h) hao hty hl hx hn hc hs hdg (fun a H1 hP1 hD1 hS1 => ?_)
  have hA2 : BAt z ix t q b cA n (u, fun _ => none) (va_up ct (zn z) (.inl (cA, n, .inr (.inr (.inr (.inr (fun _ => none))))))) := ⟨UAt.more (X := u.1) (Y := u.2.1) (S := u.2.2.1) (f := u.2.2.2) hA (by omega) _, by rw [hzn, va_up_self]⟩
  obtain ⟨hX, hG⟩ := GW.grow (At := BAt z ix t q b cA n) (a := (u, fun _ => none)) (hi := b + 1) hP1 hD1 hS1 hA2 (by omega)
  have hG2 := hG.imp (At2 := BAt (zx z a) ix t q b cA n) (a2 := (u, fun _ => none)) (fun ct2 hA3 => ⟨hA3.1.ext hX (by omega), hA3.2⟩)
  have ea : a = za (zx z a) b := by
    show a = va_up (za z) (zn z) a b
    rw [← hzn, va_up_self]
  have k2 := kk (zx z a) _ H1 hX (by show zn z + 1 = _; omega) (hK.zx hX) hG2
  rw [← ea] at k2
  exact k2
/-- a reference is stored in it -/
theorem B_st (C0 : Cx p s m args meth c cc nL ret own ws) (hK : QK z s) (h : GW z (BAt z ix t q b cA len) 0 (b + 1) s.heap c0 (u, g) H locs) {r : vw_C} (hr : vwCl[ci]? = some r) (hty : (zT z)[t0]? = some (cA, .object r.1)) {k : Nat} (hk : k < b) (hck : ∀ ct, UAt z ix t q b 0 u ct → ct k = .inr (ci, fs)) {i : Nat} {x : Int32} (hx : x = nI i) (hi : i < len) (hlen : len < 1000) (hdg : decode cc pc = .ok (.aastore, 1))
    (kk : ∀ (H1 : Heap) (locs1 : List Loc), GW z (BAt z ix t q b cA len) 0 (b + 1) s.heap c0 (u, va_up g i (some (za z k))) H1 locs1 → W p l e R s m args below meth c H1 locs1 cells slots Q (F0 m (pc + 1) ls rest)) : W p l e R s m args below meth c H locs cells slots Q (F0 m pc ls (.ref (za z k) :: .int x :: .ref (za z b) :: rest)) := by
  obtain ⟨ct, hP, hS, hA, hF, hn, hq⟩ := h
  subst hx
  have e1 : (nI i).toNatClampNeg = i := nI_clamp (by omega)
  refine va_astq C0.1 C0.2.1 hK.1 hP (wd_DA hq) hS b t0 k ci ((wd_get (by omega)).trans (by rw [hA.2])) hty ((wd_get (by omega)).trans (by rw [hck ct hA.1])) hr (vp_in_nI hi (by omega)) hdg (fun H1 locs1 hP1 hD1 hS1 => kk H1 locs1 ⟨_, ?_, hS1, ⟨UAt.more (X := u.1) (Y := u.2.1) (S := u.2.2.1) (f := u.2.2.2) hA.1 (Nat.le_refl _) _, va_up_self _ _ _⟩, hF.up ⟨by omega, by omega⟩, hn, hq⟩)
  rw [e1, wd_set] at hP1; exact hP1
/-- an object is made behind it -/
theorem C_new (C0 : Cx p s m args meth c cc nL ret own ws) (hK : QK z s) (h : GW z (BAt z ix t q b cA len) 0 (b + 1) s.heap c0 (u, g) H locs) (hzn : zn z = b + 1) {C : String} {T : u_T} {N : Nat} (hin : ∀ w ∈ u_ws C T N, w ∈ ws) (ty : Nat → FieldType) (hty : ∀ k, k < N → parseFieldDescriptor (T k).2.2.1 = some (ty k)) {index : Nat} (hcl : Cond.classLink own index C ∈ ws) (hinst : Cond.instantiable C N ∈ ws) (hini : Cond.initialized C ∈ ws) (hci : vwCl[ci]? = some (C, T, N)) (hfs : ∀ j, j < N → defaultValue (ty j) = vp_V fs j) (hc : cells + 1 ≤ R.cells) (hs : slots + N ≤ R.slots) (hdg : decode cc pc = .ok (.new index, 3))
    (kk : ∀ (z2 : QZ) (c1 : Nat → va_E) (H1 : Heap), XZ s.heap.size z z2 → zn z2 = b + 2 → QK z2 s → GW z2 (CAt z2 ix t q b cA len ci) 0 (b + 2) s.heap c1 (u, g, fs) H1 locs → W p l e R s m args below meth c H1 locs (cells + 1) (slots + N) Q (F0 m (pc + 3) ls (.ref (za z2 (b + 1)) :: rest))) : W p l e R s m args below meth c H locs cells slots Q (F0 m pc ls rest) := by
  obtain ⟨ct, hP, hS, hA, hF, hn9, hq⟩ := h
  refine va_new (ci := ci) (fs := fs) (C := C) (T := T) (N := N) C0.1 C0.2.1 C0.2.2.2.2.2.1 hin ty hty C0.2.2.2.2.1 (C0.2.2.2.2.2.1 _ hcl) (C0.2.2.2.2.2.1 _ hinst) (C0.2.2.2.2.2.1 _ hini) hK.1 hP (wd_DA hq) hS (fun q h => qA_new h) hci hfs hc hs hdg (fun a H1 hP1 hD1 hS1 => ?_)
  have hA2 : CAt z ix t q b cA len ci (u, g, fs) (va_up ct (zn z) (.inr (ci, fs))) := ⟨UAt.more (X := u.1) (Y := u.2.1) (S := u.2.2.1) (f := u.2.2.2) hA.1 (by omega) _, by rw [va_up_ne _ _ (by omega)]; exact hA.2, by rw [hzn, va_up_self]⟩
  obtain ⟨hX, hG⟩ := GW.grow (At := CAt z ix t q b cA len ci) (a := (u, g, fs)) (hi := b + 2) hP1 hD1 hS1 hA2 (by omega)
  have hG2 := hG.imp (At2 := CAt (zx z a) ix t q b cA len ci) (a2 := (u, g, fs)) (fun ct2 hA3 => ⟨hA3.1.ext hX (by omega), hA3.2⟩)
  have ea : a = za (zx z a) (b + 1) := by
    show a = va_up (za z) (zn z) a (b + 1)
    rw [← hzn, va_up_self]
  have k2 := kk (zx z a) _ H1 hX (by show zn z + 1 = _; omega) (hK.zx hX) hG2
  rw [← ea] at k2
  exact k2
/-- a constructor that does nothing of its own -/
def IN0 (l : Launch) (y : MethodName) (ws : List Cond) (rm : Room) : Prop := ∀ (z : QZ) (w : va_W) (a sz : Nat), Met l y ws rm (va_Pc [.ref a] (PreN z w sz)) (va_Qv (fun _ : Unit => True) (fun _ t => va_P (zG z) vwCl w t.heap) (va_A w sz)) 0 0 (va_A w sz)
theorem I_call {α : Type} {At : α → (Nat → va_E) → Prop} {a0 : α} {hi index : Nat} {y : MethodName} {bytes : ByteArray} {maxL : Nat} {ws2 ws2' : List Cond} {rm : Room} {host : String} {a : Addr} (C0 : Cx p s m args meth c cc nL ret own ws) (hK : QK z s) (h : GW z At 0 hi s.heap c0 a0 H locs) (hM : IN0 l y ws2 rm) (hG : GoodIn ws ws2) (hw : ws2 = Cond.code y bytes maxL none :: ws2') (hrc : rm.cells = 0) (hrs : rm.slots = 0) (hl : va_Nw (.methodLinkNest own index y host) s) (hini : Cond.initialized y.cls ∈ ws) (hinst : Cond.instanceMethod y ∈ ws) (hy1 : y.name = "<init>") (hd : y.cls ≠ "java/lang/invoke/MethodHandle" ∧ y.cls ≠ "java/lang/invoke/VarHandle" ∧ (parseMethodDescriptor y.desc).map (fun d => d.parameters.length) = some 0) (hR : rm.frames + 1 ≤ R.frames ∧ 8 + (maxL + 11) + rm.locals ≤ R.locals) (hsz : ls.size = nL) (hroom : (rest.map fun v => v.category).sum ≤ 8) (hf : cells + 0 ≤ R.cells ∧ slots + 0 ≤ R.slots) (hdg : decode cc pc = .ok (.invokespecial index, 3))
    (kk : ∀ (H1 : Heap) (locs1 : List Loc), GW z At 0 hi s.heap c0 a0 H1 locs1 → W p l e R s m args below meth c H1 locs1 (cells + 0) (slots + 0) Q (F0 m (pc + 3) ls rest)) : W p l e R s m args below meth c H locs cells slots Q (F0 m pc ls (.ref a :: rest)) := by
  obtain ⟨ct, hP, hS, hA, hF, hn, hq⟩ := h
  have hD := wd_DA (ct := ct) (sz := s.heap.size) hq
  have hsub : ∀ x, va_A (wd (zn z) (za z) ct) H.size x → qA (zn z) (za z) s.heap.size x := by
    rintro x (⟨k, e9, hk⟩ | h9)
    · exact hD.2 k _ hk
    · exact Or.inr (Nat.le_trans hS.1 h9)
  refine va_callv (va_runIN (As := []) (rest := rest) ⟨C0.1, C0.2.1, C0.2.2.2.1, C0.2.2.2.2.1, C0.2.2.2.2.2.1⟩ (hM z (wd (zn z) (za z) ct) a H.size) ⟨va_cnB 0 C0.2.2.2.2.2.1 hG hw hrc hrs hl (C0.2.2.2.2.2.1 _ hini) hd hR, hy1, C0.2.2.2.2.2.1 _ hinst⟩ ⟨preN_blind, fun U hU hW => ⟨rfl, by rw [hU], by rw [hU]; exact hP, QK.warm hW hK, hD.weaken (fun _ _ _ _ => trivial)⟩⟩ rfl rfl hsz rfl (lv_room hroom) hdg hf) hS (fun x _ h9 => hsub x h9) hsub (fun u1 t1 H1 locs1 ht hvm hp hB hz1 hk1 hS1 => ?_)
  rw [ht] at hB
  exact kk H1 locs1 ⟨ct, hB, hS1, hA, hF, hn, hq⟩
theorem C_st (C0 : Cx p s m args meth c cc nL ret own ws) (hK : QK z s) (h : GW z (CAt z ix t q b cA len ci) 0 (b + 2) s.heap c0 (u, g, fs) H locs) {r : vw_C} (hr : vwCl[ci]? = some r) (hty : (zT z)[t0]? = some (cA, .object r.1)) {i : Nat} {x : Int32} (hx : x = nI i) (hi : i < len) (hlen : len < 1000) (hdg : decode cc pc = .ok (.aastore, 1))
    (kk : ∀ (H1 : Heap) (locs1 : List Loc), GW z (CAt z ix t q b cA len ci) 0 (b + 2) s.heap c0 (u, va_up g i (some (za z (b + 1))), fs) H1 locs1 → W p l e R s m args below meth c H1 locs1 cells slots Q (F0 m (pc + 1) ls rest)) : W p l e R s m args below meth c H locs cells slots Q (F0 m pc ls (.ref (za z (b + 1)) :: .int x :: .ref (za z b) :: rest)) := by
  obtain ⟨ct, hP, hS, hA, hF, hn, hq⟩ := h
  subst hx
  have e1 : (nI i).toNatClampNeg = i := nI_clamp (by omega)
  refine va_astq C0.1 C0.2.1 hK.1 hP (wd_DA hq) hS b t0 (b + 1) ci ((wd_get (by omega)).trans (by rw [hA.2.1])) hty ((wd_get (by omega)).trans (by rw [hA.2.2])) hr (vp_in_nI hi (by omega)) hdg (fun H1 locs1 hP1 hD1 hS1 => kk H1 locs1 ⟨_, ?_, hS1, ⟨UAt.more (X := u.1) (Y := u.2.1) (S := u.2.2.1) (f := u.2.2.2) hA.1 (Nat.le_refl _) _, va_up_self _ _ _, (va_up_ne _ _ (by omega)).trans hA.2.2⟩, hF.up ⟨by omega, by omega⟩, hn, hq⟩)
  rw [e1, wd_set] at hP1; exact hP1
theorem C_put (C0 : Cx p s m args meth c cc nL ret own ws) (hK : QK z s) (h : GW z (CAt z ix t q b cA len ci) 0 (b + 2) s.heap c0 (u, g, fs) H locs) {C : String} {T : u_T} {N : Nat} (hin : ∀ w ∈ u_ws C T N, w ∈ ws) (hcl : vwCl[ci]? = some (C, T, N)) (ty0 : Nat → FieldType) (hty : ∀ k, k < N → parseFieldDescriptor (T k).2.2.1 = some (ty0 k)) (hnm : ∀ a, a < N → ∀ b, b < N → a ≠ b → (T a).2.1 ≠ (T b).2.1) (j : Nat) (hj : j < N) {index : Nat} (hlink : Cond.fieldLink own index (T j).1 (T j).2.1 (T j).2.2.1 ∈ ws) (hfin : (T j).2.2.2 = false) {x : Int32} (hd : parseFieldDescriptor (T j).2.2.1 = some .int) (hl : j < fs.length) (hdg : decode cc pc = .ok (.putfield index, 3))
    (kk : ∀ (H1 : Heap) (locs1 : List Loc), GW z (CAt z ix t q b cA len ci) 0 (b + 2) s.heap c0 (u, g, fs.set j (.int x)) H1 locs1 → W p l e R s m args below meth c H1 locs1 cells slots Q (F0 m (pc + 3) ls rest)) : W p l e R s m args below meth c H locs cells slots Q (F0 m pc ls (.int x :: .ref (za z (b + 1)) :: rest)) :=
  G_put C0 hK h hin ci hcl ty0 hty hnm ⟨by omega, by omega⟩ (fun ct hA => hA.2.2) j hj hlink hfin hd hl (a' := (u, g, fs.set j (.int x))) (fun ct hA => ⟨UAt.more (X := u.1) (Y := u.2.1) (S := u.2.2.1) (f := u.2.2.2) hA.1 (by omega) _, (va_up_ne _ _ (by omega)).trans hA.2.1, va_up_self _ _ _⟩) hdg kk
/-- the land made by hand takes the array over -/
theorem C_sim (C0 : Cx p s m args meth c cc nL ret own ws) (hK : QK z s) (h : GW z (CAt z ix t q b cA len ci) 0 (b + 2) s.heap c0 (u, g, fs) H locs) (hin : ∀ w ∈ u_ws RX3 TX3 3, w ∈ ws) (j : Nat) (hj : j < 2) {index : Nat} (hlink : Cond.fieldLink own index (TX3 j).1 (TX3 j).2.1 (TX3 j).2.2.1 ∈ ws) {At2 : US → (Nat → va_E) → Prop} {u2 : US} (hu : ∀ ct, CAt z ix t q b cA len ci (u, g, fs) ct → At2 u2 (va_up ct 55 (.inr (3, [Value.ref (za z (ix 0)), .ref (za z (ix 1)), .int (qD u.2.2.1)].set j (.ref (za z b)))))) (hdg : decode cc pc = .ok (.putfield index, 3))
    (kk : ∀ (H1 : Heap) (locs1 : List Loc), GW z At2 0 (b + 2) s.heap c0 u2 H1 locs1 → W p l e R s m args below meth c H1 locs1 cells slots Q (F0 m (pc + 3) ls rest)) : W p l e R s m args below meth c H locs cells slots Q (F0 m pc ls (.ref (za z b) :: .ref (za z 55) :: rest)) := by
  obtain ⟨ct, hP, hS, hA, hF, hn, hq⟩ := h
  have h56 := hA.1.2.1.1.1.2.2
  have hf9 : (TX3 j).2.2.2 = false := by rcases (show j = 0 ∨ j = 1 by omega) with rfl | rfl <;> rfl
  have hfit : fits (tyX3 j) (.ref (za z b)) = true := by rcases (show j = 0 ∨ j = 1 by omega) with rfl | rfl <;> rfl
  have hnar : narrow (tyX3 j) (.ref (za z b)) = .ref (za z b) := by rcases (show j = 0 ∨ j = 1 by omega) with rfl | rfl <;> rfl
  refine va_put (fs := [Value.ref (za z (ix 0)), .ref (za z (ix 1)), .int (qD u.2.2.1)]) C0.1 C0.2.1 C0.2.2.2.2.2.1 hin tyX3 tyX3_ok nmX3 C0.2.2.2.2.1 hK.1 hP (wd_DA hq) hS 55 ((wd_get (by omega)).trans (by rw [hA.1.2.1.2.2.2.1])) (ci := 3) rfl j (by omega) (C0.2.2.2.2.2.1 _ hlink) (fun _ h9 => h9) hf9 (tyX3_ok j (by omega)) hnar hfit (show j < 3 by omega) hdg (fun H1 locs1 hP1 hD1 hS1 => kk H1 locs1 ⟨_, ?_, hS1, hu ct hA, hF.up ⟨by omega, by omega⟩, hn, hq⟩)
  rw [wd_set] at hP1; exact hP1
end QNQ
/-- the tanks' array while it is filled -/
def gT (z : QZ) (ix : Nat → Nat) (o i : Nat) : Nat → Option Nat := fun k => if k < i then some (za z (ix (o + k))) else none
theorem gT_0 {z : QZ} {ix : Nat → Nat} {o : Nat} : gT z ix o 0 = fun _ => none := by funext k; unfold gT; rw [if_neg (by omega)]
theorem gT_s {z : QZ} {ix : Nat → Nat} {o i : Nat} : va_up (gT z ix o i) i (some (za z (ix (o + i)))) = gT z ix o (i + 1) := by
  funext k
  by_cases e : k = i
  · subst e; rw [va_up_self]; unfold gT; rw [if_pos (by omega)]
  · rw [va_up_ne _ _ e]; unfold gT
    by_cases h : k < i
    · rw [if_pos h, if_pos (by omega)]
    · rw [if_neg h, if_neg (by omega)]
abbrev rowT (x y v : Int32) : Nat → Int32 := upd (upd (upd (fun _ => 0) 0 x) 1 y) 2 v
abbrev rowP (x y v w : Int32) : Nat → Int32 := upd (upd (upd (upd (fun _ => 0) 0 x) 1 y) 2 v) 3 w
def sBuild (S : QLs) (x y v : Int32) : QLs := st_ (sT S (qt S) (rowT x y v)) (qt S + 1)
def sLay (S : QLs) (x y v w : Int32) : QLs := sp_ (sP S (qp S) (rowP x y v w)) (qp S + 1)
def ixT (ix : Nat → Nat) (t b : Nat) : Nat → Nat := va_up (va_up ix 0 b) (2 + t) (b + 1)
def ixP (ix : Nat → Nat) (q b : Nat) : Nat → Nat := va_up (va_up ix 1 b) (12 + q) (b + 1)
theorem C_T {z : QZ} {ix : Nat → Nat} {t q b : Nat} {X Y S : QLs} {f : Nat → Nat × (Nat → Int32)} {ct : Nat → va_E} {x y v : Int32} (ht : t < 10) (h : CAt z ix t q b (zA z) (t + 1) 4 ((X, Y, S, f), va_up (gT z ix 2 t) t (some (za z (b + 1))), tkV (rowT x y v)) ct) : UAt z (ixT ix t b) (t + 1) q (b + 2) 0 (X, Y, sBuild S x y v, f) (va_up ct 55 (.inr (3, [Value.ref (za z (ix 0)), .ref (za z (ix 1)), .int (qD S)].set 0 (.ref (za z b))))) := by
  obtain ⟨⟨h1, ⟨⟨⟨g1, g2, g3⟩, g4, g5⟩, h3, h4, h5, h6⟩, h7⟩, h8, h9⟩ := h
  have e0 : ixT ix t b 0 = b := by unfold ixT; rw [va_up_ne _ _ (by omega), va_up_self]
  have eT : ixT ix t b (2 + t) = b + 1 := va_up_self _ _ _
  have eo : ∀ a, a ≠ 0 → a ≠ 2 + t → ixT ix t b a = ix a := fun a q1 q2 => by unfold ixT; rw [va_up_ne _ _ q2, va_up_ne _ _ q1]
  have hu : ∀ a, sUsed (t + 1) q a → a ≠ 2 + t → sUsed t q a := fun a q1 q2 => by rcases q1 with q1 | q1; exact Or.inl (by omega); exact Or.inr q1
  have hS3 : qt S = t := h3
  refine ⟨h1.off (fun k hk => va_up_ne _ _ (by omega)), ⟨⟨⟨by omega, g2, by omega⟩, fun a ha => ?_, fun a c ha hc hac => ?_⟩, by show qt S + 1 = t + 1; rw [hS3], h4, ?_, fun a ha => ?_⟩, fun j hj => by omega⟩
  · by_cases q1 : a = 0
    · subst q1; rw [e0]; omega
    · by_cases q2 : a = 2 + t
      · subst q2; rw [eT]; omega
      · rw [eo a q1 q2]; have := g4 a (hu a ha q2); omega
  · by_cases q1 : a = 0
    · subst q1; rw [e0] at hac
      by_cases q3 : c = 0
      · exact q3.symm
      · by_cases q4 : c = 2 + t
        · subst q4; rw [eT] at hac; omega
        · rw [eo c q3 q4] at hac; have := g4 c (hu c hc q4); omega
    · by_cases q2 : a = 2 + t
      · subst q2; rw [eT] at hac
        by_cases q3 : c = 0
        · subst q3; rw [e0] at hac; omega
        · by_cases q4 : c = 2 + t
          · exact q4.symm
          · rw [eo c q3 q4] at hac; have := g4 c (hu c hc q4); omega
      · rw [eo a q1 q2] at hac
        have b1 := g4 a (hu a ha q2)
        by_cases q3 : c = 0
        · subst q3; rw [e0] at hac; omega
        · by_cases q4 : c = 2 + t
          · subst q4; rw [eT] at hac; omega
          · rw [eo c q3 q4] at hac; exact g5 a c (hu a ha q2) (hu c hc q4) hac
  · rw [va_up_self, e0, eo 1 (by omega) (by omega)]; rfl
  · by_cases q1 : a = 0
    · subst q1; rw [e0, va_up_ne _ _ (by omega), h8]
      unfold simV; rw [if_pos rfl]
      refine congrArg (fun g => (.inl (zA z, t + 1, .inr (.inr (.inr (.inr g)))) : va_E)) (funext fun k => ?_)
      show va_up (gT z ix 2 t) t (some (za z (b + 1))) k = _
      by_cases e : k = t
      · subst e; rw [va_up_self, if_pos (by omega), eT]
      · rw [va_up_ne _ _ e]; unfold gT
        by_cases h : k < t
        · rw [if_pos h, if_pos (by omega), eo _ (by omega) (by omega)]
        · rw [if_neg h, if_neg (by omega)]
    · by_cases q2 : a = 2 + t
      · subst q2; rw [eT, va_up_ne _ _ (by omega), h9, simV_T (by omega)]
        show _ = (.inr (4, tkV (va_up (qT S) (qt S) (rowT x y v) t)) : va_E)
        rw [hS3, va_up_self]
      · have b1 := g4 a (hu a ha q2)
        rw [eo a q1 q2, va_up_ne _ _ (by omega), h6 a (hu a ha q2)]
        by_cases q5 : a = 1
        · subst q5
          unfold simV; rw [if_neg (by omega), if_pos rfl, if_neg (by omega), if_pos rfl]
          refine congrArg (fun g => (.inl (zB z, q, .inr (.inr (.inr (.inr g)))) : va_E)) (funext fun k => ?_)
          by_cases h : k < q
          · rw [if_pos h, if_pos h, eo _ (by omega) (by omega)]
          · rw [if_neg h, if_neg h]
        · by_cases h12 : a < 12
          · obtain ⟨j, rfl⟩ : ∃ j, a = 2 + j := ⟨a - 2, by omega⟩
            rw [simV_T (by omega), simV_T (by omega)]
            show _ = (.inr (4, tkV (va_up (qT S) (qt S) (rowT x y v) j)) : va_E)
            rw [hS3, va_up_ne _ _ (by omega)]
          · obtain ⟨j, rfl⟩ : ∃ j, a = 12 + j := ⟨a - 12, by omega⟩
            rw [simV_P, simV_P]; rfl
theorem C_P {z : QZ} {ix : Nat → Nat} {t q b : Nat} {X Y S : QLs} {f : Nat → Nat × (Nat → Int32)} {ct : Nat → va_E} {x y v w : Int32} (ht : q < 14) (h : CAt z ix t q b (zB z) (q + 1) 2 ((X, Y, S, f), va_up (gT z ix 12 q) q (some (za z (b + 1))), ppV (rowP x y v w)) ct) : UAt z (ixP ix q b) t (q + 1) (b + 2) 0 (X, Y, sLay S x y v w, f) (va_up ct 55 (.inr (3, [Value.ref (za z (ix 0)), .ref (za z (ix 1)), .int (qD S)].set 1 (.ref (za z b))))) := by
  obtain ⟨⟨h1, ⟨⟨⟨g1, g2, g3⟩, g4, g5⟩, h3, h4, h5, h6⟩, h7⟩, h8, h9⟩ := h
  have e0 : ixP ix q b 1 = b := by unfold ixP; rw [va_up_ne _ _ (by omega), va_up_self]
  have eT : ixP ix q b (12 + q) = b + 1 := va_up_self _ _ _
  have eo : ∀ a, a ≠ 1 → a ≠ 12 + q → ixP ix q b a = ix a := fun a q1 q2 => by unfold ixP; rw [va_up_ne _ _ q2, va_up_ne _ _ q1]
  have hu : ∀ a, sUsed t (q + 1) a → a ≠ 12 + q → sUsed t q a := fun a q1 q2 => by rcases q1 with q1 | q1; exact Or.inl q1; exact Or.inr (by omega)
  have hS3 : qp S = q := h4
  refine ⟨h1.off (fun k hk => va_up_ne _ _ (by omega)), ⟨⟨⟨g1, by omega, by omega⟩, fun a ha => ?_, fun a c ha hc hac => ?_⟩, h3, by show qp S + 1 = q + 1; rw [hS3], ?_, fun a ha => ?_⟩, fun j hj => by omega⟩
  · by_cases q1 : a = 1
    · subst q1; rw [e0]; omega
    · by_cases q2 : a = 12 + q
      · subst q2; rw [eT]; omega
      · rw [eo a q1 q2]; have := g4 a (hu a ha q2); omega
  · by_cases q1 : a = 1
    · subst q1; rw [e0] at hac
      by_cases q3 : c = 1
      · exact q3.symm
      · by_cases q4 : c = 12 + q
        · subst q4; rw [eT] at hac; omega
        · rw [eo c q3 q4] at hac; have := g4 c (hu c hc q4); omega
    · by_cases q2 : a = 12 + q
      · subst q2; rw [eT] at hac
        by_cases q3 : c = 1
        · subst q3; rw [e0] at hac; omega
        · by_cases q4 : c = 12 + q
          · exact q4.symm
          · rw [eo c q3 q4] at hac; have := g4 c (hu c hc q4); omega
      · rw [eo a q1 q2] at hac
        have b1 := g4 a (hu a ha q2)
        by_cases q3 : c = 1
        · subst q3; rw [e0] at hac; omega
        · by_cases q4 : c = 12 + q
          · subst q4; rw [eT] at hac; omega
          · rw [eo c q3 q4] at hac; exact g5 a c (hu a ha q2) (hu c hc q4) hac
  · rw [va_up_self, e0, eo 0 (by omega) (by omega)]; rfl
  · by_cases q1 : a = 1
    · subst q1; rw [e0, va_up_ne _ _ (by omega), h8]
      unfold simV; rw [if_neg (by omega), if_pos rfl]
      refine congrArg (fun g => (.inl (zB z, q + 1, .inr (.inr (.inr (.inr g)))) : va_E)) (funext fun k => ?_)
      show va_up (gT z ix 12 q) q (some (za z (b + 1))) k = _
      by_cases e : k = q
      · subst e; rw [va_up_self, if_pos (by omega), eT]
      · rw [va_up_ne _ _ e]; unfold gT
        by_cases h : k < q
        · rw [if_pos h, if_pos (by omega), eo _ (by omega) (by omega)]
        · rw [if_neg h, if_neg (by omega)]
    · by_cases q2 : a = 12 + q
      · subst q2; rw [eT, va_up_ne _ _ (by omega), h9, simV_P]
        show _ = (.inr (2, ppV (va_up (qP S) (qp S) (rowP x y v w) q)) : va_E)
        rw [hS3, va_up_self]
      · have b1 := g4 a (hu a ha q2)
        rw [eo a q1 q2, va_up_ne _ _ (by omega), h6 a (hu a ha q2)]
        by_cases q5 : a = 0
        · subst q5
          unfold simV; rw [if_pos rfl, if_pos rfl]
          refine congrArg (fun g => (.inl (zA z, t, .inr (.inr (.inr (.inr g)))) : va_E)) (funext fun k => ?_)
          by_cases h : k < t
          · rw [if_pos h, if_pos h, eo _ (by omega) (by omega)]
          · rw [if_neg h, if_neg h]
        · by_cases h12 : a < 12
          · obtain ⟨j, rfl⟩ : ∃ j, a = 2 + j := ⟨a - 2, by omega⟩
            rw [simV_T (by omega), simV_T (by omega)]; rfl
          · obtain ⟨j, rfl⟩ : ∃ j, a = 12 + j := ⟨a - 12, by omega⟩
            rw [simV_P, simV_P]
            show _ = (.inr (2, ppV (va_up (qP S) (qp S) (rowP x y v w) j)) : va_E)
            rw [hS3, va_up_ne _ _ (by omega)]
