/-! PART 32: methods that throw: the state stays, the class is told -/
abbrev NM2 : List String := ["java/lang/RuntimeException", "java/lang/Exception"]
def QD (U : State) : Prop := va_Nw (.declares (Bundle.initS "java/lang/RuntimeException")) U ∧ va_Nw (.declares (Bundle.initS "java/lang/Exception")) U ∧ va_Nw (.declares (Bundle.initS Bundle.tN)) U
theorem QD.warm {s U : State} (hW : s.WarmedH U.vm) (h : QD s) : QD U := ⟨va_Nw.warmD hW h.1, va_Nw.warmD hW h.2.1, va_Nw.warmD hW h.2.2⟩
theorem QD.same {u U : State} (hv : U.vm = u.vm) (h : QD u) : QD U := ⟨va_Nw.same rfl hv.symm h.1, va_Nw.same rfl hv.symm h.2.1, va_Nw.same rfl hv.symm h.2.2⟩
def TZ (z : QZ) (U : State) : Prop := vx_Zq Bundle.tN "UNASSIGNED_STACK" Bundle.steD (qA (zn z) (za z) U.heap.size) U U.heap ∧ vx_Zq Bundle.tN "SUPPRESSED_SENTINEL" Bundle.listD (qA (zn z) (za z) U.heap.size) U U.heap ∧ QD U
def QPreX (z : QZ) (ct : Nat → va_E) (sz : Nat) : State → Prop := fun U => QPre z ct sz U ∧ TZ z U
def XJ (z : QZ) {α : Type} (At : α → (Nat → va_E) → Prop) (lo hi : Nat) (c0 : Nat → va_E) : α → State → Prop := fun u t => ∃ ct, va_P (zG z) vwCl (wd (zn z) (za z) ct) t.heap ∧ At u ct ∧ Fr lo hi c0 ct
def XE (z : QZ) {α : Type} (At : α → (Nat → va_E) → Prop) (lo hi : Nat) (ct : Nat → va_E) (a : α) (E : String) (sz : Nat) : String → State → State → Prop := vx_X (fun u : α => u = a) (fun E2 u t => E2 = E ∧ XJ z At lo hi ct u t) (qA (zn z) (za z) sz)
def GXV (l : Launch) (y : MethodName) (ws : List Cond) (rm : Room) (z : QZ) (av : List Value) (mc ms : Nat) {α : Type} (At : α → (Nat → va_E) → Prop) (lo hi : Nat) (a : α) (E : String) : Prop :=
  ∀ ct sz, hi ≤ zn z → qI (zn z) (za z) → At a ct → vx_Met l y ws rm (va_Pc av (QPreX z ct sz)) (va_Qv (fun _ : α => False) (QJ z At lo hi ct) (qA (zn z) (za z) sz)) (XE z At lo hi ct a E sz) mc ms (qA (zn z) (za z) sz)
def GXI (l : Launch) (y : MethodName) (ws : List Cond) (rm : Room) (z : QZ) (av : List Value) (mc ms : Nat) {α : Type} (At : α → (Nat → va_E) → Prop) (lo hi : Nat) (a : α) (E : String) : Prop :=
  ∀ ct sz, hi ≤ zn z → qI (zn z) (za z) → At a ct → vx_Met l y ws rm (va_Pc av (QPreX z ct sz)) (va_Qi (fun (_ : Int32) (_ : α) => False) (QJ z At lo hi ct) (qA (zn z) (za z) sz)) (XE z At lo hi ct a E sz) mc ms (qA (zn z) (za z) sz)
theorem qx_entry {l : Launch} {y : MethodName} {ws ws' : List Cond} {rm : Room} {z : QZ} {av : List Value} {mc ms : Nat} {ct : Nat → va_E} {sz : Nat} {Qc : Array Value → State → Outcome → State → Prop} {XC : String → State → State → Prop} {free : Addr → Prop} {cc : ByteArray} {maxL : Nat} {ret : Option FieldType} {α : Type} {At : α → (Nat → va_E) → Prop} {lo hi : Nat} {a : α}
    (hy : plainName y.cls = true) (hw : ws = Cond.code y cc maxL ret :: ws') (hlen : (lg_sl av).length ≤ maxL) (hn : hi ≤ zn z) (hq : qI (zn z) (za z)) (hat : At a ct)
    (body : ∀ p e s m below meth c ls, Cx p s m av.toArray meth c cc maxL ret y.cls ws → QK z s → TZ z s → (∀ x ∈ c.exceptionTable.toList, False) → sz = s.heap.size → GW z At lo hi s.heap ct a s.heap [] → lv_has ls maxL (lv_args 0 av) →
      W p l e rm s m av.toArray below meth c s.heap [] 0 0 (vx_MQ below Qc XC av.toArray s mc ms free) (F0 m 0 ls [])) : vx_Met l y ws rm (va_Pc av (QPreX z ct sz)) Qc XC mc ms free := by
  refine vx_ofW (cc := cc) (maxL := maxL) (ret := ret) hy hw ?_
  intro p e s m args below meth c s₁ B hml ht hv
  obtain ⟨rfl, ⟨hsz, hP, hK⟩, hT⟩ := hv
  have hl := lv_entry av (n := maxL) hlen
  rw [lg_entry_eq]
  exact body p e s m below meth c _ ⟨B.exec, B.bytes, B.returns, hml, findClass_of_methodNamed B.named, atoms_spec (ws := ws) B.pre, B.notSynchronized⟩ hK hT ht hsz.symm ⟨ct, hP, va_S.rf, hat, Fr.rf, hn, hq⟩ hl
theorem TZ.at {z : QZ} {s U : State} {H : Heap} {locs : List Loc} (h : TZ z s) (hS : va_S (qA (zn z) (za z) s.heap.size) s.heap H locs) (hU : U.heap = H) (hW : s.WarmedH U.vm) : TZ z U := by
  unfold TZ
  rw [hU]
  exact ⟨vx_Zq.narrow (vx_Zq.moved hW.alike (h.1.kept hS.2.1)) (fun q hq => qA_sub hS.1 hq), vx_Zq.narrow (vx_Zq.moved hW.alike (h.2.1.kept hS.2.1)) (fun q hq => qA_sub hS.1 hq), h.2.2.warm hW⟩
theorem qx_blind {z : QZ} {ct : Nat → va_E} {sz : Nat} {av : List Value} : FrameBlind (va_Pc av (QPreX z ct sz)) := fun a U g mk q => by
  obtain ⟨q0, ⟨q1, qP, qK⟩, qT⟩ := q
  exact ⟨q0, ⟨q1, qP, QK.same rfl qK⟩, vx_Zq.moved (u := U) (Vm.Alike.refl _) qT.1, vx_Zq.moved (u := U) (Vm.Alike.refl _) qT.2.1, QD.same rfl qT.2.2⟩
section QTH
variable {p : Program} {l : Launch} {e : Env} {R : Room} {s : State} {m : MethodId} {args : Array Value} {below : List Frame} {meth : Method} {c : Code} {H : Heap} {locs : List Loc} {cells slots : Nat} {Q : State → Prop}
variable {cc : ByteArray} {nL : Nat} {ret : Option FieldType} {own : String} {ws : List Cond} {pc : Nat} {ls : Array Slot} {st0 rest : List Value} {z : QZ} {α : Type} {At : α → (Nat → va_E) → Prop} {lo hi : Nat} {c0 : Nat → va_E} {a : α}
variable {y : MethodName} {bytes : ByteArray} {maxL mc ms n index : Nat} {ret2 : Option FieldType} {ws2 : List Cond} {rm : Room} {C : String} {As : List Value} {mc0 ms0 : Nat} {Qc : Array Value → State → Outcome → State → Prop} {E : String}
theorem qx_given {ct : Nat → va_E} {av : List Value} (hK : QK z s) (hT : TZ z s) (hS : va_S (qA (zn z) (za z) s.heap.size) s.heap H locs) (hP : va_P (zG z) vwCl (wd (zn z) (za z) ct) H) : ∀ U : State, U.heap = H → s.WarmedH U.vm → va_Pc av (QPreX z ct H.size) av.toArray U :=
  fun U hU hW => ⟨rfl, ⟨by rw [hU], by rw [hU]; exact hP, QK.warm hW hK⟩, hT.at hS hU hW⟩
/-- what a throwing method owes -/
abbrev EX (z : QZ) {α : Type} (At : α → (Nat → va_E) → Prop) (lo hi : Nat) (ct : Nat → va_E) (a : α) (s : State) (below : List Frame) (Qc : Array Value → State → Outcome → State → Prop) (args : Array Value) (E : String) (mc ms : Nat) : State → Prop :=
  vx_MQ below Qc (XE z At lo hi ct a E s.heap.size) args s mc ms (qA (zn z) (za z) s.heap.size)
theorem G_out (hno : ∀ x ∈ c.exceptionTable.toList, False) (hlk : meth.locks = false) (h : GW z At lo hi s.heap c0 a H locs) {ce : Cell} {q : Addr} (hcell : H[q]? = some ce) (hv : ce.vm = .none) (hcl : s.vm.findClass E = some ce.cls) (h1 : cells ≤ mc0) (h2 : slots ≤ ms0) :
    vx_W p l e R s m args below meth c H locs cells slots (EX z At lo hi c0 a s below Qc args E mc0 ms0) (F0 m pc ls rest) q := by
  obtain ⟨ct, hP, hS, hA, hF, hn, hq⟩ := h
  exact vx_out (E := E) (fun x hx => (hno x hx).elim) hlk hcell hv hcl (fun t ht hvm => ⟨a, rfl, ⟨rfl, ct, by rw [ht]; exact hP, hA, hF⟩, hS.F ht⟩) hS.2.2 h1 h2
theorem G_throw (C0 : Cx p s m args meth c cc nL ret own ws) (hK : QK z s) (hT : TZ z s) (hlt : l.stackTraces = false) (hno : ∀ x ∈ c.exceptionTable.toList, False) (h : GW z At lo hi s.heap c0 a H locs) (hsz : ls.size = nL) {text : String} {ik is ic : Nat} (hE : Bundle.fit E = true) (hk : Cond.classLink own ik E ∈ ws) (hini : Cond.initialized E ∈ ws) (hstr : ∃ sa, vk_R own is text sa s) (hcast : va_Nw (.castable E E) s)
    (hat : ∀ w ∈ (vx_atS own ic E NM2).filter goodWord, w ∈ ws) (hbad : ∀ w ∈ (vx_atS own ic E NM2).filter (fun w => !goodWord w), w ∈ [Cond.castable E E, .declares (Bundle.initS "java/lang/RuntimeException"), .declares (Bundle.initS "java/lang/Exception"), .declares (Bundle.initS Bundle.tN)]) (hgood : ∀ w ∈ Cond.classLink own ik E :: Cond.initialized E :: vx_atS own ic E NM2, vx_ot w = true)
    (d0 : decode cc pc = .ok (.new ik, 3)) (d3 : decode cc (pc + 3) = .ok (.dup, 1)) (d4 : decode cc (pc + 4) = .ok (.ldc is, 2)) (d6 : decode cc (pc + 6) = .ok (.invokespecial ic, 3)) (d9 : decode cc (pc + 9) = .ok (.athrow, 1))
    (hr : 5 < R.frames ∧ (rest.map fun v => v.category).sum + 82 ≤ R.locals ∧ cells + 1 ≤ R.cells ∧ slots + 6 ≤ R.slots) (h1 : cells + 1 ≤ mc0) (h2 : slots + 6 ≤ ms0) :
    W p l e R s m args below meth c H locs cells slots (EX z At lo hi c0 a s below Qc args E mc0 ms0) (F0 m pc ls rest) := by
  obtain ⟨ct, hP, hS, hA, hF, hn, hq⟩ := h
  obtain ⟨sa, hstr⟩ := hstr
  exact vx_throwS C0.1 C0.2.1 hlt C0.2.2.2.2.1 hE (by decide) (C0.2.2.2.2.2.1 _ hk) (C0.2.2.2.2.2.1 _ hini) hstr (vx_hat (fun w hw => C0.2.2.2.2.2.1 _ (hat w hw)) hbad (vx_c (va_Nw.use rfl hcast) (vx_c (va_Nw.use rfl hT.2.2.1) (vx_c (va_Nw.use rfl hT.2.2.2.1) (vx_c (va_Nw.use rfl hT.2.2.2.2) vx_n))))) hgood hT.1 hT.2.1 hS (hsz.trans C0.2.2.2.1.symm) d0 d3 d4 d6 d9 (fun x hx => (hno x hx).elim) hr.1 hr.2.1 hr.2.2.1 hr.2.2.2 C0.2.2.2.2.2.2
    (fun t hvm hz hold => ⟨a, rfl, ⟨rfl, ct, hP.kept (fun k x hx => hold x.1 ((hP k x hx).lt)), hA, hF⟩, Nat.le_trans hS.1 hz, fun q h3 h4 => (hold q (Nat.lt_of_lt_of_le h3 hS.1)).trans (hS.2.1 q h3 h4)⟩) hS.2.2 h1 h2
theorem X_callVv (C0 : Cx p s m args meth c cc nL ret own ws) (hK : QK z s) (hT : TZ z s) (hno : ∀ x ∈ c.exceptionTable.toList, False) (h : GW z At lo hi s.heap c0 a H locs) {k ci : Nat} {q : vw_C} {fs : List Value} (hM : GXV l y ws2 rm z (.ref (za z k) :: As) mc ms At lo hi a E)
    (cw : CallW R s args own C index y bytes maxL ret2 ws2 rm mc ms n) (hk : k < hi) (hc : ∀ ct, At a ct → ct k = .inr (ci, fs)) (hcl : vwCl[ci]? = some q) (hC : q.1 = C) (hlen : As.length = n) (hsz : ls.size = nL) (hst : st0 = As.reverse ++ .ref (za z k) :: rest) (hroom : (rest.map fun v => v.category).sum ≤ 8) (hf : cells + mc ≤ R.cells ∧ slots + ms ≤ R.slots) (h1 : cells + mc ≤ mc0) (h2 : slots + ms ≤ ms0) (hdg : decode cc pc = .ok (.invokevirtual index, 3)) :
    W p l e R s m args below meth c H locs cells slots (EX z At lo hi c0 a s below Qc args E mc0 ms0) (F0 m pc ls st0) := by
  obtain ⟨ct, hP, hS, hA, hF, hn, hq⟩ := h
  refine vx_callv (vx_runV (As := As) (rest := rest) ⟨C0.1, C0.2.1, C0.2.2.2.1, C0.2.2.2.2.1, C0.2.2.2.2.2.1⟩ (hM ct H.size hn hq hA) cw ⟨qx_blind, by rw [← hC]; exact q_recv hK hP (Nat.lt_of_lt_of_le hk hn) (hc ct hA) hcl, qx_given hK hT hS hP⟩ rfl hlen hsz hst (lv_room hroom) hdg hf) hS (fun q _ h => qA_sub hS.1 h) (fun q h => qA_sub hS.1 h) (fun q _ h => qA_sub hS.1 h) (fun E2 ce q9 u t H1 locs1 ht hvm hp hB hz1 hk1 hS1 hce hcv hcl9 => ?_) (fun u t H1 locs1 ht hvm hp hB hz1 hk1 hS1 => hp.elim)
  obtain ⟨rfl, ct2, hP1, hA1, hF1⟩ := hB
  subst hp
  rw [ht] at hP1
  exact G_out hno C0.2.2.2.2.2.2 ⟨ct2, hP1, hS1, hA1, hF.trans hF1, hn, hq⟩ hce hcv hcl9 h1 h2
theorem X_callSv (C0 : Cx p s m args meth c cc nL ret own ws) (hK : QK z s) (hT : TZ z s) (hno : ∀ x ∈ c.exceptionTable.toList, False) (h : GW z At lo hi s.heap c0 a H locs) (hM : GXV l y ws2 rm z As mc ms At lo hi a E)
    (cw : CallB R s args own index y bytes maxL ret2 ws2 rm mc ms n ∧ (Cond.static y).before args s = true) (hlen : As.length = n) (hsz : ls.size = nL) (hst : st0 = As.reverse ++ rest) (hroom : (rest.map fun v => v.category).sum ≤ 8) (hf : cells + mc ≤ R.cells ∧ slots + ms ≤ R.slots) (h1 : cells + mc ≤ mc0) (h2 : slots + ms ≤ ms0) (hdg : decode cc pc = .ok (.invokestatic index, 3)) :
    W p l e R s m args below meth c H locs cells slots (EX z At lo hi c0 a s below Qc args E mc0 ms0) (F0 m pc ls st0) := by
  obtain ⟨ct, hP, hS, hA, hF, hn, hq⟩ := h
  refine vx_callv (vx_runS (As := As) (rest := rest) ⟨C0.1, C0.2.1, C0.2.2.2.1, C0.2.2.2.2.1, C0.2.2.2.2.2.1⟩ (hM ct H.size hn hq hA) cw ⟨qx_blind, qx_given hK hT hS hP⟩ rfl hlen hsz hst (lv_room hroom) hdg hf) hS (fun q _ h => qA_sub hS.1 h) (fun q h => qA_sub hS.1 h) (fun q _ h => qA_sub hS.1 h) (fun E2 ce q9 u t H1 locs1 ht hvm hp hB hz1 hk1 hS1 hce hcv hcl9 => ?_) (fun u t H1 locs1 ht hvm hp hB hz1 hk1 hS1 => hp.elim)
  obtain ⟨rfl, ct2, hP1, hA1, hF1⟩ := hB
  subst hp
  rw [ht] at hP1
  exact G_out hno C0.2.2.2.2.2.2 ⟨ct2, hP1, hS1, hA1, hF.trans hF1, hn, hq⟩ hce hcv hcl9 h1 h2
end QTH
