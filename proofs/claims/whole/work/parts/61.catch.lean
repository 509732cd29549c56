/-! PART 61: the law's helpers: the whole world, what is caught -/
abbrev QWs : Type := (Nat → QLs) × QMs × (Nat → Int64)
def WAt (z : QZ) (a : QWs) (ct : Nat → va_E) : Prop := XAt z a.1 ct ∧ MAt z a.2.1 ct ∧ ct 59 = .inl (zL z, 1, .inr (.inl a.2.2))
theorem WAt.X {z : QZ} {σ σ2 : Nat → QLs} {M : QMs} {f : Nat → Int64} {ct ct2 : Nat → va_E} (h : WAt z (σ, M, f) ct) (hA : XAt z σ2 ct2) (hF : Fr 0 55 ct ct2) : WAt z (σ2, M, f) ct2 :=
  ⟨hA, h.2.1.off (fun k h1 h2 => hF k (by omega)), by rw [hF 59 (by omega)]; exact h.2.2⟩
theorem LandAt.off9 {z : QZ} {b : Nat} {S : QLs} {ct ct2 : Nat → va_E} (h : LandAt z b S ct) (hF : ∀ k, b ≤ k → k < b + 27 → ct2 k = ct k) : LandAt z b S ct2 := by
  obtain ⟨h1, h2, h3, h4, h5⟩ := h
  exact ⟨by rw [hF _ (by omega) (by omega)]; exact h1, by rw [hF _ (by omega) (by omega)]; exact h2, by rw [hF _ (by omega) (by omega)]; exact h3, fun i hi => by rw [hF _ (by omega) (by omega)]; exact h4 i hi, fun i hi => by rw [hF _ (by omega) (by omega)]; exact h5 i hi⟩
theorem XAt.off9 {z : QZ} {σ : Nat → QLs} {ct ct2 : Nat → va_E} (h : XAt z σ ct) (hF : ∀ k, k < 55 → ct2 k = ct k) : XAt z σ ct2 :=
  ⟨by rw [hF 0 (by omega)]; exact h.1, fun b hb => (h.2 b hb).off9 (fun k h1 h2 => hF k (by omega))⟩
theorem WAt.M {z : QZ} {σ : Nat → QLs} {M M2 : QMs} {f : Nat → Int64} {ct ct2 : Nat → va_E} (h : WAt z (σ, M, f) ct) (hA : MAt z M2 ct2) (hF : Fr 55 59 ct ct2) : WAt z (σ, M2, f) ct2 :=
  ⟨h.1.off9 (fun k hk => hF k (by omega)), hA, by rw [hF 59 (by omega)]; exact h.2.2⟩
theorem WAt.F {z : QZ} {σ : Nat → QLs} {M : QMs} {f g : Nat → Int64} {ct : Nat → va_E} (h : WAt z (σ, M, f) ct) : WAt z (σ, M, g) (va_up ct 59 (.inl (zL z, 1, .inr (.inl g)))) :=
  ⟨h.1.off9 (fun k hk => va_up_ne _ _ (by omega)), h.2.1.off (fun k h1 h2 => va_up_ne _ _ (by omega)), va_up_self _ _ _⟩
def XF (z : QZ) (sz : Nat) : String → State → State → Prop := vx_X (fun _ : Unit => False) (fun _ _ _ => False) (qA (zn z) (za z) sz)
def HC (l : Launch) (y : MethodName) (ws : List Cond) (rm : Room) (z : QZ) (av : List Value) (mc ms : Nat) (a : QWs) (post : Int32 → QWs → Prop) : Prop :=
  ∀ ct sz, 60 ≤ zn z → qI (zn z) (za z) → WAt z a ct → vx_Met l y ws rm (va_Pc av (QPreX z ct sz)) (va_Qi post (QJ z (WAt z) 0 60 ct) (qA (zn z) (za z) sz)) (XF z sz) mc ms (qA (zn z) (za z) sz)
theorem qh_entry {l : Launch} {y : MethodName} {ws ws' : List Cond} {rm : Room} {z : QZ} {av : List Value} {mc ms : Nat} {ct : Nat → va_E} {sz : Nat} {Qc : Array Value → State → Outcome → State → Prop} {XC : String → State → State → Prop} {free : Addr → Prop} {cc : ByteArray} {maxL : Nat} {ret : Option FieldType} {hh : List (Nat × Nat × Nat × Nat)} {a : QWs}
    (hy : plainName y.cls = true) (hw : ws = Cond.codeWith y cc maxL ret hh :: ws') (hlen : (lg_sl av).length ≤ maxL) (hn : 60 ≤ zn z) (hq : qI (zn z) (za z)) (hat : WAt z a ct)
    (body : ∀ p e s m below meth c ls, Cx p s m av.toArray meth c cc maxL ret y.cls ws → QK z s → TZ z s → c.exceptionTable.toList = tableOf hh → sz = s.heap.size → GW z (WAt z) 0 60 s.heap ct a s.heap [] → lv_has ls maxL (lv_args 0 av) →
      W p l e rm s m av.toArray below meth c s.heap [] 0 0 (vx_MQ below Qc XC av.toArray s mc ms free) (F0 m 0 ls [])) : vx_Met l y ws rm (va_Pc av (QPreX z ct sz)) Qc XC mc ms free := by
  refine vx_ofWH (cc := cc) (maxL := maxL) (ret := ret) (hh := hh) hy hw ?_
  intro p e s m args below meth c s₁ B hml hv
  obtain ⟨rfl, ⟨hsz, hP, hK⟩, hT⟩ := hv
  have ht := vx_table (x := y) B (atoms_spec (ws := ws) B.pre _ (by rw [hw]; exact List.mem_cons_self))
  have hl := lv_entry av (n := maxL) hlen
  rw [lg_entry_eq]
  exact body p e s m below meth c _ ⟨B.exec, B.bytes, B.returns, hml, findClass_of_methodNamed B.named, atoms_spec (ws := ws) B.pre, B.notSynchronized⟩ hK hT ht hsz.symm ⟨ct, hP, va_S.rf, hat, Fr.rf, hn, hq⟩ hl
section QCA
variable {p : Program} {l : Launch} {e : Env} {R : Room} {s : State} {m : MethodId} {args : Array Value} {below : List Frame} {meth : Method} {c : Code} {H : Heap} {locs : List Loc} {cells slots : Nat} {Q : State → Prop}
variable {cc : ByteArray} {nL : Nat} {ret : Option FieldType} {own : String} {ws : List Cond} {pc : Nat} {ls : Array Slot} {st0 rest : List Value} {z : QZ} {c0 : Nat → va_E} {σ : Nat → QLs} {M : QMs} {f : Nat → Int64}
variable {y : MethodName} {bytes : ByteArray} {maxL mc ms n index : Nat} {ret2 : Option FieldType} {ws2 : List Cond} {rm : Room} {As : List Value} {E name : String}
theorem H_catch (C0 : Cx p s m args meth c cc nL ret own ws) (hK : QK z s) (hT : TZ z s) (h : GW z (WAt z) 0 60 s.heap c0 (σ, M, f) H locs) (hM : GXI l y ws2 rm z (.ref (za z 0) :: As) mc ms (XAt z) 0 55 σ E)
    (cw : CallW R s args own RX1 index y bytes maxL ret2 ws2 rm mc ms n) (hlen : As.length = n) (hsz : ls.size = nL) (hst : st0 = As.reverse ++ .ref (za z 0) :: rest) (hroom : (rest.map fun v => v.category).sum ≤ 8) (hf : cells + mc ≤ R.cells ∧ slots + ms ≤ R.slots) (hdg : decode cc pc = .ok (.invokevirtual index, 3))
    (pre : List ExceptionTableEntry) (x : ExceptionTableEntry) (suf : List ExceptionTableEntry) (hsplit : c.exceptionTable.toList = pre ++ x :: suf) (hpass : ∀ q ∈ pre, covers q pc = false ∨ (q.catchType ≠ 0 ∧ ∃ nm : String, (Cond.classLink own q.catchType nm).before args s = true ∧ va_Nc E nm s)) (hx : covers x pc = true) (h0 : x.catchType ≠ 0) (hlink : (Cond.classLink own x.catchType name).before args s = true) (hcast : va_Nw (.castable E name) s)
    (kk : ∀ (q : Nat) (H1 : Heap) (locs1 : List Loc), GW z (WAt z) 0 60 s.heap c0 (σ, M, f) H1 locs1 → W p l e R s m args below meth c H1 locs1 (cells + mc) (slots + ms) Q (F0 m x.handlerPc ls [.ref q])) : W p l e R s m args below meth c H locs cells slots Q (F0 m pc ls st0) := by
  obtain ⟨ct, hP, hS, hA, hF, hn, hq⟩ := h
  refine vx_calli (vx_runV (As := As) (rest := rest) ⟨C0.1, C0.2.1, C0.2.2.2.1, C0.2.2.2.2.1, C0.2.2.2.2.2.1⟩ (hM ct H.size (by omega) hq hA.1) cw ⟨qx_blind, q_recv (q := (RX1, TX1, 2)) hK hP (by omega) hA.1.1 rfl, qx_given hK hT hS hP⟩ rfl hlen hsz hst (lv_room hroom) hdg hf) hS (fun q _ h => qA_sub hS.1 h) (fun q h => qA_sub hS.1 h) (fun q _ h => qA_sub hS.1 h) (fun E2 ce q9 u t H1 locs1 ht hvm hp hB hz1 hk1 hS1 hce hcv hcl9 => ?_) (fun r u t H1 locs1 ht hvm hp hB hz1 hk1 hS1 => hp.elim)
  obtain ⟨rfl, ct2, hP1, hA1, hF1⟩ := hB
  subst hp
  rw [ht] at hP1
  exact vx_catch C0.2.2.2.2.1 pre x suf hsplit hpass hx h0 hlink (va_Nw.use rfl hcast) hce hcv hcl9 (kk q9 H1 locs1 ⟨ct2, hP1, hS1, hA.X hA1 hF1, hF.trans (hF1.wider (Nat.le_refl _) (by omega)), hn, hq⟩)
end QCA
theorem hp_one {α : Type} {x : α} {P : α → Prop} (h : P x) : ∀ q ∈ [x], P q := fun q hq => by rw [List.mem_singleton.mp hq]; exact h
theorem hp_two {α : Type} {x y : α} {P : α → Prop} (h : P x) (h2 : P y) : ∀ q ∈ [x, y], P q := fun q hq => by
  rcases List.mem_cons.mp hq with e | hq
  · rw [e]; exact h
  · rw [List.mem_singleton.mp hq]; exact h2
