/-! PART 02: the world of this claim: n cells at ad 0 .. ad (n-1), what each holds by ct; a state 'a' is what At says of ct -/
abbrev QZ : Type := va_G × ClassId × ClassId × (ClassId × ClassId) × Nat × (Nat → Nat)
abbrev zG (z : QZ) : va_G := z.1
abbrev zI (z : QZ) : ClassId := z.2.1
abbrev zR (z : QZ) : ClassId := z.2.2.1
abbrev zA (z : QZ) : ClassId := z.2.2.2.1.1
abbrev zB (z : QZ) : ClassId := z.2.2.2.1.2
abbrev zn (z : QZ) : Nat := z.2.2.2.2.1
abbrev za (z : QZ) : Nat → Nat := z.2.2.2.2.2
abbrev zT (z : QZ) : List (ClassId × FieldType) := [(zI z, .int), (zR z, .array .int), (zA z, .object RX4), (zB z, .object RX2)]
abbrev eA : String := "java/lang/IllegalArgumentException"
abbrev eS : String := "java/lang/IllegalStateException"
abbrev eB : String := "java/lang/IndexOutOfBoundsException"
def QE (U : State) : Prop := (va_AO RX4 U ∧ va_AO RX2 U) ∧ va_Nw (.methodLinkNest RX3 33 yX4_init RL) U ∧ va_Nw (.methodLinkNest RX3 43 yX2_init RL) U ∧ va_Nw (.methodLinkNest RL 77 yX3_init RL) U
/-- what the tables say: of the classes, of arrays of arrays, of clones, of the throws -/
def QK (z : QZ) (U : State) : Prop := va_K (zG z) vwCl (zT z) U ∧ va_Nw (.arrayOver (.array .int)) U ∧ True ∧ QE U
theorem qao_warm {u U : State} (hvm : u.vm.Alike U.vm) (h : va_Nw (.arrayOver (.array .int)) u) : va_Nw (.arrayOver (.array .int)) U := by
  obtain ⟨comp, c, k, h1, h2, h3, h4, h5⟩ := arrayOverA_spec h
  obtain ⟨k', hk', he⟩ := hvm.2.2 _ _ h3
  have hi : (U.vm.classes.findIdx? fun (x : Class) => match x.kind with | .array component _ => component == comp | _ => false) = some c := by
    rw [hvm.findIdx?_eq _ (fun _ => rfl)]
    exact h2
  have hkind : k'.kind = .array comp (.array .int) := by rw [he]; exact h4
  have f1 : U.vm.findClass (FieldType.array .int).toString = some comp := by rw [hvm.findClass]; exact h1
  have f2 : U.vm.findClass ("[" ++ (FieldType.array .int).toString) = some c := by rw [hvm.findClass]; exact h5
  unfold va_Nw Cond.before Cond.holds
  simp only [Cond.value]
  rw [f1, Option.bind_some]
  refine (congrArg (fun o : Option Nat => (o.bind (fun c => (U.vm.classes[c]?).map fun (k : Class) => match k.kind with | .array _ ty => decide (ty = FieldType.array .int) && decide (U.vm.findClass ("[" ++ (FieldType.array .int).toString) = some c) | _ => false) == some true)) hi).trans ?_
  simp [hk', hkind, f2]
theorem QE.warm {s U : State} (hW : s.WarmedH U.vm) (h : QE s) : QE U := ⟨⟨va_AO.moved hW.alike h.1.1, va_AO.moved hW.alike h.1.2⟩, va_Nw.warmM hW h.2.1, va_Nw.warmM hW h.2.2.1, va_Nw.warmM hW h.2.2.2⟩
theorem QE.same {u U : State} (hv : U.vm = u.vm) (h : QE u) : QE U := by
  have hA : u.vm.Alike U.vm := by rw [hv]; exact Vm.Alike.refl _
  exact ⟨⟨va_AO.moved hA h.1.1, va_AO.moved hA h.1.2⟩, va_Nw.same rfl hv.symm h.2.1, va_Nw.same rfl hv.symm h.2.2.1, va_Nw.same rfl hv.symm h.2.2.2⟩
theorem QK.warm {z : QZ} {s U : State} (hW : s.WarmedH U.vm) (h : QK z s) : QK z U := ⟨va_K.moved hW.alike h.1, qao_warm hW.alike h.2.1, h.2.2.1, QE.warm hW h.2.2.2⟩
theorem QK.same {z : QZ} {u U : State} (hv : U.vm = u.vm) (h : QK z u) : QK z U := by
  have hA : u.vm.Alike U.vm := by rw [hv]; exact Vm.Alike.refl _
  exact ⟨va_K.moved hA h.1, qao_warm hA h.2.1, h.2.2.1, QE.same hv h.2.2.2⟩
def wd (n : Nat) (ad : Nat → Nat) (ct : Nat → va_E) : va_W := (List.range n).map (fun k => (ad k, ct k))
theorem wd_len {n : Nat} {ad : Nat → Nat} {ct : Nat → va_E} : (wd n ad ct).length = n := by simp [wd]
theorem wd_get {n : Nat} {ad : Nat → Nat} {ct : Nat → va_E} {k : Nat} (h : k < n) : (wd n ad ct)[k]? = some (ad k, ct k) := by
  simp [wd, List.getElem?_map, List.getElem?_range h]
theorem wd_of {n : Nat} {ad : Nat → Nat} {ct : Nat → va_E} {k : Nat} {q : Nat × va_E} (h : (wd n ad ct)[k]? = some q) : k < n ∧ q = (ad k, ct k) := by
  have hk : k < n := by
    have := (List.getElem?_eq_some_iff.mp h).1
    rwa [wd_len] at this
  rw [wd_get hk] at h
  exact ⟨hk, (Option.some.inj h).symm⟩
theorem wd_set {n : Nat} {ad : Nat → Nat} {ct : Nat → va_E} {k : Nat} {e : va_E} : (wd n ad ct).set k (ad k, e) = wd n ad (va_up ct k e) := by
  apply List.ext_getElem?
  intro j
  by_cases hj : j < n
  · rw [wd_get hj]
    by_cases hk : k = j
    · subst hk
      rw [List.getElem?_set_self (by rw [wd_len]; exact hj), va_up_self]
    · rw [List.getElem?_set_ne hk, wd_get hj, va_up_ne _ _ (fun h => hk h.symm)]
  · rw [List.getElem?_eq_none (by rw [List.length_set, wd_len]; omega), List.getElem?_eq_none (by rw [wd_len]; omega)]
def qA (n : Nat) (ad : Nat → Nat) (sz : Nat) : Nat → Prop := fun q => (∃ k, k < n ∧ ad k = q) ∨ sz ≤ q
def qI (n : Nat) (ad : Nat → Nat) : Prop := ∀ i j, i < n → j < n → ad i = ad j → i = j
theorem qA_new {n : Nat} {ad : Nat → Nat} {sz q : Nat} (h : sz ≤ q) : qA n ad sz q := Or.inr h
theorem qA_sub {n : Nat} {ad : Nat → Nat} {sz sz2 : Nat} (h : sz ≤ sz2) {q : Nat} (hq : qA n ad sz2 q) : qA n ad sz q := by
  rcases hq with hq | hq
  · exact Or.inl hq
  · exact Or.inr (Nat.le_trans h hq)
theorem wd_D {n : Nat} {ad : Nat → Nat} {ct : Nat → va_E} {A : Nat → Prop} (hq : qI n ad) (hA : ∀ k, k < n → A (ad k)) : va_D A (wd n ad ct) := by
  refine ⟨fun i j p q hi hj h => ?_, fun k q hk => ?_⟩
  · obtain ⟨h1, rfl⟩ := wd_of hi
    obtain ⟨h2, rfl⟩ := wd_of hj
    exact hq i j h1 h2 h
  · obtain ⟨h1, rfl⟩ := wd_of hk
    exact hA k h1
theorem wd_DA {n : Nat} {ad : Nat → Nat} {ct : Nat → va_E} {sz : Nat} (hq : qI n ad) : va_D (qA n ad sz) (wd n ad ct) := wd_D hq (fun k hk => Or.inl ⟨k, hk, rfl⟩)
def Fr (lo hi : Nat) (c0 ct : Nat → va_E) : Prop := ∀ k, ¬ (lo ≤ k ∧ k < hi) → ct k = c0 k
theorem Fr.rf {lo hi : Nat} {c0 : Nat → va_E} : Fr lo hi c0 c0 := fun _ _ => rfl
theorem Fr.trans {lo hi : Nat} {c0 c1 c2 : Nat → va_E} (h1 : Fr lo hi c0 c1) (h2 : Fr lo hi c1 c2) : Fr lo hi c0 c2 := fun k hk => (h2 k hk).trans (h1 k hk)
theorem Fr.wider {lo hi lo2 hi2 : Nat} {c0 c1 : Nat → va_E} (h : Fr lo hi c0 c1) (h1 : lo2 ≤ lo) (h2 : hi ≤ hi2) : Fr lo2 hi2 c0 c1 := fun k hk => h k (fun q => hk ⟨Nat.le_trans h1 q.1, Nat.lt_of_lt_of_le q.2 h2⟩)
theorem Fr.up {lo hi : Nat} {c0 ct : Nat → va_E} (h : Fr lo hi c0 ct) {k : Nat} {e : va_E} (hk : lo ≤ k ∧ k < hi) : Fr lo hi c0 (va_up ct k e) := fun j hj => by
  rw [va_up_ne _ _ (fun q => hj (by rw [q]; exact hk))]
  exact h j hj
/-- the state 'a' in the heap H; since H0 nothing outside the world changed, since c0 nothing outside [lo, hi) -/
def GW (z : QZ) {α : Type} (At : α → (Nat → va_E) → Prop) (lo hi : Nat) (H0 : Heap) (c0 : Nat → va_E) (a : α) (H : Heap) (locs : List Loc) : Prop :=
  ∃ ct, va_P (zG z) vwCl (wd (zn z) (za z) ct) H ∧ va_S (qA (zn z) (za z) H0.size) H0 H locs ∧ At a ct ∧ Fr lo hi c0 ct ∧ hi ≤ zn z ∧ qI (zn z) (za z)
def Cx (p : Program) (s : State) (m : MethodId) (args : Array Value) (meth : Method) (c : Code) (cc : ByteArray) (nL : Nat) (ret : Option FieldType) (own : String) (ws : List Cond) : Prop :=
  p.tables.exec = Jvm.exec ∧ c.code = cc ∧ meth.sig.returnType = ret ∧ c.maxLocals = nL ∧ s.vm.findClass own = some m.cls ∧ (∀ w ∈ ws, w.before args s = true) ∧ meth.locks = false
/-- what a method is given: the heap's size, the world, the classes -/
def QPre (z : QZ) (ct : Nat → va_E) (sz : Nat) : State → Prop := fun U => U.heap.size = sz ∧ va_P (zG z) vwCl (wd (zn z) (za z) ct) U.heap ∧ QK z U
/-- what it leaves -/
def QJ (z : QZ) {α : Type} (At : α → (Nat → va_E) → Prop) (lo hi : Nat) (c0 : Nat → va_E) : α → State → Prop := fun u t => ∃ ct, va_P (zG z) vwCl (wd (zn z) (za z) ct) t.heap ∧ QK z t ∧ At u ct ∧ Fr lo hi c0 ct
def GI (l : Launch) (y : MethodName) (ws : List Cond) (rm : Room) (z : QZ) (av : List Value) (mc ms : Nat) {α : Type} (At : α → (Nat → va_E) → Prop) (lo hi : Nat) (a : α) (post : Int32 → α → Prop) : Prop :=
  ∀ ct sz, hi ≤ zn z → qI (zn z) (za z) → At a ct → Met l y ws rm (va_Pc av (QPre z ct sz)) (va_Qi post (QJ z At lo hi ct) (qA (zn z) (za z) sz)) mc ms (qA (zn z) (za z) sz)
def GV (l : Launch) (y : MethodName) (ws : List Cond) (rm : Room) (z : QZ) (av : List Value) (mc ms : Nat) {α : Type} (At : α → (Nat → va_E) → Prop) (lo hi : Nat) (a : α) (post : α → Prop) : Prop :=
  ∀ ct sz, hi ≤ zn z → qI (zn z) (za z) → At a ct → Met l y ws rm (va_Pc av (QPre z ct sz)) (va_Qv post (QJ z At lo hi ct) (qA (zn z) (za z) sz)) mc ms (qA (zn z) (za z) sz)
def GL (l : Launch) (y : MethodName) (ws : List Cond) (rm : Room) (z : QZ) (av : List Value) (mc ms : Nat) {α : Type} (At : α → (Nat → va_E) → Prop) (lo hi : Nat) (a : α) (post : Int64 → α → Prop) : Prop :=
  ∀ ct sz, hi ≤ zn z → qI (zn z) (za z) → At a ct → Met l y ws rm (va_Pc av (QPre z ct sz)) (va_Ql post (QJ z At lo hi ct) (qA (zn z) (za z) sz)) mc ms (qA (zn z) (za z) sz)
def GD (l : Launch) (y : MethodName) (ws : List Cond) (rm : Room) (z : QZ) (av : List Value) (mc ms : Nat) {α : Type} (At : α → (Nat → va_E) → Prop) (lo hi : Nat) (a : α) (post : UInt64 → α → Prop) : Prop :=
  ∀ ct sz, hi ≤ zn z → qI (zn z) (za z) → At a ct → Met l y ws rm (va_Pc av (QPre z ct sz)) (va_Qd post (QJ z At lo hi ct) (qA (zn z) (za z) sz)) mc ms (qA (zn z) (za z) sz)
/-- the entry of a plain method -/
theorem q_entry {l : Launch} {y : MethodName} {ws ws' : List Cond} {rm : Room} {z : QZ} {av : List Value} {mc ms : Nat} {ct : Nat → va_E} {sz : Nat} {Qc : Array Value → State → Outcome → State → Prop} {free : Addr → Prop} {cc : ByteArray} {maxL : Nat} {ret : Option FieldType} {α : Type} {At : α → (Nat → va_E) → Prop} {lo hi : Nat} {a : α}
    (hy : plainName y.cls = true) (hw : ws = Cond.code y cc maxL ret :: ws') (hlen : (lg_sl av).length ≤ maxL) (hn : hi ≤ zn z) (hq : qI (zn z) (za z)) (hat : At a ct)
    (body : ∀ p e s m below meth c ls, Cx p s m av.toArray meth c cc maxL ret y.cls ws → QK z s → sz = s.heap.size → GW z At lo hi s.heap ct a s.heap [] → lv_has ls maxL (lv_args 0 av) →
      W p l e rm s m av.toArray below meth c s.heap [] 0 0 (MQ below Qc av.toArray s mc ms free) (F0 m 0 ls [])) : Met l y ws rm (va_Pc av (QPre z ct sz)) Qc mc ms free := by
  refine Met.ofW (cc := cc) (maxL := maxL) (ret := ret) hy hw ?_
  intro p e s m args below meth c s₁ B hml hv
  obtain ⟨rfl, hsz, hP, hK⟩ := hv
  have hl := lv_entry av (n := maxL) hlen
  rw [lg_entry_eq]
  exact body p e s m below meth c _ ⟨B.exec, B.bytes, B.returns, hml, findClass_of_methodNamed B.named, atoms_spec (ws := ws) B.pre, B.notSynchronized⟩ hK hsz.symm ⟨ct, hP, va_S.rf, hat, Fr.rf, hn, hq⟩ hl
section QR
variable {p : Program} {l : Launch} {e : Env} {R : Room} {s : State} {m : MethodId} {args : Array Value} {below : List Frame} {meth : Method} {c : Code} {H : Heap} {locs : List Loc} {cells slots : Nat} {Q : State → Prop}
variable {cc : ByteArray} {nL : Nat} {ret : Option FieldType} {own : String} {ws : List Cond} {pc : Nat} {ls : Array Slot} {rest : List Value} {z : QZ} {α : Type} {At : α → (Nat → va_E) → Prop} {lo hi : Nat} {c0 : Nat → va_E} {a : α}
theorem G_iald (C0 : Cx p s m args meth c cc nL ret own ws) (hK : QK z s) (h : GW z At lo hi s.heap c0 a H locs) {k len : Nat} {f : Nat → Int32} (hk : k < hi) (hc : ∀ ct, At a ct → ct k = .inl (zI z, len, .inl f)) {i : Int32} {j : Nat} (hij : i = nI j) (hj : j < len) (hlen : len < 2147483648) (hdg : decode cc pc = .ok (.iaload, 1))
    (kk : W p l e R s m args below meth c H locs cells slots Q (F0 m (pc + 1) ls (.int (f j) :: rest))) : W p l e R s m args below meth c H locs cells slots Q (F0 m pc ls (.int i :: .ref (za z k) :: rest)) := by
  obtain ⟨ct, hP, hS, hA, hF, hn, hq⟩ := h
  subst hij
  have e1 : (nI j).toNatClampNeg = j := nI_clamp (by omega)
  refine va_iald C0.1 C0.2.1 hK.1 hP k 0 ((wd_get (Nat.lt_of_lt_of_le hk hn)).trans (by rw [hc ct hA])) rfl (vp_in_nI hj (by omega)) hdg ?_
  rw [e1]; exact kk
theorem G_iast (C0 : Cx p s m args meth c cc nL ret own ws) (hK : QK z s) (h : GW z At lo hi s.heap c0 a H locs) {k len : Nat} {f : Nat → Int32} (hk : lo ≤ k ∧ k < hi) (hc : ∀ ct, At a ct → ct k = .inl (zI z, len, .inl f)) {i x : Int32} {j : Nat} (hij : i = nI j) (hj : j < len) (hlen : len < 2147483648) {a' : α} (hu : ∀ ct, At a ct → At a' (va_up ct k (.inl (zI z, len, .inl (upd f j x))))) (hdg : decode cc pc = .ok (.iastore, 1))
    (kk : ∀ (H1 : Heap) (locs1 : List Loc), GW z At lo hi s.heap c0 a' H1 locs1 → W p l e R s m args below meth c H1 locs1 cells slots Q (F0 m (pc + 1) ls rest)) : W p l e R s m args below meth c H locs cells slots Q (F0 m pc ls (.int x :: .int i :: .ref (za z k) :: rest)) := by
  obtain ⟨ct, hP, hS, hA, hF, hn, hq⟩ := h
  subst hij
  have e1 : (nI j).toNatClampNeg = j := nI_clamp (by omega)
  refine va_iast C0.1 C0.2.1 hK.1 hP (wd_DA hq) hS k 0 ((wd_get (Nat.lt_of_lt_of_le hk.2 hn)).trans (by rw [hc ct hA])) rfl (vp_in_nI hj (by omega)) hdg (fun H1 locs1 hP1 hD1 hS1 => kk H1 locs1 ⟨_, ?_, hS1, hu ct hA, hF.up hk, hn, hq⟩)
  rw [e1, wd_set] at hP1; exact hP1
theorem G_aald (C0 : Cx p s m args meth c cc nL ret own ws) (hK : QK z s) (h : GW z At lo hi s.heap c0 a H locs) {k len r : Nat} {f : Nat → Option Nat} (hk : k < hi) (hc : ∀ ct, At a ct → ct k = .inl (zR z, len, .inr (.inr (.inr (.inr f))))) {i : Int32} {j : Nat} (hij : i = nI j) (hj : j < len) (hlen : len < 2147483648) (hr : f j = some r) (hdg : decode cc pc = .ok (.aaload, 1))
    (kk : W p l e R s m args below meth c H locs cells slots Q (F0 m (pc + 1) ls (.ref r :: rest))) : W p l e R s m args below meth c H locs cells slots Q (F0 m pc ls (.int i :: .ref (za z k) :: rest)) := by
  obtain ⟨ct, hP, hS, hA, hF, hn, hq⟩ := h
  subst hij
  have e1 : (nI j).toNatClampNeg = j := nI_clamp (by omega)
  have hv : vp_in (nI j) len := vp_in_nI hj (by omega)
  have hp := hP k _ ((wd_get (Nat.lt_of_lt_of_le hk hn)).trans (by rw [hc ct hA]))
  have hlt : (nI j).toNatClampNeg < len := by rw [e1]; exact hj
  refine W.aald (v := .ref r) (ty := .array .int) C0.1 C0.2.1 hp ((hK.1.2 1 _ rfl).1 len (fun j => va_rf (f j))) rfl (fun q => by cases q) (by show ¬ (nI j < 0 ∨ (arrV _ _ _).slots.size ≤ _); rw [arrV_size]; exact hv) (by show (arrV _ _ _).slots[_]? = _; rw [arrV_read _ _ hlt, e1, hr]; rfl) rfl rfl hdg kk
theorem G_alen (C0 : Cx p s m args meth c cc nL ret own ws) (hK : QK z s) (h : GW z At lo hi s.heap c0 a H locs) {k : Nat} {x : vp_A} (hk : k < hi) (hc : ∀ ct, At a ct → ct k = .inl (zI z, x)) (hdg : decode cc pc = .ok (.arraylength, 1))
    (kk : W p l e R s m args below meth c H locs cells slots Q (F0 m (pc + 1) ls (.int (nI x.1) :: rest))) : W p l e R s m args below meth c H locs cells slots Q (F0 m pc ls (.ref (za z k) :: rest)) := by
  obtain ⟨ct, hP, hS, hA, hF, hn, hq⟩ := h
  exact va_alen C0.1 C0.2.1 hK.1 hP k 0 ((wd_get (Nat.lt_of_lt_of_le hk hn)).trans (by rw [hc ct hA])) rfl rfl hdg kk
theorem G_get (C0 : Cx p s m args meth c cc nL ret own ws) (hK : QK z s) (h : GW z At lo hi s.heap c0 a H locs) {C : String} {T : u_T} {N : Nat} (hin : ∀ w ∈ u_ws C T N, w ∈ ws) (ci : Nat) (hcl : vwCl[ci]? = some (C, T, N)) {k : Nat} {fs : List Value} (hk : k < hi) (hc : ∀ ct, At a ct → ct k = .inr (ci, fs)) (j : Nat) (hj : j < N) {index : Nat} (hlink : Cond.fieldLink own index (T j).1 (T j).2.1 (T j).2.2.1 ∈ ws) {v : Value} (hv : fs[j]? = some v) (hdg : decode cc pc = .ok (.getfield index, 3))
    (kk : W p l e R s m args below meth c H locs cells slots Q (F0 m (pc + 3) ls (v :: rest))) : W p l e R s m args below meth c H locs cells slots Q (F0 m pc ls (.ref (za z k) :: rest)) := by
  obtain ⟨ct, hP, hS, hA, hF, hn, hq⟩ := h
  exact va_get C0.1 C0.2.1 C0.2.2.2.2.2.1 hin C0.2.2.2.2.1 hK.1 hP k ((wd_get (Nat.lt_of_lt_of_le hk hn)).trans (by rw [hc ct hA])) hcl j hj (C0.2.2.2.2.2.1 _ hlink) (fun _ h9 => h9) hv hdg kk
theorem G_put (C0 : Cx p s m args meth c cc nL ret own ws) (hK : QK z s) (h : GW z At lo hi s.heap c0 a H locs) {C : String} {T : u_T} {N : Nat} (hin : ∀ w ∈ u_ws C T N, w ∈ ws) (ci : Nat) (hcl : vwCl[ci]? = some (C, T, N)) (ty0 : Nat → FieldType) (hty : ∀ k, k < N → parseFieldDescriptor (T k).2.2.1 = some (ty0 k)) (hnm : ∀ a, a < N → ∀ b, b < N → a ≠ b → (T a).2.1 ≠ (T b).2.1) {k : Nat} {fs : List Value} (hk : lo ≤ k ∧ k < hi) (hc : ∀ ct, At a ct → ct k = .inr (ci, fs)) (j : Nat) (hj : j < N) {index : Nat} (hlink : Cond.fieldLink own index (T j).1 (T j).2.1 (T j).2.2.1 ∈ ws) (hfin : (T j).2.2.2 = false) {x : Int32} (hd : parseFieldDescriptor (T j).2.2.1 = some .int) (hl : j < fs.length) {a' : α} (hu : ∀ ct, At a ct → At a' (va_up ct k (.inr (ci, fs.set j (.int x))))) (hdg : decode cc pc = .ok (.putfield index, 3))
    (kk : ∀ (H1 : Heap) (locs1 : List Loc), GW z At lo hi s.heap c0 a' H1 locs1 → W p l e R s m args below meth c H1 locs1 cells slots Q (F0 m (pc + 3) ls rest)) : W p l e R s m args below meth c H locs cells slots Q (F0 m pc ls (.int x :: .ref (za z k) :: rest)) := by
  obtain ⟨ct, hP, hS, hA, hF, hn, hq⟩ := h
  refine va_put C0.1 C0.2.1 C0.2.2.2.2.2.1 hin ty0 hty hnm C0.2.2.2.2.1 hK.1 hP (wd_DA hq) hS k ((wd_get (Nat.lt_of_lt_of_le hk.2 hn)).trans (by rw [hc ct hA])) hcl j hj (C0.2.2.2.2.2.1 _ hlink) (fun _ h9 => h9) hfin hd rfl rfl hl hdg (fun H1 locs1 hP1 hD1 hS1 => kk H1 locs1 ⟨_, ?_, hS1, hu ct hA, hF.up hk, hn, hq⟩)
  rw [wd_set] at hP1; exact hP1
/-- ends -/
theorem G_iret (C0 : Cx p s m args meth c cc nL (some .int) own ws) (hK : QK z s) (h : GW z At lo hi s.heap c0 a H locs) {r : Int32} {post : Int32 → α → Prop} {mc ms : Nat} (hp : post r a) (h1 : cells ≤ mc) (h2 : slots ≤ ms) (hdg : decode cc pc = .ok (.ireturn, 1)) :
    W p l e R s m args below meth c H locs cells slots (MQ below (va_Qi post (QJ z At lo hi c0) (qA (zn z) (za z) s.heap.size)) args s mc ms (qA (zn z) (za z) s.heap.size)) (F0 m pc ls [.int r]) := by
  obtain ⟨ct, hP, hS, hA, hF, hn, hq⟩ := h
  refine W.widen (k := mc) (n := ms) h1 h2 ?_
  exact W.iret C0.1 C0.2.1 C0.2.2.1 (fun t ht hW => ⟨⟨r, a, rfl, hp, ct, by rw [ht]; exact hP, QK.warm hW hK, hA, hF⟩, hS.F ht⟩) hS.2.2 hdg C0.2.2.2.2.2.2
theorem G_zret (C0 : Cx p s m args meth c cc nL (some .boolean) own ws) (hK : QK z s) (h : GW z At lo hi s.heap c0 a H locs) {r : Int32} {post : Int32 → α → Prop} {mc ms : Nat} (hp : post r a) (hb : r = 0 ∨ r = 1) (h1 : cells ≤ mc) (h2 : slots ≤ ms) (hdg : decode cc pc = .ok (.ireturn, 1)) :
    W p l e R s m args below meth c H locs cells slots (MQ below (va_Qi post (QJ z At lo hi c0) (qA (zn z) (za z) s.heap.size)) args s mc ms (qA (zn z) (za z) s.heap.size)) (F0 m pc ls [.int r]) := by
  obtain ⟨ct, hP, hS, hA, hF, hn, hq⟩ := h
  refine W.widen (k := mc) (n := ms) h1 h2 ?_
  exact W.zret C0.1 C0.2.1 C0.2.2.1 (by rcases hb with rfl | rfl <;> rfl) (fun t ht hW => ⟨⟨r, a, rfl, hp, ct, by rw [ht]; exact hP, QK.warm hW hK, hA, hF⟩, hS.F ht⟩) hS.2.2 hdg C0.2.2.2.2.2.2
theorem G_lret (C0 : Cx p s m args meth c cc nL (some .long) own ws) (hK : QK z s) (h : GW z At lo hi s.heap c0 a H locs) {r : Int64} {post : Int64 → α → Prop} {mc ms : Nat} (hp : post r a) (h1 : cells ≤ mc) (h2 : slots ≤ ms) (hdg : decode cc pc = .ok (.lreturn, 1)) :
    W p l e R s m args below meth c H locs cells slots (MQ below (va_Ql post (QJ z At lo hi c0) (qA (zn z) (za z) s.heap.size)) args s mc ms (qA (zn z) (za z) s.heap.size)) (F0 m pc ls [.long r]) := by
  obtain ⟨ct, hP, hS, hA, hF, hn, hq⟩ := h
  refine W.widen (k := mc) (n := ms) h1 h2 ?_
  exact W.lret C0.1 C0.2.1 C0.2.2.1 (fun t ht hW => ⟨⟨r, a, rfl, hp, ct, by rw [ht]; exact hP, QK.warm hW hK, hA, hF⟩, hS.F ht⟩) hS.2.2 hdg C0.2.2.2.2.2.2
theorem G_dret (C0 : Cx p s m args meth c cc nL (some .double) own ws) (hK : QK z s) (h : GW z At lo hi s.heap c0 a H locs) {r : UInt64} {post : UInt64 → α → Prop} {mc ms : Nat} (hp : post r a) (h1 : cells ≤ mc) (h2 : slots ≤ ms) (hdg : decode cc pc = .ok (.dreturn, 1)) :
    W p l e R s m args below meth c H locs cells slots (MQ below (va_Qd post (QJ z At lo hi c0) (qA (zn z) (za z) s.heap.size)) args s mc ms (qA (zn z) (za z) s.heap.size)) (F0 m pc ls [.double r]) := by
  obtain ⟨ct, hP, hS, hA, hF, hn, hq⟩ := h
  refine W.widen (k := mc) (n := ms) h1 h2 ?_
  exact W.dret C0.1 C0.2.1 C0.2.2.1 (fun t ht hW => ⟨⟨r, a, rfl, hp, ct, by rw [ht]; exact hP, QK.warm hW hK, hA, hF⟩, hS.F ht⟩) hS.2.2 hdg C0.2.2.2.2.2.2
theorem G_vret (C0 : Cx p s m args meth c cc nL none own ws) (hK : QK z s) (h : GW z At lo hi s.heap c0 a H locs) {post : α → Prop} {mc ms : Nat} (hp : post a) (h1 : cells ≤ mc) (h2 : slots ≤ ms) (hdg : decode cc pc = .ok (.return_, 1)) :
    W p l e R s m args below meth c H locs cells slots (MQ below (va_Qv post (QJ z At lo hi c0) (qA (zn z) (za z) s.heap.size)) args s mc ms (qA (zn z) (za z) s.heap.size)) (F0 m pc ls []) := by
  obtain ⟨ct, hP, hS, hA, hF, hn, hq⟩ := h
  refine W.widen (k := mc) (n := ms) h1 h2 ?_
  exact W.vret C0.1 C0.2.1 C0.2.2.1 (fun t ht hW => ⟨⟨a, rfl, hp, ct, by rw [ht]; exact hP, QK.warm hW hK, hA, hF⟩, hS.F ht⟩) hS.2.2 hdg C0.2.2.2.2.2.2
/-- the state behind a call, and what a callee is given -/
theorem q_blind {z : QZ} {ct : Nat → va_E} {sz : Nat} {av : List Value} : FrameBlind (va_Pc av (QPre z ct sz)) := fun a U g mk q => by
  obtain ⟨q0, q1, qP, qK⟩ := q
  exact ⟨q0, q1, qP, QK.same rfl qK⟩
theorem q_given {z : QZ} {ct : Nat → va_E} {av : List Value} (hK : QK z s) (hP : va_P (zG z) vwCl (wd (zn z) (za z) ct) H) : ∀ U : State, U.heap = H → s.WarmedH U.vm → va_Pc av (QPre z ct H.size) av.toArray U :=
  fun U hU hW => ⟨rfl, by rw [hU], by rw [hU]; exact hP, QK.warm hW hK⟩
theorem q_recv {z : QZ} {ct : Nat → va_E} (hK : QK z s) (hP : va_P (zG z) vwCl (wd (zn z) (za z) ct) H) {k ci : Nat} {q : vw_C} {fs : List Value} (hk : k < zn z) (hc : ct k = .inr (ci, fs)) (hcl : vwCl[ci]? = some q) : ∃ cell : Cell, H[za z k]? = some cell ∧ cell.vm.isStatics = false ∧ s.vm.findClass q.1 = some cell.cls :=
  va_recv hK.1 hP hcl ((wd_get hk).trans (by rw [hc]))
end QR
