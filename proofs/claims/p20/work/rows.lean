section
-- ===== PART A: goes FIRST, ahead of the names: the tables' words, and 'selects' of the private methods out of them =====
/-- a private method of a class that the tables say can be made, by its rows of tables_1 -/
def lw_okq (q : MethodName × Nat) : Prop := (q.1.cls ≠ "java/lang/invoke/MethodHandle" ∧ q.1.cls ≠ "java/lang/invoke/VarHandle") ∧ Cond.instantiable q.1.cls q.2 ∈ tables_1 ∧ Cond.privateMethod q.1 ∈ tables_1 ∧ Cond.instanceMethod q.1 ∈ tables_1
theorem lw_p0 : lw_okq (⟨"AqueductTanks", "needTank", "(I)V"⟩, 2) := ⟨⟨by decide +kernel, by decide +kernel⟩, List.mem_of_getElem? (i := 15) (by decide +kernel), List.mem_of_getElem? (i := 64) (by decide +kernel), List.mem_of_getElem? (i := 65) (by decide +kernel)⟩
theorem lw_p1 : lw_okq (⟨"java/lang/Throwable", "fillInStackTrace", "(I)Ljava/lang/Throwable;"⟩, 6) := ⟨⟨by decide +kernel, by decide +kernel⟩, List.mem_of_getElem? (i := 109) (by decide +kernel), List.mem_of_getElem? (i := 107) (by decide +kernel), List.mem_of_getElem? (i := 108) (by decide +kernel)⟩
theorem lw_p2 : lw_okq (⟨"AqueductTanks", "needPipe", "(I)V"⟩, 2) := ⟨⟨by decide +kernel, by decide +kernel⟩, List.mem_of_getElem? (i := 15) (by decide +kernel), List.mem_of_getElem? (i := 146) (by decide +kernel), List.mem_of_getElem? (i := 147) (by decide +kernel)⟩
def lw_privs_1 : List (MethodName × Nat) := [(⟨"AqueductTanks", "needTank", "(I)V"⟩, 2), (⟨"java/lang/Throwable", "fillInStackTrace", "(I)Ljava/lang/Throwable;"⟩, 6), (⟨"AqueductTanks", "needPipe", "(I)V"⟩, 2)]
theorem lw_r1 : ∀ q ∈ lw_privs_1, lw_okq q := List.forall_mem_cons.mpr ⟨lw_p0, List.forall_mem_cons.mpr ⟨lw_p1, List.forall_mem_cons.mpr ⟨lw_p2, fun _ h => absurd h List.not_mem_nil⟩⟩⟩
def lw_privs : List (MethodName × Nat) := lw_privs_1
def lw_tbl : List Cond := k2_sels lw_privs ++ tables_1
theorem lw_privs_ok : ∀ q ∈ lw_privs, lw_okq q := lw_r1
/-- the streams that the claim lets the run draw from -/
abbrev lw_cs : List Choice := [Jvm.Choice.named "NaN.bits"]
theorem lw_bits : nanBits ∈ lw_cs := by first | decide | exact List.mem_cons_self | simp [lw_cs, nanBits]
-- ===== end of PART A; then your names; then what follows =====
/-! ===== BEGIN words of one list among another's, by their places ===== -/
theorem goodIn_r {big : List Cond} (ws : List Cond) (ps : List Nat) (hp : ws = ps.filterMap (fun i => big[i]?)) (h : ws.all goodWord = true) : GoodIn big ws := by
  intro w hw
  have h1 := List.all_eq_true.mp h w hw
  rw [hp] at hw
  obtain ⟨i, -, hi⟩ := List.mem_filterMap.mp hw
  have hm : w ∈ big := by first | exact List.mem_of_getElem? hi | exact List.getElem?_mem hi
  exact ⟨hm, good_of_word h1⟩
theorem goodIn_app {big a b : List Cond} (ha : GoodIn big a) (hb : GoodIn big b) : GoodIn big (a ++ b) := fun w h => (List.mem_append.mp h).elim (ha w) (hb w)
theorem goodIn_ca {big a b : List Cond} {c : Cond} (ha : GoodIn big (c :: a)) (hb : GoodIn big b) : GoodIn big (c :: (a ++ b)) := fun w h => (List.mem_cons.mp h).elim (fun e => ha w (List.mem_cons.mpr (Or.inl e))) (fun h => (List.mem_append.mp h).elim (fun h => ha w (List.mem_cons.mpr (Or.inr h))) (hb w))
theorem goodIn_sub {big ws : List Cond} (hm : ∀ w ∈ ws, w ∈ big) (h : ws.all goodWord = true) : GoodIn big ws := fun w hw => ⟨hm w hw, good_of_word (List.all_eq_true.mp h w hw)⟩
/-! ===== END ===== -/


/-! ===== BEGIN exceptions that leave a method, and their catching by the caller (launches without stack traces) ===== -/
section VXA
/-! The laws vx_back, vx_callV, vx_callS, vx_callSW, vx_throw0, vx_throwS follow proofs of the library, with one case more: JvmDerived/Free/Laws.lean (Back.of_free), Shelf42/LK1.lean (callV, callS), Shelf/KitTraced.lean (throwNew0V, throwNewS). -/
/-- where a method has thrown q: the class by its name, the cell, what was written, the world -/
def vx_T (XC : String → State → State → Prop) (st : State) (q : Addr) (t : State) (mc ms : Nat) (free : Addr → Prop) : Prop :=
  ∃ (E : String) (ce : Cell) (L : List Loc), XC E st t ∧ t.heap[q]? = some ce ∧ ce.vm = .none ∧ st.vm.findClass E = some ce.cls ∧ st.WarmedH t.vm ∧ st.sameButNew ({ t with vm := st.vm } : State) L mc ms ∧ ∀ z ∈ L, free z.base
def vx_Q (Qc : Array Value → State → Outcome → State → Prop) (XC : String → State → State → Prop) (mc ms : Nat) (free : Addr → Prop) : Array Value → State → Outcome → State → Prop := fun a st o t =>
  (Qc a st o t ∧ ∃ L, FrameEnd st o t L mc ms ∧ ∀ q ∈ L, free q.base) ∨ ∃ q, o = .threw q ∧ vx_T XC st q t mc ms free
/-- a callee that returns or throws -/
def vx_Met (l : Launch) (y : MethodName) (ws : List Cond) (rm : Room) (Pc : Array Value → State → Prop) (Qc : Array Value → State → Outcome → State → Prop) (XC : String → State → State → Prop) (mc ms : Nat) (free : Addr → Prop) : Prop :=
  MetFree l y (headSpec ws rm) Pc (fun _ _ _ _ _ => True) (vx_Q Qc XC mc ms free)
def vx_Post (XC : String → State → State → Prop) (mc ms : Nat) (free : Addr → Prop) : Pt → Array Value → Addr → Pt → Prop := fun A a q B =>
  ∃ (g : JFrame) (mk : MethodId) (t : State) (L : List Loc) (E : String) (ce : Cell), B.U.heap = t.heap ∧ B.U.vm = t.vm ∧ XC E (A.U.calling g mk a) t ∧ t.heap[q]? = some ce ∧ ce.vm = .none ∧ A.U.vm.findClass E = some ce.cls ∧ B.locs = A.locs ++ L ∧ (∀ z ∈ L, free z.base) ∧ B.cells = A.cells + mc ∧ B.slots = A.slots + ms
def vx_Back (l : Launch) (R : Room) (p : Program) (e : Env) (below : List Frame) (s : State) (sargs : Array Value) (y : MethodName) (len W9 : Nat)
    (Pre : Pt → Array Value → Prop) (Post : Pt → Array Value → Option Value → Pt → Prop) (PostX : Pt → Array Value → Addr → Pt → Prop) : Prop :=
  ∀ (m : MethodId) (meth : Method) (c : Code) (A : Pt) (g : JFrame) (ig : Instr) (mk : MethodId) (a : Array Value),
    Stand p l e R s m sargs below meth c A.U A.locs A.cells A.slots → g.method = m → g.locals.size = c.maxLocals → decode c.code g.pc = .ok (ig, len) →
    2 * g.monitorRoom + (g.stack.map fun v => v.category).sum ≤ W9 → A.U.methodNamed? y = some mk → Pre A a →
    (∃ (v : Option Value) (B : Pt), Stand p l e R s m sargs below meth c B.U B.locs B.cells B.slots ∧ Post A a v B ∧
      Steps p.tables e below (doInvoke e (A.U.setTop g) [] mk a).1 (B.U.setTop { g with pc := g.pc + len, stack := v.toList ++ g.stack })) ∨
    (∃ (q : Addr) (B : Pt), Stand p l e R s m sargs below meth c B.U B.locs B.cells B.slots ∧ PostX A a q B ∧
      Steps p.tables e below (doInvoke e (A.U.setTop g) [] mk a).1 ((B.U.setTop g).pushFrame (.throwing q)))
section Payer
variable {l : Launch} {R : Room} {p : Program} {e : Env} {below : List Frame} {s : State} {sargs : Array Value} {y : MethodName} {len W9 : Nat}
theorem vx_back {ws : List Cond} {rm : Room} {Pc : Array Value → State → Prop} {Qc : Array Value → State → Outcome → State → Prop} {XC : String → State → State → Prop} {mc ms : Nat} {free : Addr → Prop} {bytes : ByteArray} {maxL : Nat} {ret : Option FieldType}
    (hM : vx_Met l y ws rm Pc Qc XC mc ms free) (hblind : FrameBlind Pc) (hrc : rm.cells = mc) (hrs : rm.slots = ms)
    (hframes : rm.frames + 1 ≤ R.frames) (hlocals : W9 + (maxL + 11) + rm.locals ≤ R.locals)
    (hws : ∀ w ∈ ws, ∀ a' U, s.WarmedH U.vm → w.before a' U = true) (hcode : Cond.code y bytes maxL ret ∈ ws) (hinit : ∀ a' U, s.WarmedH U.vm → (Cond.initialized y.cls).before a' U = true) :
    vx_Back l R p e below s sargs y len W9 (PreOf R mc ms Pc) (PostOf Qc mc ms free) (vx_Post XC mc ms free) := by
  intro m meth c A g ig mk a X hg hsize hdg hW hn hp
  have h1 : (headSpec ws rm).pre.before a A.U = true := atoms_intro fun w hw => hws w hw _ _ X.warmed
  have h2 : (Cond.code y bytes maxL ret).before a A.U = true := hws _ hcode _ _ X.warmed
  have h3 : (Cond.initialized y.cls).before a A.U = true := hinit _ _ X.warmed
  have h4 : A.cells + (headSpec ws rm).room.cells ≤ R.cells := by rw [show (headSpec ws rm).room.cells = mc from hrc]; exact hp.1
  have h5 : A.slots + (headSpec ws rm).room.slots ≤ R.slots := by rw [show (headSpec ws rm).room.slots = ms from hrs]; exact hp.2.1
  have hPc : Pc a (A.U.calling g mk a) := hblind _ _ _ _ hp.2.2
  obtain ⟨U, Ls, c0, s0⟩ := A
  dsimp only [Pt.U, Pt.locs, Pt.cells, Pt.slots] at h1 h2 h3 h4 h5 X hn hPc ⊢
  obtain ⟨methY, cY, hmY, hcY, -, hlY, -, -, -, -⟩ := Cond.code_spec hn h2
  obtain ⟨kY, hkY, -⟩ := className_of_methodNamed hn
  have hinitY : kY.init = .initialized := Cond.initialized_spec (findClass_of_methodNamed hn) hkY h3
  have h : At U g.method c below := by rw [hg]; exact X.here
  have hlocals9 : W9 + (maxL + 11) + (headSpec ws rm).room.locals ≤ R.locals := hlocals
  have happ : (headSpec ws rm).appliesLoose y e.platform (U.calling g mk a) = true :=
    Spec.appliesLoose_calling (g := g) h hdg hn hkY hinitY
      (X.room_calling (g := g) (R' := (headSpec ws rm).room) hsize hmY hcY hframes (by rw [hlY]; omega) h4 h5) h1
  obtain ⟨mid, hmid⟩ := h.above
  have hfr : (U.setTop g).frames = (.java g :: mid) ++ below := by rw [State.frames_setTop' g h.top, hmid]; rfl
  obtain ⟨o, s₂, hsteps, -, hend, hq⟩ := Steps.callFree hM p X.admits X.cas X.clock (acts := []) hfr happ hPc trivial
  have hq' : vx_Q Qc XC mc ms free a (U.calling g mk a) o s₂ := hq
  rw [State.frames_setTop' g h.top] at hend
  obtain ⟨g₀, hg0⟩ := Option.isSome_iff_exists.mp h.top
  obtain ⟨r, hr⟩ := State.topJava?_eq_some.mp hg0
  have hr' : (({ U with heap := s₂.heap, slotsUsed := s₂.slotsUsed } : State).setVm s₂.vm).frames = .java g₀ :: r := hr
  rcases hq' with ⟨hqc, L, hfe, hL⟩ | ⟨q, rfl, E, ce, L, hx, hce, hcv, hcl, hW₂, hsm, hL⟩
  · obtain ⟨⟨v, rfl⟩, hW₂, e2, q2, q3, q4, q5, q6⟩ := id hfe
    have e3 : s₂ = ({ (U.calling g mk a).setFrames s₂.frames with heap := s₂.heap, slotsUsed := s₂.slotsUsed } : State).setVm s₂.vm := by
      have : s₂ = ({ s₂ with vm := (U.calling g mk a).vm } : State).setVm s₂.vm := rfl
      rw [e2] at this
      exact this
    obtain ⟨c₂, i₂, len₂, hc₂, hd₂, hf₂⟩ := hend
    have hW' : U.WarmedH s₂.vm := hW₂
    have hcc : c₂ = c := by
      have h1 : s₂.code? g.method = U.code? g.method := by
        rw [State.code?_eq, State.code?_eq, hW'.alike.method?]
      exact Option.some.inj (hc₂.symm.trans (h1.trans h.code))
    subst hcc
    have hlen : len₂ = len := by rw [hdg] at hd₂; cases hd₂; rfl
    subst hlen
    have hs₂ : s₂ = (({ U with heap := s₂.heap, slotsUsed := s₂.slotsUsed } : State).setVm s₂.vm).setTop { g with pc := g.pc + len₂, stack := v.toList ++ g.stack } := by
      refine e3.trans ?_
      rw [hf₂, State.calling_eq h.top, State.setFrames_setFrames, State.setTop_of_frames _ hr', hr]
      rfl
    have hsame : U.sameButNew ({ U with heap := s₂.heap, slotsUsed := s₂.slotsUsed } : State) L mc ms := by
      refine ⟨?_, q2, q3, q4, q5, q6⟩
      obtain ⟨t, ht, -⟩ := State.frames_cons hr
      show ({ U with heap := s₂.heap, slotsUsed := s₂.slotsUsed } : State) = { U.setFrames U.frames with heap := s₂.heap, slotsUsed := s₂.slotsUsed }
      rw [State.setFrames_self ht]
    subst hg
    refine Or.inl ⟨v, ⟨(({ U with heap := s₂.heap, slotsUsed := s₂.slotsUsed } : State).setVm s₂.vm), Ls ++ L, c0 + mc, s0 + ms⟩,
      ⟨X.admits, X.cas, X.clock, X.frames, X.room, X.hears, X.method, X.code, (X.here.setHeapUsed s₂.heap s₂.slotsUsed).setVm hW'.alike, X.tail, State.WarmedH.trans X.warmed hW', X.limits, X.bytes, X.same.trans (hsame.setVm s.vm)⟩,
      ⟨g, mk, s₂, L, rfl, rfl, hqc, rfl, hL, rfl, rfl⟩, ?_⟩
    show Steps p.tables e below _ ((({ U with heap := s₂.heap, slotsUsed := s₂.slotsUsed } : State).setVm s₂.vm).setTop { g with pc := g.pc + len₂, stack := v.toList ++ g.stack })
    rw [← hs₂]
    exact hsteps
  · obtain ⟨e2, q2, q3, q4, q5, q6⟩ := id hsm
    have e3 : s₂ = ({ (U.calling g mk a).setFrames s₂.frames with heap := s₂.heap, slotsUsed := s₂.slotsUsed } : State).setVm s₂.vm := by
      have : s₂ = ({ s₂ with vm := (U.calling g mk a).vm } : State).setVm s₂.vm := rfl
      rw [e2] at this
      exact this
    have hf₂ : s₂.frames = .throwing q :: .java g :: U.frames.tail := hend
    have hW' : U.WarmedH s₂.vm := hW₂
    have hs₂ : s₂ = ((({ U with heap := s₂.heap, slotsUsed := s₂.slotsUsed } : State).setVm s₂.vm).setTop g).pushFrame (.throwing q) := by
      refine e3.trans ?_
      rw [hf₂, State.calling_eq h.top, State.setFrames_setFrames, State.pushFrame, State.frames_setTop _ hr', State.setTop_of_frames _ hr', State.setFrames_setFrames, hr]
      rfl
    have hsame : U.sameButNew ({ U with heap := s₂.heap, slotsUsed := s₂.slotsUsed } : State) L mc ms := by
      refine ⟨?_, q2, q3, q4, q5, q6⟩
      obtain ⟨t, ht, -⟩ := State.frames_cons hr
      show ({ U with heap := s₂.heap, slotsUsed := s₂.slotsUsed } : State) = { U.setFrames U.frames with heap := s₂.heap, slotsUsed := s₂.slotsUsed }
      rw [State.setFrames_self ht]
    subst hg
    refine Or.inr ⟨q, ⟨(({ U with heap := s₂.heap, slotsUsed := s₂.slotsUsed } : State).setVm s₂.vm), Ls ++ L, c0 + mc, s0 + ms⟩,
      ⟨X.admits, X.cas, X.clock, X.frames, X.room, X.hears, X.method, X.code, (X.here.setHeapUsed s₂.heap s₂.slotsUsed).setVm hW'.alike, X.tail, State.WarmedH.trans X.warmed hW', X.limits, X.bytes, X.same.trans (hsame.setVm s.vm)⟩,
      ⟨g, mk, s₂, L, E, ce, rfl, rfl, hx, hce, hcv, hcl, rfl, hL, rfl, rfl⟩, ?_⟩
    show Steps p.tables e below _ (((({ U with heap := s₂.heap, slotsUsed := s₂.slotsUsed } : State).setVm s₂.vm).setTop g).pushFrame (.throwing q))
    rw [← hs₂]
    exact hsteps
end Payer
section Calls
variable {p : Program} {l : Launch} {e : Env} {R : Room} {s : State} {m : MethodId} {args : Array Value} {below : List Frame} {meth : Method} {c : Code} {T : State} {locs : List Loc} {cells slots : Nat}
theorem vx_callV (X : Stand p l e R s m args below meth c T locs cells slots) (hexec : p.tables.exec = Jvm.exec) {own C : String} {index : Nat} {y : MethodName} {bytes : ByteArray} {maxL : Nat} {ret : Option FieldType}
    (hown : s.vm.findClass own = some m.cls) (hlink : (Cond.methodLink own index y).before args s = true) (hinst : (Cond.instanceMethod y).before args s = true) (hsel : (Cond.selects C y y).before args s = true)
    (hcode : (Cond.code y bytes maxL ret).before args s = true) (hy : y.cls ≠ "java/lang/invoke/MethodHandle" ∧ y.cls ≠ "java/lang/invoke/VarHandle")
    {W9 : Nat} {Pre : Pt → Array Value → Prop} {Post : Pt → Array Value → Option Value → Pt → Prop} {PostX : Pt → Array Value → Addr → Pt → Prop} (hK : vx_Back l R p e below s args y 3 W9 Pre Post PostX)
    {b : Addr} {cellB : Cell} (hcell : T.heap[b]? = some cellB) (hobj : cellB.vm.isStatics = false) (hcls : s.vm.findClass C = some cellB.cls)
    {g : JFrame} (hg : g.method = m) (hsize : g.locals.size = c.maxLocals) {argsL rest : List Value} (hlen : ∀ sig, parseMethodDescriptor y.desc = some sig → argsL.length = sig.parameters.length)
    (hstack : g.stack = argsL.reverse ++ .ref b :: rest) (hW : 2 * g.monitorRoom + (rest.map fun v => v.category).sum ≤ W9) (hdg : decode c.code g.pc = .ok (.invokevirtual index, 3))
    (hpre : ∀ vm₁, s.WarmedH vm₁ → Pre ⟨T.setVm vm₁, locs, cells, slots⟩ (Value.ref b :: argsL).toArray) :
    (∃ (v : Option Value) (vm₁ : Vm) (B : Pt), s.WarmedH vm₁ ∧ Stand p l e R s m args below meth c B.U B.locs B.cells B.slots ∧ Post ⟨T.setVm vm₁, locs, cells, slots⟩ (Value.ref b :: argsL).toArray v B ∧
      ∀ target, Steps p.tables e below (B.U.setTop { g with pc := g.pc + 3, stack := v.toList ++ rest }) target → Steps p.tables e below (T.setTop g) target) ∨
    (∃ (q : Addr) (vm₁ : Vm) (B : Pt), s.WarmedH vm₁ ∧ Stand p l e R s m args below meth c B.U B.locs B.cells B.slots ∧ PostX ⟨T.setVm vm₁, locs, cells, slots⟩ (Value.ref b :: argsL).toArray q B ∧
      Steps p.tables e below (T.setTop g) ((B.U.setTop { g with stack := rest }).pushFrame (.throwing q))) := by
  obtain ⟨mk, methM, hnamed, hmethM, hstM, habM⟩ := Cond.instanceMethod_spec hinst
  obtain ⟨methM', cM, hmethM', -, -, -, -, -, -, hsigM⟩ := Cond.code_spec hnamed hcode
  cases hmethM.symm.trans hmethM'
  obtain ⟨c2, r2, m2, q1, q2, q3, q4, kP, hkP, hkPi⟩ := Cond.selects_spec hsel
  cases hcls.symm.trans q1
  cases (State.methodFound?_of_named hnamed hy).symm.trans q2
  cases hnamed.symm.trans q3
  have hselP : selectMethod e.platform s.vm cellB.cls mk = .method mk := by rw [Launch.admits_selectMethod X.admits]; exact q4
  obtain ⟨vm₁, X₁, hstep₁⟩ := X.invokevirtual hexec hown hlink hnamed hmethM hstM hkP hkPi hy (a := b) (cell := cellB) hcell
    (fun z h => by rw [h] at hobj; cases hobj) hselP hmethM habM hkP hkPi (g := g) hg (argsL := argsL) (rest := rest) (hlen _ hsigM) hstack hdg
  rcases hK m meth c ⟨T.setVm vm₁, locs, cells, slots⟩ { g with stack := rest } (.invokevirtual index) mk (Value.ref b :: argsL).toArray X₁ hg hsize hdg hW (X₁.named hnamed) (hpre vm₁ X₁.warmed) with ⟨v, B, X', hpost, hsteps⟩ | ⟨q, B, X', hpost, hsteps⟩
  · exact Or.inl ⟨v, vm₁, B, X₁.warmed, X', hpost, fun target h => hstep₁ _ fun acts => by rw [doInvoke_state]; exact hsteps.trans h⟩
  · exact Or.inr ⟨q, vm₁, B, X₁.warmed, X', hpost, hstep₁ _ fun acts => by rw [doInvoke_state]; exact hsteps⟩
theorem vx_callS (X : Stand p l e R s m args below meth c T locs cells slots) (hexec : p.tables.exec = Jvm.exec) {own : String} {index : Nat} {y : MethodName} {bytes : ByteArray} {maxL : Nat} {ret : Option FieldType}
    (hown : s.vm.findClass own = some m.cls) (hlink : (Cond.methodLink own index y).before args s = true) (hstat : (Cond.static y).before args s = true) (hinit : (Cond.initialized y.cls).before args s = true)
    (hcode : (Cond.code y bytes maxL ret).before args s = true) (hy : y.cls ≠ "java/lang/invoke/MethodHandle" ∧ y.cls ≠ "java/lang/invoke/VarHandle")
    {W9 : Nat} {Pre : Pt → Array Value → Prop} {Post : Pt → Array Value → Option Value → Pt → Prop} {PostX : Pt → Array Value → Addr → Pt → Prop} (hK : vx_Back l R p e below s args y 3 W9 Pre Post PostX)
    {g : JFrame} (hg : g.method = m) (hsize : g.locals.size = c.maxLocals) {argsL rest : List Value} (hlen : ∀ sig, parseMethodDescriptor y.desc = some sig → argsL.length = sig.parameters.length)
    (hstack : g.stack = argsL.reverse ++ rest) (hW : 2 * g.monitorRoom + (rest.map fun v => v.category).sum ≤ W9) (hdg : decode c.code g.pc = .ok (.invokestatic index, 3))
    (hpre : ∀ vm₁, s.WarmedH vm₁ → Pre ⟨T.setVm vm₁, locs, cells, slots⟩ argsL.toArray) :
    (∃ (v : Option Value) (vm₁ : Vm) (B : Pt), s.WarmedH vm₁ ∧ Stand p l e R s m args below meth c B.U B.locs B.cells B.slots ∧ Post ⟨T.setVm vm₁, locs, cells, slots⟩ argsL.toArray v B ∧
      ∀ target, Steps p.tables e below (B.U.setTop { g with pc := g.pc + 3, stack := v.toList ++ rest }) target → Steps p.tables e below (T.setTop g) target) ∨
    (∃ (q : Addr) (vm₁ : Vm) (B : Pt), s.WarmedH vm₁ ∧ Stand p l e R s m args below meth c B.U B.locs B.cells B.slots ∧ PostX ⟨T.setVm vm₁, locs, cells, slots⟩ argsL.toArray q B ∧
      Steps p.tables e below (T.setTop g) ((B.U.setTop { g with stack := rest }).pushFrame (.throwing q))) := by
  obtain ⟨mk, hnamed⟩ := Cond.code_named hcode
  obtain ⟨methM, cM, hmethM, -, -, -, -, -, -, hsigM⟩ := Cond.code_spec hnamed hcode
  have hstatic : methM.isStatic = true := Cond.static_spec hnamed hmethM hstat
  obtain ⟨kP, hkP, -⟩ := className_of_methodNamed hnamed
  have hinitP : kP.init = .initialized := Cond.initialized_spec (findClass_of_methodNamed hnamed) hkP hinit
  obtain ⟨vm₁, X₁, hstep₁⟩ := X.invokestatic hexec hown hlink hnamed hmethM hstatic hkP hinitP hy (g := g) hg (argsL := argsL) (rest := rest) (hlen _ hsigM) hstack hdg
  rcases hK m meth c ⟨T.setVm vm₁, locs, cells, slots⟩ { g with stack := rest } (.invokestatic index) mk argsL.toArray X₁ hg hsize hdg hW (X₁.named hnamed) (hpre vm₁ X₁.warmed) with ⟨v, B, X', hpost, hsteps⟩ | ⟨q, B, X', hpost, hsteps⟩
  · exact Or.inl ⟨v, vm₁, B, X₁.warmed, X', hpost, fun target h => hstep₁ _ fun acts => by rw [doInvoke_state]; exact hsteps.trans h⟩
  · exact Or.inr ⟨q, vm₁, B, X₁.warmed, X', hpost, hstep₁ _ fun acts => by rw [doInvoke_state]; exact hsteps⟩
end Calls
theorem vx_cls {s : State} {T : State} {vm₁ : Vm} {E : String} {k : ClassId} (hW : s.WarmedH vm₁) (h : (T.setVm vm₁).vm.findClass E = some k) : s.vm.findClass E = some k := by
  have h1 : vm₁.findClass E = some k := h
  rw [hW.alike.findClass] at h1
  exact h1
/-- the method's frame g, with q thrown over it -/
def vx_W (p : Program) (l : Launch) (e : Env) (R : Room) (s : State) (m : MethodId) (args : Array Value) (below : List Frame) (meth : Method) (c : Code) (H : Heap) (locs : List Loc) (cells slots : Nat) (Q : State → Prop) (g : JFrame) (q : Addr) : Prop :=
  ∀ T : State, T.heap = H → Stand p l e R s m args below meth c T locs cells slots → ∃ t, Steps p.tables e below ((T.setTop g).pushFrame (.throwing q)) t ∧ Q t
def vx_Run (p : Program) (l : Launch) (e : Env) (R : Room) (s : State) (m : MethodId) (args : Array Value) (below : List Frame) (meth : Method) (c : Code) (H : Heap) (locs : List Loc) (cells slots mc ms : Nat) (g : JFrame) (rest : List Value) (Qa : State → Outcome → State → Prop) (XC : String → State → State → Prop) (free : Addr → Prop) : Prop :=
  ∀ T : State, T.heap = H → Stand p l e R s m args below meth c T locs cells slots →
    (∃ (v : Option Value) (st₀ t T' : State) (L : List Loc), st₀.heap = H ∧ Stand p l e R s m args below meth c T' (locs ++ L) (cells + mc) (slots + ms) ∧ (∀ q ∈ L, free q.base) ∧ T'.heap = t.heap ∧ T'.vm = t.vm ∧ Qa st₀ (.returned v) t ∧
      Goes p e below T g T' { g with pc := g.pc + 3, stack := v.toList ++ rest }) ∨
    (∃ (q : Addr) (st₀ t T' : State) (L : List Loc) (E : String) (ce : Cell), st₀.heap = H ∧ Stand p l e R s m args below meth c T' (locs ++ L) (cells + mc) (slots + ms) ∧ (∀ z ∈ L, free z.base) ∧ T'.heap = t.heap ∧ T'.vm = t.vm ∧ XC E st₀ t ∧ t.heap[q]? = some ce ∧ ce.vm = .none ∧ s.vm.findClass E = some ce.cls ∧
      Steps p.tables e below (T.setTop g) ((T'.setTop { g with stack := rest }).pushFrame (.throwing q)))
def vx_X {S : Type} (px : S → Prop) (B : String → S → State → Prop) (A : Nat → Prop) : String → State → State → Prop := fun E st t => ∃ u : S, px u ∧ B E u t ∧ va_F A st t
section Runs
variable {p : Program} {l : Launch} {e : Env} {R : Room} {s : State} {m : MethodId} {args : Array Value} {below : List Frame} {meth : Method} {c : Code} {H : Heap} {locs : List Loc} {cells slots : Nat}
variable {y : MethodName} {bytes cc : ByteArray} {maxL nL mc ms n index : Nat} {ret : Option FieldType} {ws : List Cond} {rm : Room} {Pc : Array Value → State → Prop} {Qc : Array Value → State → Outcome → State → Prop} {XC : String → State → State → Prop} {free : Addr → Prop} {Ts : List Cond} {own C : String} {b : Addr} {As rest : List Value} {g : JFrame}
theorem vx_callBack (cb : CallB R s args own index y bytes maxL ret ws rm mc ms n) (hM : vx_Met l y ws rm Pc Qc XC mc ms free) (hbl : FrameBlind Pc) : vx_Back l R p e below s args y 3 8 (PreOf R mc ms Pc) (PostOf Qc mc ms free) (vx_Post XC mc ms free) := by
  obtain ⟨hrc, hrs, hfr, hlo, hws, hcw, -, hini, -⟩ := cb
  exact vx_back (bytes := bytes) (maxL := maxL) (ret := ret) hM hbl hrc hrs hfr hlo hws hcw (fun a' U hW => word_at hW (Or.inl (by first | rfl | simp [Cond.onTables, Cond.keeps, Cond.steady])) hini)
theorem vx_runV (S : CallFix p m c cc nL s args Ts own) (hM : vx_Met l y ws rm Pc Qc XC mc ms free) (cw : CallW R s args own C index y bytes maxL ret ws rm mc ms n) (hp : PreV s H C b Pc As)
    (hg : g.method = m) (hn : As.length = n) (hsize : g.locals.size = nL) (hstack : g.stack = As.reverse ++ .ref b :: rest) (hW : 2 * g.monitorRoom + (rest.map fun v => v.category).sum ≤ 8) (hdg : decode cc g.pc = .ok (.invokevirtual index, 3)) (hf : cells + mc ≤ R.cells ∧ slots + ms ≤ R.slots) :
    vx_Run p l e R s m args below meth c H locs cells slots mc ms g rest (Qc (Value.ref b :: As).toArray) XC free := by
  have hK : vx_Back l R p e below s args y 3 8 (PreOf R mc ms Pc) (PostOf Qc mc ms free) (vx_Post XC mc ms free) := vx_callBack cw.1 hM hp.1
  obtain ⟨⟨-, -, -, -, -, -, hcode, -, hy, hlen, hl⟩, hin, hse⟩ := cw
  obtain ⟨hx, hb, hml, ho, -⟩ := S
  obtain ⟨-, ⟨cellB, hcB, hoB, hclB⟩, hPc⟩ := hp
  intro T hT X
  rcases vx_callV X hx (C := C) (bytes := bytes) (maxL := maxL) (ret := ret) ho hl hin hse hcode hy hK (by rw [hT]; exact hcB) hoB hclB hg (hsize.trans hml.symm) (argsL := As) (rest := rest) (fun sig h => hn.trans (hlen sig h)) hstack hW (by rw [hb]; exact hdg)
    (fun vm₁ hW₁ => ⟨hf.1, hf.2, hPc (T.setVm vm₁) hT hW₁⟩) with ⟨v, vm₁, ⟨U', l2, c2, s2⟩, hW₁, X', ⟨g', mk, t, L, e1, e2, hq, h1, hL, h2, h3⟩, st⟩ | ⟨q, vm₁, ⟨U', l2, c2, s2⟩, hW₁, X', ⟨g', mk, t, L, E, ce, e1, e2, hq, hce, hcv, hcl, h1, hL, h2, h3⟩, st⟩
  · dsimp only [Pt.U, Pt.locs, Pt.cells, Pt.slots] at X' e1 e2 h1 h2 h3 st
    subst h1; subst h2; subst h3
    exact Or.inl ⟨v, (T.setVm vm₁).calling g' mk (Value.ref b :: As).toArray, t, U', L, hT, X', hL, e1, e2, hq, st⟩
  · dsimp only [Pt.U, Pt.locs, Pt.cells, Pt.slots] at X' e1 e2 h1 h2 h3 st hcl
    subst h1; subst h2; subst h3
    exact Or.inr ⟨q, (T.setVm vm₁).calling g' mk (Value.ref b :: As).toArray, t, U', L, E, ce, hT, X', hL, e1, e2, hq, hce, hcv, vx_cls hW₁ hcl, st⟩
theorem vx_runS (S : CallFix p m c cc nL s args Ts own) (hM : vx_Met l y ws rm Pc Qc XC mc ms free) (cw : CallB R s args own index y bytes maxL ret ws rm mc ms n ∧ (Cond.static y).before args s = true) (hp : PreS s H Pc As)
    (hg : g.method = m) (hn : As.length = n) (hsize : g.locals.size = nL) (hstack : g.stack = As.reverse ++ rest) (hW : 2 * g.monitorRoom + (rest.map fun v => v.category).sum ≤ 8) (hdg : decode cc g.pc = .ok (.invokestatic index, 3)) (hf : cells + mc ≤ R.cells ∧ slots + ms ≤ R.slots) :
    vx_Run p l e R s m args below meth c H locs cells slots mc ms g rest (Qc As.toArray) XC free := by
  have hK : vx_Back l R p e below s args y 3 8 (PreOf R mc ms Pc) (PostOf Qc mc ms free) (vx_Post XC mc ms free) := vx_callBack cw.1 hM hp.1
  obtain ⟨⟨-, -, -, -, -, -, hcode, hini, hy, hlen, hl⟩, hstt⟩ := cw
  obtain ⟨hx, hb, hml, ho, -⟩ := S
  intro T hT X
  rcases vx_callS X hx (bytes := bytes) (maxL := maxL) (ret := ret) ho hl hstt hini hcode hy hK hg (hsize.trans hml.symm) (argsL := As) (rest := rest) (fun sig h => hn.trans (hlen sig h)) hstack hW (by rw [hb]; exact hdg)
    (fun vm₁ hW₁ => ⟨hf.1, hf.2, hp.2 (T.setVm vm₁) hT hW₁⟩) with ⟨v, vm₁, ⟨U', l2, c2, s2⟩, hW₁, X', ⟨g', mk, t, L, e1, e2, hq, h1, hL, h2, h3⟩, st⟩ | ⟨q, vm₁, ⟨U', l2, c2, s2⟩, hW₁, X', ⟨g', mk, t, L, E, ce, e1, e2, hq, hce, hcv, hcl, h1, hL, h2, h3⟩, st⟩
  · dsimp only [Pt.U, Pt.locs, Pt.cells, Pt.slots] at X' e1 e2 h1 h2 h3 st
    subst h1; subst h2; subst h3
    exact Or.inl ⟨v, (T.setVm vm₁).calling g' mk As.toArray, t, U', L, hT, X', hL, e1, e2, hq, st⟩
  · dsimp only [Pt.U, Pt.locs, Pt.cells, Pt.slots] at X' e1 e2 h1 h2 h3 st hcl
    subst h1; subst h2; subst h3
    exact Or.inr ⟨q, (T.setVm vm₁).calling g' mk As.toArray, t, U', L, E, ce, hT, X', hL, e1, e2, hq, hce, hcv, vx_cls hW₁ hcl, st⟩
end Runs
section Rows
variable {p : Program} {l : Launch} {e : Env} {R : Room} {s : State} {m : MethodId} {args : Array Value} {below : List Frame} {meth : Method} {c : Code} {H : Heap} {locs : List Loc} {cells slots : Nat} {Q : State → Prop}
variable {mc ms : Nat} {free : Addr → Prop} {A0 A1 : Nat → Prop} {H0 : Heap} {a : Array Value} {pc : Nat} {ls : Array Slot} {st0 rest : List Value}
theorem vx_keep {st₀ t T' : State} {L : List Loc} (h0 : st₀.heap = H) (e1 : T'.heap = t.heap) (hS : va_S A0 H0 H locs) (hA : ∀ q, q < H.size → A1 q → A0 q) (hf : ∀ q, free q → A0 q) (hL : ∀ q ∈ L, free q.base) (hF : va_F A1 st₀ t) :
    H.size ≤ T'.heap.size ∧ (∀ q : Nat, q < H.size → ¬ A1 q → T'.heap[q]? = H[q]?) ∧ va_S A0 H0 T'.heap (locs ++ L) := by
  obtain ⟨hz, hk⟩ := hF
  rw [h0] at hz hk
  exact ⟨by rw [e1]; exact hz, fun q h1 h2 => by rw [e1]; exact hk q h1 h2,
    ⟨Nat.le_trans hS.1 (by rw [e1]; exact hz), fun q h1 h2 => by rw [e1, hk q (Nat.lt_of_lt_of_le h1 hS.1) (fun z => h2 (hA q (Nat.lt_of_lt_of_le h1 hS.1) z))]; exact hS.2.1 q h1 h2, fun q hq => by
      rcases List.mem_append.mp hq with h | h
      · exact hS.2.2 q h
      · exact hf _ (hL q h)⟩⟩
theorem vx_calli {S SX : Type} {post : Int32 → S → Prop} {px : SX → Prop} {B : S → State → Prop} {BX : String → SX → State → Prop} {AX : Nat → Prop} (hr : vx_Run p l e R s m args below meth c H locs cells slots mc ms (F0 m pc ls st0) rest (va_Qi post B A1 a) (vx_X px BX AX) free) (hS : va_S A0 H0 H locs) (hA : ∀ q, q < H.size → A1 q → A0 q) (hf : ∀ q, free q → A0 q) (hAX : ∀ q, q < H.size → AX q → A0 q)
    (kx : ∀ (E : String) (ce : Cell) (q9 : Addr) (u : SX) (t : State) (H1 : Heap) (locs1 : List Loc), t.heap = H1 → s.vm.Alike t.vm → px u → BX E u t → H.size ≤ H1.size → (∀ q : Nat, q < H.size → ¬ AX q → H1[q]? = H[q]?) → va_S A0 H0 H1 locs1 → H1[q9]? = some ce → ce.vm = .none → s.vm.findClass E = some ce.cls → vx_W p l e R s m args below meth c H1 locs1 (cells + mc) (slots + ms) Q (F0 m pc ls rest) q9)
    (kk : ∀ (r : Int32) (u : S) (t : State) (H1 : Heap) (locs1 : List Loc), t.heap = H1 → s.vm.Alike t.vm → post r u → B u t → H.size ≤ H1.size → (∀ q : Nat, q < H.size → ¬ A1 q → H1[q]? = H[q]?) → va_S A0 H0 H1 locs1 → W p l e R s m args below meth c H1 locs1 (cells + mc) (slots + ms) Q (F0 m (pc + 3) ls (.int r :: rest))) : W p l e R s m args below meth c H locs cells slots Q (F0 m pc ls st0) := by
  intro T hT X
  rcases hr T hT X with ⟨v, st₀, t, T', L, h0, X', hL, e1, e2, ⟨⟨r, u, hv, hp, hb⟩, hF⟩, st⟩ | ⟨q, st₀, t, T', L, E, ce, h0, X', hL, e1, e2, ⟨u, hp, hb, hF⟩, hce, hcv, hcl, st⟩
  · cases hv
    obtain ⟨k1, k2, k3⟩ := vx_keep h0 e1 hS hA hf hL hF
    obtain ⟨t2, a1, b1⟩ := kk r u t T'.heap (locs ++ L) e1.symm (by rw [← e2]; exact X'.warmed.alike) hp hb k1 k2 k3 T' rfl X'
    exact ⟨t2, st t2 a1, b1⟩
  · obtain ⟨k1, k2, k3⟩ := vx_keep h0 e1 hS hAX hf hL hF
    obtain ⟨t2, a1, b1⟩ := kx E ce q u t T'.heap (locs ++ L) e1.symm (by rw [← e2]; exact X'.warmed.alike) hp hb k1 k2 k3 (by rw [e1]; exact hce) hcv hcl T' rfl X'
    exact ⟨t2, st.trans a1, b1⟩
theorem vx_calll {S SX : Type} {post : Int64 → S → Prop} {px : SX → Prop} {B : S → State → Prop} {BX : String → SX → State → Prop} {AX : Nat → Prop} (hr : vx_Run p l e R s m args below meth c H locs cells slots mc ms (F0 m pc ls st0) rest (va_Ql post B A1 a) (vx_X px BX AX) free) (hS : va_S A0 H0 H locs) (hA : ∀ q, q < H.size → A1 q → A0 q) (hf : ∀ q, free q → A0 q) (hAX : ∀ q, q < H.size → AX q → A0 q)
    (kx : ∀ (E : String) (ce : Cell) (q9 : Addr) (u : SX) (t : State) (H1 : Heap) (locs1 : List Loc), t.heap = H1 → s.vm.Alike t.vm → px u → BX E u t → H.size ≤ H1.size → (∀ q : Nat, q < H.size → ¬ AX q → H1[q]? = H[q]?) → va_S A0 H0 H1 locs1 → H1[q9]? = some ce → ce.vm = .none → s.vm.findClass E = some ce.cls → vx_W p l e R s m args below meth c H1 locs1 (cells + mc) (slots + ms) Q (F0 m pc ls rest) q9)
    (kk : ∀ (r : Int64) (u : S) (t : State) (H1 : Heap) (locs1 : List Loc), t.heap = H1 → s.vm.Alike t.vm → post r u → B u t → H.size ≤ H1.size → (∀ q : Nat, q < H.size → ¬ A1 q → H1[q]? = H[q]?) → va_S A0 H0 H1 locs1 → W p l e R s m args below meth c H1 locs1 (cells + mc) (slots + ms) Q (F0 m (pc + 3) ls (.long r :: rest))) : W p l e R s m args below meth c H locs cells slots Q (F0 m pc ls st0) := by
  intro T hT X
  rcases hr T hT X with ⟨v, st₀, t, T', L, h0, X', hL, e1, e2, ⟨⟨r, u, hv, hp, hb⟩, hF⟩, st⟩ | ⟨q, st₀, t, T', L, E, ce, h0, X', hL, e1, e2, ⟨u, hp, hb, hF⟩, hce, hcv, hcl, st⟩
  · cases hv
    obtain ⟨k1, k2, k3⟩ := vx_keep h0 e1 hS hA hf hL hF
    obtain ⟨t2, a1, b1⟩ := kk r u t T'.heap (locs ++ L) e1.symm (by rw [← e2]; exact X'.warmed.alike) hp hb k1 k2 k3 T' rfl X'
    exact ⟨t2, st t2 a1, b1⟩
  · obtain ⟨k1, k2, k3⟩ := vx_keep h0 e1 hS hAX hf hL hF
    obtain ⟨t2, a1, b1⟩ := kx E ce q u t T'.heap (locs ++ L) e1.symm (by rw [← e2]; exact X'.warmed.alike) hp hb k1 k2 k3 (by rw [e1]; exact hce) hcv hcl T' rfl X'
    exact ⟨t2, st.trans a1, b1⟩
theorem vx_callf {S SX : Type} {post : UInt32 → S → Prop} {px : SX → Prop} {B : S → State → Prop} {BX : String → SX → State → Prop} {AX : Nat → Prop} (hr : vx_Run p l e R s m args below meth c H locs cells slots mc ms (F0 m pc ls st0) rest (va_Qf post B A1 a) (vx_X px BX AX) free) (hS : va_S A0 H0 H locs) (hA : ∀ q, q < H.size → A1 q → A0 q) (hf : ∀ q, free q → A0 q) (hAX : ∀ q, q < H.size → AX q → A0 q)
    (kx : ∀ (E : String) (ce : Cell) (q9 : Addr) (u : SX) (t : State) (H1 : Heap) (locs1 : List Loc), t.heap = H1 → s.vm.Alike t.vm → px u → BX E u t → H.size ≤ H1.size → (∀ q : Nat, q < H.size → ¬ AX q → H1[q]? = H[q]?) → va_S A0 H0 H1 locs1 → H1[q9]? = some ce → ce.vm = .none → s.vm.findClass E = some ce.cls → vx_W p l e R s m args below meth c H1 locs1 (cells + mc) (slots + ms) Q (F0 m pc ls rest) q9)
    (kk : ∀ (r : UInt32) (u : S) (t : State) (H1 : Heap) (locs1 : List Loc), t.heap = H1 → s.vm.Alike t.vm → post r u → B u t → H.size ≤ H1.size → (∀ q : Nat, q < H.size → ¬ A1 q → H1[q]? = H[q]?) → va_S A0 H0 H1 locs1 → W p l e R s m args below meth c H1 locs1 (cells + mc) (slots + ms) Q (F0 m (pc + 3) ls (.float r :: rest))) : W p l e R s m args below meth c H locs cells slots Q (F0 m pc ls st0) := by
  intro T hT X
  rcases hr T hT X with ⟨v, st₀, t, T', L, h0, X', hL, e1, e2, ⟨⟨r, u, hv, hp, hb⟩, hF⟩, st⟩ | ⟨q, st₀, t, T', L, E, ce, h0, X', hL, e1, e2, ⟨u, hp, hb, hF⟩, hce, hcv, hcl, st⟩
  · cases hv
    obtain ⟨k1, k2, k3⟩ := vx_keep h0 e1 hS hA hf hL hF
    obtain ⟨t2, a1, b1⟩ := kk r u t T'.heap (locs ++ L) e1.symm (by rw [← e2]; exact X'.warmed.alike) hp hb k1 k2 k3 T' rfl X'
    exact ⟨t2, st t2 a1, b1⟩
  · obtain ⟨k1, k2, k3⟩ := vx_keep h0 e1 hS hAX hf hL hF
    obtain ⟨t2, a1, b1⟩ := kx E ce q u t T'.heap (locs ++ L) e1.symm (by rw [← e2]; exact X'.warmed.alike) hp hb k1 k2 k3 (by rw [e1]; exact hce) hcv hcl T' rfl X'
    exact ⟨t2, st.trans a1, b1⟩
theorem vx_calld {S SX : Type} {post : UInt64 → S → Prop} {px : SX → Prop} {B : S → State → Prop} {BX : String → SX → State → Prop} {AX : Nat → Prop} (hr : vx_Run p l e R s m args below meth c H locs cells slots mc ms (F0 m pc ls st0) rest (va_Qd post B A1 a) (vx_X px BX AX) free) (hS : va_S A0 H0 H locs) (hA : ∀ q, q < H.size → A1 q → A0 q) (hf : ∀ q, free q → A0 q) (hAX : ∀ q, q < H.size → AX q → A0 q)
    (kx : ∀ (E : String) (ce : Cell) (q9 : Addr) (u : SX) (t : State) (H1 : Heap) (locs1 : List Loc), t.heap = H1 → s.vm.Alike t.vm → px u → BX E u t → H.size ≤ H1.size → (∀ q : Nat, q < H.size → ¬ AX q → H1[q]? = H[q]?) → va_S A0 H0 H1 locs1 → H1[q9]? = some ce → ce.vm = .none → s.vm.findClass E = some ce.cls → vx_W p l e R s m args below meth c H1 locs1 (cells + mc) (slots + ms) Q (F0 m pc ls rest) q9)
    (kk : ∀ (r : UInt64) (u : S) (t : State) (H1 : Heap) (locs1 : List Loc), t.heap = H1 → s.vm.Alike t.vm → post r u → B u t → H.size ≤ H1.size → (∀ q : Nat, q < H.size → ¬ A1 q → H1[q]? = H[q]?) → va_S A0 H0 H1 locs1 → W p l e R s m args below meth c H1 locs1 (cells + mc) (slots + ms) Q (F0 m (pc + 3) ls (.double r :: rest))) : W p l e R s m args below meth c H locs cells slots Q (F0 m pc ls st0) := by
  intro T hT X
  rcases hr T hT X with ⟨v, st₀, t, T', L, h0, X', hL, e1, e2, ⟨⟨r, u, hv, hp, hb⟩, hF⟩, st⟩ | ⟨q, st₀, t, T', L, E, ce, h0, X', hL, e1, e2, ⟨u, hp, hb, hF⟩, hce, hcv, hcl, st⟩
  · cases hv
    obtain ⟨k1, k2, k3⟩ := vx_keep h0 e1 hS hA hf hL hF
    obtain ⟨t2, a1, b1⟩ := kk r u t T'.heap (locs ++ L) e1.symm (by rw [← e2]; exact X'.warmed.alike) hp hb k1 k2 k3 T' rfl X'
    exact ⟨t2, st t2 a1, b1⟩
  · obtain ⟨k1, k2, k3⟩ := vx_keep h0 e1 hS hAX hf hL hF
    obtain ⟨t2, a1, b1⟩ := kx E ce q u t T'.heap (locs ++ L) e1.symm (by rw [← e2]; exact X'.warmed.alike) hp hb k1 k2 k3 (by rw [e1]; exact hce) hcv hcl T' rfl X'
    exact ⟨t2, st.trans a1, b1⟩
theorem vx_callv {S SX : Type} {post : S → Prop} {px : SX → Prop} {B : S → State → Prop} {BX : String → SX → State → Prop} {AX : Nat → Prop} (hr : vx_Run p l e R s m args below meth c H locs cells slots mc ms (F0 m pc ls st0) rest (va_Qv post B A1 a) (vx_X px BX AX) free) (hS : va_S A0 H0 H locs) (hA : ∀ q, q < H.size → A1 q → A0 q) (hf : ∀ q, free q → A0 q) (hAX : ∀ q, q < H.size → AX q → A0 q)
    (kx : ∀ (E : String) (ce : Cell) (q9 : Addr) (u : SX) (t : State) (H1 : Heap) (locs1 : List Loc), t.heap = H1 → s.vm.Alike t.vm → px u → BX E u t → H.size ≤ H1.size → (∀ q : Nat, q < H.size → ¬ AX q → H1[q]? = H[q]?) → va_S A0 H0 H1 locs1 → H1[q9]? = some ce → ce.vm = .none → s.vm.findClass E = some ce.cls → vx_W p l e R s m args below meth c H1 locs1 (cells + mc) (slots + ms) Q (F0 m pc ls rest) q9)
    (kk : ∀ (u : S) (t : State) (H1 : Heap) (locs1 : List Loc), t.heap = H1 → s.vm.Alike t.vm → post u → B u t → H.size ≤ H1.size → (∀ q : Nat, q < H.size → ¬ A1 q → H1[q]? = H[q]?) → va_S A0 H0 H1 locs1 → W p l e R s m args below meth c H1 locs1 (cells + mc) (slots + ms) Q (F0 m (pc + 3) ls (rest))) : W p l e R s m args below meth c H locs cells slots Q (F0 m pc ls st0) := by
  intro T hT X
  rcases hr T hT X with ⟨v, st₀, t, T', L, h0, X', hL, e1, e2, ⟨⟨u, hv, hp, hb⟩, hF⟩, st⟩ | ⟨q, st₀, t, T', L, E, ce, h0, X', hL, e1, e2, ⟨u, hp, hb, hF⟩, hce, hcv, hcl, st⟩
  · cases hv
    obtain ⟨k1, k2, k3⟩ := vx_keep h0 e1 hS hA hf hL hF
    obtain ⟨t2, a1, b1⟩ := kk u t T'.heap (locs ++ L) e1.symm (by rw [← e2]; exact X'.warmed.alike) hp hb k1 k2 k3 T' rfl X'
    exact ⟨t2, st t2 a1, b1⟩
  · obtain ⟨k1, k2, k3⟩ := vx_keep h0 e1 hS hAX hf hL hF
    obtain ⟨t2, a1, b1⟩ := kx E ce q u t T'.heap (locs ++ L) e1.symm (by rw [← e2]; exact X'.warmed.alike) hp hb k1 k2 k3 (by rw [e1]; exact hce) hcv hcl T' rfl X'
    exact ⟨t2, st.trans a1, b1⟩
/-- caught by the row x of this method's table; the rows ahead don't take it -/
theorem vx_catch {own name : String} {E : String} {ce : Cell} {q : Addr} (hown : s.vm.findClass own = some m.cls) (pre : List ExceptionTableEntry) (x : ExceptionTableEntry) (suf : List ExceptionTableEntry) (hsplit : c.exceptionTable.toList = pre ++ x :: suf)
    (hpass : ∀ z ∈ pre, covers z pc = false ∨ (z.catchType ≠ 0 ∧ ∃ nm : String, (Cond.classLink own z.catchType nm).before args s = true ∧ va_Nc E nm s)) (hx : covers x pc = true) (h0 : x.catchType ≠ 0)
    (hlink : (Cond.classLink own x.catchType name).before args s = true) (hcast : (Cond.castable E name).before args s = true) (hcell : H[q]? = some ce) (hv : ce.vm = .none) (hcl : s.vm.findClass E = some ce.cls)
    (kk : W p l e R s m args below meth c H locs cells slots Q (F0 m x.handlerPc ls [.ref q])) : vx_W p l e R s m args below meth c H locs cells slots Q (F0 m pc ls rest) q := by
  intro T hT X
  have hpl : e.platform.magicAccessors = ({} : Platform).magicAccessors := by rw [X.admits.platform]
  obtain ⟨c3, c4, hc3, hc4, hasg⟩ := Cond.castable_spec hcast
  cases Option.some.inj (hc3.symm.trans hcl)
  obtain ⟨c5, hc5, hcl5⟩ := Cond.classLink_spec hown hlink e.platform hpl
  cases Option.some.inj (hc4.symm.trans hc5)
  obtain ⟨vm', X', st⟩ := X.thenCaughtThrough q (g := F0 m pc ls rest) rfl (Steps.refl _) (by rw [hT]; exact hcell) (by rw [hv]; rfl) (by obtain ⟨k9, h9, -⟩ := Vm.findClass_spec hcl; exact ⟨k9, h9⟩) pre x suf hsplit
    (fun z hz => by
      rcases hpass z hz with h | ⟨hz0, nm, hl1, hn1⟩
      · exact Or.inl h
      · obtain ⟨c6, hc6, hcl6⟩ := Cond.classLink_spec hown hl1 e.platform hpl
        obtain ⟨a8, b8, h1, h2, h3⟩ := hn1
        cases Option.some.inj (h1.symm.trans hcl)
        cases Option.some.inj (h2.symm.trans hc6)
        exact Or.inr ⟨hz0, _, hcl6, h3⟩) hx (Or.inr ⟨h0, c4, hcl5, hasg⟩)
  obtain ⟨t, a1, b1⟩ := kk (T.setVm vm') hT X'
  exact ⟨t, st.trans a1, b1⟩
end Rows
section Ends
variable {p : Program} {l : Launch} {e : Env} {R : Room} {s : State} {m : MethodId} {args : Array Value} {below : List Frame} {meth : Method} {c : Code} {H : Heap} {locs : List Loc} {cells slots : Nat} {Q : State → Prop}
variable {mc ms : Nat} {free : Addr → Prop} {A0 A1 : Nat → Prop} {H0 : Heap} {a : Array Value} {ls : Array Slot} {st0 rest : List Value}
variable {Qc : Array Value → State → Outcome → State → Prop} {XC : String → State → State → Prop}
/-- what a body that may throw owes at its end -/
def vx_MQ (below : List Frame) (Qc : Array Value → State → Outcome → State → Prop) (XC : String → State → State → Prop) (a : Array Value) (s : State) (mc ms : Nat) (free : Addr → Prop) : State → Prop := fun t =>
  ∃ o, t.status = .running ∧ Ended t below o ∧ vx_Q Qc XC mc ms free a s o t
theorem vx_ret {g : JFrame} {mc ms : Nat} (k : W p l e R s m args below meth c H locs cells slots (MQ below Qc args s mc ms free) g) : W p l e R s m args below meth c H locs cells slots (vx_MQ below Qc XC args s mc ms free) g := by
  intro T hT X
  obtain ⟨t, a1, o, b1, b2, b3, b4⟩ := k T hT X
  exact ⟨t, a1, o, b1, b2, Or.inl ⟨b3, b4⟩⟩
/-- not caught here: it goes on to the caller -/
theorem vx_widen {g : JFrame} {q : Addr} {k n : Nat} (h1 : cells ≤ k) (h2 : slots ≤ n) (kk : vx_W p l e R s m args below meth c H locs k n Q g q) : vx_W p l e R s m args below meth c H locs cells slots Q g q := fun T hT X => kk T hT (stand_widen X h1 h2)
theorem vx_out {pc : Nat} {E : String} {ce : Cell} {q : Addr} {mc ms : Nat} (hout : ∀ x ∈ c.exceptionTable.toList, covers x pc = false) (hlocks : meth.locks = false) (hcell : H[q]? = some ce) (hv : ce.vm = .none) (hcl : s.vm.findClass E = some ce.cls)
    (hx : ∀ t : State, t.heap = H → s.vm.Alike t.vm → XC E s t) (hf : ∀ z ∈ locs, free z.base) (hc : cells ≤ mc) (hs : slots ≤ ms) :
    vx_W p l e R s m args below meth c H locs cells slots (vx_MQ below Qc XC args s mc ms free) (F0 m pc ls rest) q := by
  intro T hT X
  obtain ⟨st1, hrun, hend, hW, hsm⟩ := X.leaveThrown q (g := F0 m pc ls rest) rfl rfl rfl hout hlocks
  have hcell9 : (T.setFrames (.throwing q :: below)).heap[q]? = some ce := by
    show T.heap[q]? = some ce
    rw [hT]; exact hcell
  exact ⟨_, st1, .threw q, hrun, hend, Or.inr ⟨q, rfl, E, ce, locs, hx _ hT hW.alike, hcell9, hv, hcl, hW, hsm.mono hc hs, hf⟩⟩
theorem vx_frame {U : State} {k n : Nat} (h : s.sameButNew ({ U with vm := s.vm } : State) locs k n) : s.heap.size ≤ U.heap.size ∧ ∀ q : Nat, q < s.heap.size → (∀ z ∈ locs, z.base ≠ q) → U.heap[q]? = s.heap[q]? := by
  obtain ⟨-, h2, -, -, -, h6⟩ := h
  refine ⟨h2, fun q hq hz => ?_⟩
  obtain ⟨c9, e1, e2, e3, e4⟩ := h6 q _ (Array.getElem?_eq_getElem hq)
  have hs : c9.slots = (s.heap[q]).slots := Array.ext_getElem? fun i => e4 i fun hm => hz _ hm rfl
  have h9 : c9 = s.heap[q] := by
    rw [hs] at e2
    exact e2
  have e5 : U.heap[q]? = some c9 := e1
  rw [e5, h9, Array.getElem?_eq_getElem hq]
/-- the words of a throw but the four that speak of the heap -/
def vx_no (w : Cond) : Bool := decide (w ≠ .isRef (.static Bundle.tN "UNASSIGNED_STACK" Bundle.steD)) && decide (w ≠ .isRef (.static Bundle.tN "SUPPRESSED_SENTINEL" Bundle.listD)) && decide (w ≠ .laysStatic Bundle.tN "UNASSIGNED_STACK" Bundle.steD) && decide (w ≠ .laysStatic Bundle.tN "SUPPRESSED_SENTINEL" Bundle.listD)
def vx_at0 (own : String) (ic : Nat) (X : String) (names : List String) : List Cond := (Bundle.ownAtoms0 own ic X names).filter vx_no
def vx_atS (own : String) (ic : Nat) (X : String) (names : List String) : List Cond := (Bundle.ownAtoms own ic X names).filter vx_no
/-- a word that the tables alone decide, or a good one -/
def vx_ot (w : Cond) : Bool := w.onTables || goodWord w
theorem vx_ot_at {args a' : Array Value} {s U : State} {w : Cond} (hW : s.WarmedH U.vm) (hvm : s.vm = U.vm) (hg : vx_ot w = true) (h : w.before args s = true) : w.before a' U = true := by
  simp only [vx_ot, Bool.or_eq_true] at hg
  rcases hg with hg | hg
  · exact va_tabs hg hvm h
  · exact word_at hW (good_of_word hg) h
/-- a list's words: the good ones out of the method's own list, the others by premises of their own -/
theorem vx_hat {args : Array Value} {s : State} {L B : List Cond} (h1 : ∀ w ∈ L.filter goodWord, w.before args s = true) (h2 : ∀ w ∈ L.filter (fun w => !goodWord w), w ∈ B) (h3 : ∀ w ∈ B, w.before args s = true) : ∀ w ∈ L, w.before args s = true := by
  intro w hw
  by_cases g : goodWord w = true
  · exact h1 w (List.mem_filter.mpr ⟨hw, g⟩)
  · refine h3 w (h2 w (List.mem_filter.mpr ⟨hw, ?_⟩))
    show (!goodWord w) = true
    cases hgw : goodWord w
    · rfl
    · exact absurd hgw g
theorem vx_c {args : Array Value} {s : State} {w : Cond} {B : List Cond} (h : w.before args s = true) (t : ∀ w ∈ B, w.before args s = true) : ∀ w' ∈ w :: B, w'.before args s = true := fun w' h' => (List.mem_cons.mp h').elim (fun e => by rw [e]; exact h) (t w')
theorem vx_n {args : Array Value} {s : State} : ∀ w ∈ ([] : List Cond), w.before args s = true := fun _ h => nomatch h
theorem vx_own {args : Array Value} {s : State} {L : List Cond} (h1 : ∀ w ∈ L.filter vx_no, w.before args s = true)
    (hU : (Cond.isRef (.static Bundle.tN "UNASSIGNED_STACK" Bundle.steD)).before args s = true) (hN : (Cond.isRef (.static Bundle.tN "SUPPRESSED_SENTINEL" Bundle.listD)).before args s = true)
    (lU : (Cond.laysStatic Bundle.tN "UNASSIGNED_STACK" Bundle.steD).before args s = true) (lN : (Cond.laysStatic Bundle.tN "SUPPRESSED_SENTINEL" Bundle.listD).before args s = true) : ∀ w ∈ L, w.before args s = true := by
  intro w hw
  by_cases e1 : w = .isRef (.static Bundle.tN "UNASSIGNED_STACK" Bundle.steD)
  · rw [e1]; exact hU
  · by_cases e2 : w = .isRef (.static Bundle.tN "SUPPRESSED_SENTINEL" Bundle.listD)
    · rw [e2]; exact hN
    · by_cases e3 : w = .laysStatic Bundle.tN "UNASSIGNED_STACK" Bundle.steD
      · rw [e3]; exact lU
      · by_cases e4 : w = .laysStatic Bundle.tN "SUPPRESSED_SENTINEL" Bundle.listD
        · rw [e4]; exact lN
        · exact h1 w (List.mem_filter.mpr ⟨hw, by unfold vx_no; rw [decide_eq_true e1, decide_eq_true e2, decide_eq_true e3, decide_eq_true e4]; rfl⟩)
/-- where a static field lies, its class's statics cell in H -/
def vx_L (C n d : String) (A : Nat → Prop) (U : State) (H : Heap) : Prop := ∃ (c : ClassId) (k : Class) (i : Nat) (f : Field) (a : Nat) (cell : Cell), U.vm.findClass C = some c ∧ U.fieldFound? C n d = some (c, k, i, f) ∧ f.isStatic = true ∧ k.statics = some a ∧ H[a]? = some cell ∧ cell.vm.isStatics = true ∧ cell.cls = c ∧ f.slot < cell.slots.size ∧ k.staticTypes[f.slot]? = some f.type ∧ ¬ A a
theorem vx_L.moved {C n d : String} {A : Nat → Prop} {u U : State} {H : Heap} (hvm : u.vm.Alike U.vm) (h : vx_L C n d A u H) : vx_L C n d A U H := by
  obtain ⟨c, k, i, f, a, cell, h1, h2, h3, h4, h5, h6, h7, h8, h9, h10⟩ := h
  obtain ⟨k', hi', he⟩ := State.fieldFound?_setVm hvm h2
  exact ⟨c, k', i, f, a, cell, by rw [hvm.findClass]; exact h1, hi', h3, by rw [he]; exact h4, h5, h6, h7, h8, by rw [he]; exact h9, h10⟩
theorem vx_L.kept {C n d : String} {A : Nat → Prop} {U : State} {H H1 : Heap} (h : vx_L C n d A U H) (hq : ∀ a : Nat, a < H.size → ¬ A a → H1[a]? = H[a]?) : vx_L C n d A U H1 := by
  obtain ⟨c, k, i, f, a, cell, h1, h2, h3, h4, h5, h6, h7, h8, h9, h10⟩ := h
  exact ⟨c, k, i, f, a, cell, h1, h2, h3, h4, by rw [hq a (Array.getElem?_eq_some_iff.mp h5).1 h10]; exact h5, h6, h7, h8, h9, h10⟩
theorem vx_L.narrow {C n d : String} {A B : Nat → Prop} {U : State} {H : Heap} (h : vx_L C n d A U H) (hAB : ∀ q, B q → A q) : vx_L C n d B U H := by
  obtain ⟨c, k, i, f, a, cell, h1, h2, h3, h4, h5, h6, h7, h8, h9, h10⟩ := h
  exact ⟨c, k, i, f, a, cell, h1, h2, h3, h4, h5, h6, h7, h8, h9, fun z => h10 (hAB _ z)⟩
theorem vx_L.word {C n d : String} {A : Nat → Prop} {s : State} {args : Array Value} (h : vx_L C n d A s s.heap) : (Cond.laysStatic C n d).before args s = true := by
  obtain ⟨c, k, i, f, a, cell, h1, h2, h3, h4, h5, h6, h7, h8, h9, -⟩ := h
  show (Cond.laysStatic C n d).holds args s none s [] = true
  exact Cond.laysStatic_of h1 h2 h3 h4 h5 h6 h7 h8 h9
/-- .. and what it holds: null or some reference -/
def vx_Zq (C n d : String) (A : Nat → Prop) (U : State) (H : Heap) : Prop := va_Zq C n d A U H ∧ vx_L C n d A U H
theorem vx_Zq.moved {C n d : String} {A : Nat → Prop} {u U : State} {H : Heap} (hvm : u.vm.Alike U.vm) (h : vx_Zq C n d A u H) : vx_Zq C n d A U H := ⟨va_Zq.moved hvm h.1, vx_L.moved hvm h.2⟩
theorem vx_Zq.kept {C n d : String} {A : Nat → Prop} {U : State} {H H1 : Heap} (h : vx_Zq C n d A U H) (hq : ∀ a : Nat, a < H.size → ¬ A a → H1[a]? = H[a]?) : vx_Zq C n d A U H1 := ⟨va_Zq.kept h.1 hq, vx_L.kept h.2 hq⟩
theorem vx_Zq.narrow {C n d : String} {A B : Nat → Prop} {U : State} {H : Heap} (h : vx_Zq C n d A U H) (hAB : ∀ q, B q → A q) : vx_Zq C n d B U H := ⟨va_Zq.narrow h.1 hAB, vx_L.narrow h.2 hAB⟩
theorem vx_Zqof {args : Array Value} {s : State} {C n d : String} {A : Nat → Prop} (hl : (Cond.laysStatic C n d).before args s = true) (hini : (Cond.initialized C).before args s = true) (h : (Cond.isRef (.static C n d)).before args s = true) (hA : ∀ a : Nat, a < s.heap.size → ¬ A a) : vx_Zq C n d A s s.heap := by
  refine ⟨va_Zqof hl hini h hA, ?_⟩
  obtain ⟨c, k, i, f, a, cell, h1, h2, h3, h4, h5, h6, h7, h8, h9⟩ := Cond.laysStatic_spec hl
  exact ⟨c, k, i, f, a, cell, h1, h2, h3, h4, h5, h6, h7, h8, h9, hA a (Array.getElem?_eq_some_iff.mp h5).1⟩
theorem vx_isRef {C n d : String} {v : Value} {A : Nat → Prop} {s : State} {args : Array Value} (h : va_Z C n d v A s s.heap) (hv : v.isRef = true) : (Cond.isRef (.static C n d)).before args s = true := by
  obtain ⟨cf, kf, fi, f, a, cell, h1, h2, h3, h4, h5, h6, h7, -⟩ := h
  have he : (Term.static C n d).eval args s none [] s = some v := by
    simp [Term.eval, State.fieldNamed?, h1, h2, h4, h5, h6, h7]
  simp only [Cond.before, Cond.holds, Cond.value, he]
  cases v <;> simp_all [Value.isRef]
theorem vx_isRefq {C n d : String} {A : Nat → Prop} {s : State} {args : Array Value} (h : va_Zq C n d A s s.heap) : (Cond.isRef (.static C n d)).before args s = true := by
  rcases h with h | ⟨t, h⟩
  · exact vx_isRef h rfl
  · exact vx_isRef h rfl
/-- the same frame, seen from here: as if the method were called anew in this heap -/
theorem vx_rebase {T : State} (X : Stand p l e R s m args below meth c T locs cells slots) {R' : Room} (hf : R'.frames ≤ R.frames) (hl : R'.locals ≤ R.locals) (hc : cells + R'.cells ≤ R.cells) (hs : slots + R'.slots ≤ R.slots) :
    Stand p l e R' ((T.setVm s.vm).setFrames (.invoking m args :: below)) m args below meth c T [] 0 0 := by
  have htop : (T.setVm s.vm).topJava?.isSome := X.here.top
  have hF : ((T.setVm s.vm).setFrames (.invoking m args :: below)).frames = .invoking m args :: below := State.frames_setFrames _ (State.cur_lt_of_top htop)
  obtain ⟨g₀, hg0⟩ := Option.isSome_iff_exists.mp htop
  obtain ⟨r, hr⟩ := State.topJava?_eq_some.mp hg0
  have hl9 : e.platform.stackLimits (T.setVm s.vm).me = e.platform.stackLimits s.me := X.limits
  have hb9 : (T.setVm s.vm).me.stackBytes = s.me.stackBytes := X.bytes
  refine ⟨X.admits, X.cas, X.clock, hF, ?_, X.hears, X.method, X.code, X.here, X.tail, X.warmed, ?_, ?_, ?_⟩
  · have h := X.room
    have hU : ((T.setVm s.vm).setFrames (.invoking m args :: below)).localsInUse = s.localsInUse := by
      rw [State.localsInUse_invoking hF (meth := meth) (c := c) X.method X.code, State.localsInUse_invoking X.frames X.method X.code]
    simp only [State.hasRoom, Bool.and_eq_true, decide_eq_true_eq] at h ⊢
    obtain ⟨⟨⟨⟨h1, h2, h3, h4, h5, h6⟩, h7⟩, h8⟩, h9⟩ := h
    rw [X.frames, List.length_cons] at h2 h3
    have q1 := X.heapSize
    have q2 := X.used
    simp only [hF, hU, List.length_cons, State.stackLimits_setFrames, State.stackBytes_setFrames, hl9, hb9]
    refine ⟨⟨⟨⟨by omega, by omega, by omega, by omega, by omega, h6⟩, ?_⟩, ?_⟩, X.book⟩
    · show T.heap.size + R'.cells ≤ e.platform.maxCells
      omega
    · show T.slotsUsed + R'.slots ≤ e.platform.maxSlots
      omega
  · rw [State.stackLimits_setFrames]; rfl
  · rw [State.stackBytes_setFrames]; rfl
  · refine ⟨?_, Nat.le_refl _, Nat.le_refl _, ?_, ?_, fun a c9 h9 => ⟨c9, h9, rfl, rfl, fun _ _ => rfl⟩⟩
    · obtain ⟨t, ht, -⟩ := State.frames_cons hr
      show T.setVm s.vm = { ((T.setVm s.vm).setFrames (.invoking m args :: below)).setFrames (T.setVm s.vm).frames with heap := T.heap, slotsUsed := T.slotsUsed }
      rw [State.setFrames_setFrames, State.setFrames_self ht]
      rfl
    · show T.slotsUsed = T.slotsUsed + ((T.heap.toList.drop T.heap.size).map (·.slots.size)).sum
      rw [List.drop_eq_nil_of_le (Nat.le_of_eq Array.length_toList)]
      rfl
    · show ((T.heap.toList.drop T.heap.size).map (·.slots.size)).sum ≤ 0
      rw [List.drop_eq_nil_of_le (Nat.le_of_eq Array.length_toList)]
      exact Nat.le_refl _
/-- 'throw new E()': new; dup; invokespecial; athrow -/
theorem vx_throw0 {cc : ByteArray} {pc : Nat} (hexec : p.tables.exec = Jvm.exec) (hb : c.code = cc) (hl : l.stackTraces = false) {own cls : String} {names : List String} {ik ic mc ms : Nat} {A : Nat → Prop}
    (hown : s.vm.findClass own = some m.cls) (hcls : Bundle.fit cls = true) (hnames : ∀ n ∈ names, Bundle.fit n = true)
    (hk : (Cond.classLink own ik cls).before args s = true) (hini : (Cond.initialized cls).before args s = true) (hat : ∀ w ∈ vx_at0 own ic cls names, w.before args s = true)
    (hgood : ∀ w ∈ Cond.classLink own ik cls :: Cond.initialized cls :: vx_at0 own ic cls names, vx_ot w = true)
    (hU : vx_Zq Bundle.tN "UNASSIGNED_STACK" Bundle.steD A s s.heap) (hN : vx_Zq Bundle.tN "SUPPRESSED_SENTINEL" Bundle.listD A s s.heap) (hS : va_S A s.heap H locs) (hsize : ls.size = c.maxLocals)
    (d0 : decode cc pc = .ok (.new ik, 3)) (d3 : decode cc (pc + 3) = .ok (.dup, 1)) (d4 : decode cc (pc + 4) = .ok (.invokespecial ic, 3)) (d7 : decode cc (pc + 7) = .ok (.athrow, 1))
    (hout : ∀ x ∈ c.exceptionTable.toList, covers x (pc + 7) = false)
    (hRframes : names.length + 3 < R.frames) (hRlocals : (rest.map fun v => v.category).sum + (13 * (names.length + 1) + 42) ≤ R.locals) (hRcells : cells + 1 ≤ R.cells) (hRslots : slots + 6 ≤ R.slots) (hlocks : meth.locks = false)
    (hx : ∀ t : State, s.vm.Alike t.vm → H.size ≤ t.heap.size → (∀ q : Nat, q < H.size → t.heap[q]? = H[q]?) → XC cls s t)
    (hf : ∀ z ∈ locs, free z.base) (hc : cells + 1 ≤ mc) (hs : slots + 6 ≤ ms) :
    W p l e R s m args below meth c H locs cells slots (vx_MQ below Qc XC args s mc ms free) (F0 m pc ls rest) := by
  intro T hT X
  have htr : e.platform.stackTraces = false := (show e.platform.stackTraces = l.stackTraces by rw [X.admits.platform]).trans hl
  have Y := vx_rebase X (R' := { frames := R.frames, locals := R.locals, cells := 1, slots := 6 }) (Nat.le_refl _) (Nat.le_refl _) hRcells hRslots
  obtain ⟨s', hA⟩ : ∃ z, z = (T.setVm s.vm).setFrames (.invoking m args :: below) := ⟨_, rfl⟩
  rw [← hA] at Y
  have hvm : s'.vm = s.vm := by rw [hA]; rfl
  have hhp : s'.heap = H := by rw [hA]; exact hT
  have hW0 : s.WarmedH s'.vm := by rw [hvm]; exact State.WarmedH.refl s
  have hat' : ∀ w ∈ vx_at0 own ic cls names, w.before args s' = true := fun w hw => vx_ot_at hW0 hvm.symm (hgood w (List.mem_cons_of_mem _ (List.mem_cons_of_mem _ hw))) (hat w hw)
  have hk' : (Cond.classLink own ik cls).before args s' = true := vx_ot_at hW0 hvm.symm (hgood _ List.mem_cons_self) hk
  have hini' : (Cond.initialized cls).before args s' = true := vx_ot_at hW0 hvm.symm (hgood _ (List.mem_cons_of_mem _ List.mem_cons_self)) hini
  have hU' : vx_Zq Bundle.tN "UNASSIGNED_STACK" Bundle.steD A s' s'.heap := by rw [hhp]; exact vx_Zq.moved hW0.alike (hU.kept hS.2.1)
  have hN' : vx_Zq Bundle.tN "SUPPRESSED_SENTINEL" Bundle.listD A s' s'.heap := by rw [hhp]; exact vx_Zq.moved hW0.alike (hN.kept hS.2.1)
  have h : ∀ w ∈ Bundle.ownAtoms0 own ic cls names, w.before args s' = true := vx_own hat' (vx_isRefq hU'.1) (vx_isRefq hN'.1) hU'.2.word hN'.2.word
  have hown' : s'.vm.findClass own = some m.cls := by rw [hvm]; exact hown
  have hins : (Cond.instantiable cls 6).before args s' = true := h _ (by simp [Bundle.ownAtoms0])
  obtain ⟨vm₁, cX, kX, hfX, hkX, -, -, X₁, st1⟩ := Y.newCold hexec (own := own) (C := cls) (index := ik) (n := 6) hown' hk' hins hini'
    (g := F0 m pc ls rest) rfl (by rw [hb]; exact d0) (Nat.le_refl _) (Nat.le_refl _)
  generalize hT1 : (T.setVm vm₁).pushCell { cls := cX, slots := kX.instanceTypes.map defaultValue, vm := .none } = T1 at X₁ st1
  have hcat : (Value.ref T.heap.size).category = 1 := rfl
  have hcellA : T1.heap[T.heap.size]? = some (freshCell cX kX) := by rw [← hT1]; exact State.heap_pushCell_size _ _
  have d3' : decode c.code (pc + 3) = .ok (.dup, 1) := by rw [hb]; exact d3
  obtain ⟨U, hsteps, hrun, hend, hW, hsame, ce, hce, hO⟩ := X₁.ctorThrow0 hexec htr (own := own) (cls := cls) (names := names) (ic := ic) hown' hcls hnames h (fun x hx => nomatch hx) hfX hkX hcellA (by rw [hhp, hT]; exact Nat.le_refl _)
    (g := { method := m, pc := pc + 4, locals := ls, stack := .ref T.heap.size :: .ref T.heap.size :: rest, locked := none }) rfl hsize rfl rfl (rest := rest) rfl
    (by rw [hb]; exact d4) (by rw [hb]; exact d7) hout hRframes (by simp only [List.map_cons, List.sum_cons, hcat]; omega) hlocks
  obtain ⟨f1, f2⟩ := vx_frame hsame
  rw [hhp] at f1 f2
  have hWs : s.WarmedH U.vm := State.WarmedH.trans hW0 hW
  have hcl : s.vm.findClass cls = some ce.cls := by
    have h9 := hO.cls
    rw [hvm] at h9
    exact h9
  have hall : s.sameButNew ({ U with vm := s.vm } : State) locs mc ms := by
    subst hA
    obtain ⟨e1, e2⟩ := hsame
    rw [State.setFrames_setFrames] at e1
    have h2 : (T.setVm s.vm).sameButNew ({ U with vm := s.vm } : State) [] (0 + 1) (0 + 6) := ⟨e1, e2⟩
    have h3 := X.same.trans h2
    rw [List.append_nil] at h3
    exact h3.mono hc hs
  refine ⟨U, ?_, .threw T.heap.size, hrun, hend, Or.inr ⟨T.heap.size, rfl, cls, ce, locs, hx U hWs.alike f1 (fun q hq => f2 q hq (fun z hz => nomatch hz)), hce, hO.vm, hcl, hWs, hall, hf⟩⟩
  refine st1 _ ?_
  show Steps p.tables e below (T1.setTop { method := m, pc := pc + 3, locals := ls, stack := .ref T.heap.size :: rest, locked := none }) _
  jvm_step X₁.here [X₁.here.top, hexec, d3', Value.category]
  exact hsteps
/-- 'throw new E("text")': new; dup; ldc; invokespecial; athrow -/
theorem vx_throwS {cc : ByteArray} {pc : Nat} (hexec : p.tables.exec = Jvm.exec) (hb : c.code = cc) (hl : l.stackTraces = false) {own cls text : String} {names : List String} {ik is ic mc ms sa : Nat} {A : Nat → Prop}
    (hown : s.vm.findClass own = some m.cls) (hcls : Bundle.fit cls = true) (hnames : ∀ n ∈ names, Bundle.fit n = true)
    (hk : (Cond.classLink own ik cls).before args s = true) (hini : (Cond.initialized cls).before args s = true) (hstr : vk_R own is text sa s) (hat : ∀ w ∈ vx_atS own ic cls names, w.before args s = true)
    (hgood : ∀ w ∈ Cond.classLink own ik cls :: Cond.initialized cls :: vx_atS own ic cls names, vx_ot w = true)
    (hU : vx_Zq Bundle.tN "UNASSIGNED_STACK" Bundle.steD A s s.heap) (hN : vx_Zq Bundle.tN "SUPPRESSED_SENTINEL" Bundle.listD A s s.heap) (hS : va_S A s.heap H locs) (hsize : ls.size = c.maxLocals)
    (d0 : decode cc pc = .ok (.new ik, 3)) (d3 : decode cc (pc + 3) = .ok (.dup, 1)) (d4 : decode cc (pc + 4) = .ok (.ldc is, 2)) (d6 : decode cc (pc + 6) = .ok (.invokespecial ic, 3)) (d9 : decode cc (pc + 9) = .ok (.athrow, 1))
    (hout : ∀ x ∈ c.exceptionTable.toList, covers x (pc + 9) = false)
    (hRframes : names.length + 3 < R.frames) (hRlocals : (rest.map fun v => v.category).sum + (13 * (names.length + 1) + 43) ≤ R.locals) (hRcells : cells + 1 ≤ R.cells) (hRslots : slots + 6 ≤ R.slots) (hlocks : meth.locks = false)
    (hx : ∀ t : State, s.vm.Alike t.vm → H.size ≤ t.heap.size → (∀ q : Nat, q < H.size → t.heap[q]? = H[q]?) → XC cls s t)
    (hf : ∀ z ∈ locs, free z.base) (hc : cells + 1 ≤ mc) (hs : slots + 6 ≤ ms) :
    W p l e R s m args below meth c H locs cells slots (vx_MQ below Qc XC args s mc ms free) (F0 m pc ls rest) := by
  intro T hT X
  have htr : e.platform.stackTraces = false := (show e.platform.stackTraces = l.stackTraces by rw [X.admits.platform]).trans hl
  have Y := vx_rebase X (R' := { frames := R.frames, locals := R.locals, cells := 1, slots := 6 }) (Nat.le_refl _) (Nat.le_refl _) hRcells hRslots
  obtain ⟨s', hA⟩ : ∃ z, z = (T.setVm s.vm).setFrames (.invoking m args :: below) := ⟨_, rfl⟩
  rw [← hA] at Y
  have hvm : s'.vm = s.vm := by rw [hA]; rfl
  have hhp : s'.heap = H := by rw [hA]; exact hT
  have hW0 : s.WarmedH s'.vm := by rw [hvm]; exact State.WarmedH.refl s
  have hat' : ∀ w ∈ vx_atS own ic cls names, w.before args s' = true := fun w hw => vx_ot_at hW0 hvm.symm (hgood w (List.mem_cons_of_mem _ (List.mem_cons_of_mem _ hw))) (hat w hw)
  have hk' : (Cond.classLink own ik cls).before args s' = true := vx_ot_at hW0 hvm.symm (hgood _ List.mem_cons_self) hk
  have hini' : (Cond.initialized cls).before args s' = true := vx_ot_at hW0 hvm.symm (hgood _ (List.mem_cons_of_mem _ List.mem_cons_self)) hini
  have hU' : vx_Zq Bundle.tN "UNASSIGNED_STACK" Bundle.steD A s' s'.heap := by rw [hhp]; exact vx_Zq.moved hW0.alike (hU.kept hS.2.1)
  have hN' : vx_Zq Bundle.tN "SUPPRESSED_SENTINEL" Bundle.listD A s' s'.heap := by rw [hhp]; exact vx_Zq.moved hW0.alike (hN.kept hS.2.1)
  have h : ∀ w ∈ Bundle.ownAtoms own ic cls names, w.before args s' = true := vx_own hat' (vx_isRefq hU'.1) (vx_isRefq hN'.1) hU'.2.word hN'.2.word
  have hown' : s'.vm.findClass own = some m.cls := by rw [hvm]; exact hown
  have hins : (Cond.instantiable cls 6).before args s' = true := h _ (by simp [Bundle.ownAtoms])
  obtain ⟨vm₁, cX, kX, hfX, hkX, -, -, X₁, st1⟩ := Y.newCold hexec (own := own) (C := cls) (index := ik) (n := 6) hown' hk' hins hini'
    (g := F0 m pc ls rest) rfl (by rw [hb]; exact d0) (Nat.le_refl _) (Nat.le_refl _)
  generalize hT1 : (T.setVm vm₁).pushCell { cls := cX, slots := kX.instanceTypes.map defaultValue, vm := .none } = T1 at X₁ st1
  have hcat : (Value.ref T.heap.size).category = 1 := rfl
  have hcellA : T1.heap[T.heap.size]? = some (freshCell cX kX) := by rw [← hT1]; exact State.heap_pushCell_size _ _
  have d3' : decode c.code (pc + 3) = .ok (.dup, 1) := by rw [hb]; exact d3
  have d4' : decode c.code (pc + 4) = .ok (.ldc is, 2) := by rw [hb]; exact d4
  have hstr' : vk_R own is text sa s' := vk_R.warm hW0 hstr
  obtain ⟨U, hsteps, hrun, hend, hW, hsame, ce, hce, hO⟩ := X₁.ctorThrowS hexec htr (own := own) (cls := cls) (names := names) (ic := ic) hown' hcls hnames h (fun x hx => nomatch hx) hfX hkX hcellA (by rw [hhp, hT]; exact Nat.le_refl _) (msg := .ref sa) rfl
    (g := { method := m, pc := pc + 6, locals := ls, stack := .ref sa :: .ref T.heap.size :: .ref T.heap.size :: rest, locked := none }) rfl hsize rfl rfl (rest := rest) rfl
    (by rw [hb]; exact d6) (by rw [hb]; exact d9) hout hRframes (by simp only [List.map_cons, List.sum_cons, hcat]; omega) hlocks
  obtain ⟨f1, f2⟩ := vx_frame hsame
  rw [hhp] at f1 f2
  have hWs : s.WarmedH U.vm := State.WarmedH.trans hW0 hW
  have hcl : s.vm.findClass cls = some ce.cls := by
    have h9 := hO.cls
    rw [hvm] at h9
    exact h9
  have hall : s.sameButNew ({ U with vm := s.vm } : State) locs mc ms := by
    subst hA
    obtain ⟨e1, e2⟩ := hsame
    rw [State.setFrames_setFrames] at e1
    have h2 : (T.setVm s.vm).sameButNew ({ U with vm := s.vm } : State) [] (0 + 1) (0 + 6) := ⟨e1, e2⟩
    have h3 := X.same.trans h2
    rw [List.append_nil] at h3
    exact h3.mono hc hs
  refine ⟨U, ?_, .threw T.heap.size, hrun, hend, Or.inr ⟨T.heap.size, rfl, cls, ce, locs, hx U hWs.alike f1 (fun q hq => f2 q hq (fun z hz => nomatch hz)), hce, hO.vm, hcl, hWs, hall, hf⟩⟩
  refine st1 _ ?_
  show Steps p.tables e below (T1.setTop { method := m, pc := pc + 3, locals := ls, stack := .ref T.heap.size :: rest, locked := none }) _
  jvm_step X₁.here [X₁.here.top, hexec, d3', Value.category]
  exact X₁.ldcString hexec (own := own) (text := text) (index := is) (a := sa) hown' hstr'.1 hstr'.2
    (g := { method := m, pc := pc + 4, locals := ls, stack := .ref T.heap.size :: .ref T.heap.size :: rest, locked := none }) rfl d4' _ hsteps
/-- 'throw new E("text")', the text by a wide index -/
theorem vx_throwSW {cc : ByteArray} {pc : Nat} (hexec : p.tables.exec = Jvm.exec) (hb : c.code = cc) (hl : l.stackTraces = false) {own cls text : String} {names : List String} {ik is ic mc ms sa : Nat} {A : Nat → Prop}
    (hown : s.vm.findClass own = some m.cls) (hcls : Bundle.fit cls = true) (hnames : ∀ n ∈ names, Bundle.fit n = true)
    (hk : (Cond.classLink own ik cls).before args s = true) (hini : (Cond.initialized cls).before args s = true) (hstr : vk_R own is text sa s) (hat : ∀ w ∈ vx_atS own ic cls names, w.before args s = true)
    (hgood : ∀ w ∈ Cond.classLink own ik cls :: Cond.initialized cls :: vx_atS own ic cls names, vx_ot w = true)
    (hU : vx_Zq Bundle.tN "UNASSIGNED_STACK" Bundle.steD A s s.heap) (hN : vx_Zq Bundle.tN "SUPPRESSED_SENTINEL" Bundle.listD A s s.heap) (hS : va_S A s.heap H locs) (hsize : ls.size = c.maxLocals)
    (d0 : decode cc pc = .ok (.new ik, 3)) (d3 : decode cc (pc + 3) = .ok (.dup, 1)) (d4 : decode cc (pc + 4) = .ok (.ldc_w is, 3)) (d7 : decode cc (pc + 7) = .ok (.invokespecial ic, 3)) (d10 : decode cc (pc + 10) = .ok (.athrow, 1))
    (hout : ∀ x ∈ c.exceptionTable.toList, covers x (pc + 10) = false)
    (hRframes : names.length + 3 < R.frames) (hRlocals : (rest.map fun v => v.category).sum + (13 * (names.length + 1) + 43) ≤ R.locals) (hRcells : cells + 1 ≤ R.cells) (hRslots : slots + 6 ≤ R.slots) (hlocks : meth.locks = false)
    (hx : ∀ t : State, s.vm.Alike t.vm → H.size ≤ t.heap.size → (∀ q : Nat, q < H.size → t.heap[q]? = H[q]?) → XC cls s t)
    (hf : ∀ z ∈ locs, free z.base) (hc : cells + 1 ≤ mc) (hs : slots + 6 ≤ ms) :
    W p l e R s m args below meth c H locs cells slots (vx_MQ below Qc XC args s mc ms free) (F0 m pc ls rest) := by
  intro T hT X
  have htr : e.platform.stackTraces = false := (show e.platform.stackTraces = l.stackTraces by rw [X.admits.platform]).trans hl
  have Y := vx_rebase X (R' := { frames := R.frames, locals := R.locals, cells := 1, slots := 6 }) (Nat.le_refl _) (Nat.le_refl _) hRcells hRslots
  obtain ⟨s', hA⟩ : ∃ z, z = (T.setVm s.vm).setFrames (.invoking m args :: below) := ⟨_, rfl⟩
  rw [← hA] at Y
  have hvm : s'.vm = s.vm := by rw [hA]; rfl
  have hhp : s'.heap = H := by rw [hA]; exact hT
  have hW0 : s.WarmedH s'.vm := by rw [hvm]; exact State.WarmedH.refl s
  have hat' : ∀ w ∈ vx_atS own ic cls names, w.before args s' = true := fun w hw => vx_ot_at hW0 hvm.symm (hgood w (List.mem_cons_of_mem _ (List.mem_cons_of_mem _ hw))) (hat w hw)
  have hk' : (Cond.classLink own ik cls).before args s' = true := vx_ot_at hW0 hvm.symm (hgood _ List.mem_cons_self) hk
  have hini' : (Cond.initialized cls).before args s' = true := vx_ot_at hW0 hvm.symm (hgood _ (List.mem_cons_of_mem _ List.mem_cons_self)) hini
  have hU' : vx_Zq Bundle.tN "UNASSIGNED_STACK" Bundle.steD A s' s'.heap := by rw [hhp]; exact vx_Zq.moved hW0.alike (hU.kept hS.2.1)
  have hN' : vx_Zq Bundle.tN "SUPPRESSED_SENTINEL" Bundle.listD A s' s'.heap := by rw [hhp]; exact vx_Zq.moved hW0.alike (hN.kept hS.2.1)
  have h : ∀ w ∈ Bundle.ownAtoms own ic cls names, w.before args s' = true := vx_own hat' (vx_isRefq hU'.1) (vx_isRefq hN'.1) hU'.2.word hN'.2.word
  have hown' : s'.vm.findClass own = some m.cls := by rw [hvm]; exact hown
  have hins : (Cond.instantiable cls 6).before args s' = true := h _ (by simp [Bundle.ownAtoms])
  obtain ⟨vm₁, cX, kX, hfX, hkX, -, -, X₁, st1⟩ := Y.newCold hexec (own := own) (C := cls) (index := ik) (n := 6) hown' hk' hins hini'
    (g := F0 m pc ls rest) rfl (by rw [hb]; exact d0) (Nat.le_refl _) (Nat.le_refl _)
  generalize hT1 : (T.setVm vm₁).pushCell { cls := cX, slots := kX.instanceTypes.map defaultValue, vm := .none } = T1 at X₁ st1
  have hcat : (Value.ref T.heap.size).category = 1 := rfl
  have hcellA : T1.heap[T.heap.size]? = some (freshCell cX kX) := by rw [← hT1]; exact State.heap_pushCell_size _ _
  have d3' : decode c.code (pc + 3) = .ok (.dup, 1) := by rw [hb]; exact d3
  have d4' : decode c.code (pc + 4) = .ok (.ldc_w is, 3) := by rw [hb]; exact d4
  have hstr' : vk_R own is text sa s' := vk_R.warm hW0 hstr
  obtain ⟨U, hsteps, hrun, hend, hW, hsame, ce, hce, hO⟩ := X₁.ctorThrowS hexec htr (own := own) (cls := cls) (names := names) (ic := ic) hown' hcls hnames h (fun x hx => nomatch hx) hfX hkX hcellA (by rw [hhp, hT]; exact Nat.le_refl _) (msg := .ref sa) rfl
    (g := { method := m, pc := pc + 7, locals := ls, stack := .ref sa :: .ref T.heap.size :: .ref T.heap.size :: rest, locked := none }) rfl hsize rfl rfl (rest := rest) rfl
    (by rw [hb]; exact d7) (by rw [hb]; exact d10) hout hRframes (by simp only [List.map_cons, List.sum_cons, hcat]; omega) hlocks
  obtain ⟨f1, f2⟩ := vx_frame hsame
  rw [hhp] at f1 f2
  have hWs : s.WarmedH U.vm := State.WarmedH.trans hW0 hW
  have hcl : s.vm.findClass cls = some ce.cls := by
    have h9 := hO.cls
    rw [hvm] at h9
    exact h9
  have hall : s.sameButNew ({ U with vm := s.vm } : State) locs mc ms := by
    subst hA
    obtain ⟨e1, e2⟩ := hsame
    rw [State.setFrames_setFrames] at e1
    have h2 : (T.setVm s.vm).sameButNew ({ U with vm := s.vm } : State) [] (0 + 1) (0 + 6) := ⟨e1, e2⟩
    have h3 := X.same.trans h2
    rw [List.append_nil] at h3
    exact h3.mono hc hs
  refine ⟨U, ?_, .threw T.heap.size, hrun, hend, Or.inr ⟨T.heap.size, rfl, cls, ce, locs, hx U hWs.alike f1 (fun q hq => f2 q hq (fun z hz => nomatch hz)), hce, hO.vm, hcl, hWs, hall, hf⟩⟩
  refine st1 _ ?_
  show Steps p.tables e below (T1.setTop { method := m, pc := pc + 3, locals := ls, stack := .ref T.heap.size :: rest, locked := none }) _
  jvm_step X₁.here [X₁.here.top, hexec, d3', Value.category]
  exact X₁.ldcStringW hexec (own := own) (text := text) (index := is) (a := sa) hown' hstr'.1 hstr'.2
    (g := { method := m, pc := pc + 4, locals := ls, stack := .ref T.heap.size :: .ref T.heap.size :: rest, locked := none }) rfl d4' _ hsteps
end Ends
section Bodies
variable {l : Launch}
theorem vx_ofW {y : MethodName} {ws ws' : List Cond} {rm : Room} {Pc : Array Value → State → Prop} {Qc : Array Value → State → Outcome → State → Prop} {XC : String → State → State → Prop} {mc ms : Nat} {free : Addr → Prop} {cc : ByteArray} {maxL : Nat} {ret : Option FieldType}
    (hy : plainName y.cls = true) (hw : ws = Cond.code y cc maxL ret :: ws')
    (body : ∀ p e s m args below meth c s₁, BodyLoose p l y (headSpec ws rm) cc maxL ret e s m args below meth c s₁ → c.maxLocals = maxL → (∀ x ∈ c.exceptionTable.toList, False) → Pc args s →
      W p l e (headSpec ws rm).room s m args below meth c s.heap [] 0 0 (vx_MQ below Qc XC args s mc ms free) (entryFrame m args maxL)) : vx_Met l y ws rm Pc Qc XC mc ms free := by
  refine MetFree.of_bodyS (code := cc) (maxLocals := maxL) (ret := ret) hy ?_ ?_
  · intro args s m h hn
    obtain ⟨meth, c, h1, h2, h3, h4, h5, h6, -, -⟩ := Cond.code_spec hn (atoms_spec (ws := ws) h _ (by rw [hw]; exact List.mem_cons_self))
    exact ⟨meth, c, h1, h2, h3, h4, h5, h6⟩
  · intro p e s m args below meth c s₁ B hml hP _
    have hh0 : s₁.heap = s.heap := by rw [B.state]; rfl
    have ht : ∀ x ∈ c.exceptionTable.toList, False := by
      obtain ⟨meth9, c9, h1, h2, -, -, -, -, h7, -⟩ := Cond.code_spec B.named (atoms_spec (ws := ws) B.pre _ (by rw [hw]; exact List.mem_cons_self))
      cases Option.some.inj (h1.symm.trans B.method)
      cases Option.some.inj (h2.symm.trans (Stand.of_body B).code)
      intro x hx
      rw [Array.isEmpty_iff.mp h7] at hx
      cases hx
    obtain ⟨t, a1, o, b1, b2, b3⟩ := body p e s m args below meth c s₁ B hml ht hP s₁ hh0 (Stand.of_body B)
    exact ⟨t, o, a1, b1, b2, b3⟩
/-- the table of a body with handlers -/
theorem vx_table {p : Program} {x y : MethodName} {S : Spec} {cc bytes : ByteArray} {maxL maxL' : Nat} {ret ret' : Option FieldType} {e : Env} {s s₁ : State} {m : MethodId} {args : Array Value} {below : List Frame} {meth : Method} {c : Code} {hh : List (Nat × Nat × Nat × Nat)}
    (B : BodyLoose p l y S cc maxL ret e s m args below meth c s₁) (h : (Cond.codeWith y bytes maxL' ret' hh).before args s = true) : c.exceptionTable.toList = tableOf hh := by
  obtain ⟨m9, meth9, c9, hn9, h1, h2, -, -, h6, -⟩ := Cond.codeWith_spec h
  cases Option.some.inj (hn9.symm.trans B.named)
  cases Option.some.inj (h1.symm.trans B.method)
  cases Option.some.inj (h2.symm.trans (Stand.of_body B).code)
  rw [← h6, table_eq]
end Bodies
end VXA
/-! ===== END ===== -/
/-! ===== BEGIN a static call of a method with an exception table ===== -/
section VXS
variable {p : Program} {l : Launch} {e : Env} {R : Room} {s : State} {m : MethodId} {args : Array Value} {below : List Frame} {meth : Method} {c : Code} {T : State} {H : Heap} {locs : List Loc} {cells slots : Nat}
abbrev vx_CSW (R : Room) (s : State) (args : Array Value) (own : String) (index : Nat) (y : MethodName) (bytes : ByteArray) (maxL : Nat) (ret : Option FieldType) (hh : List (Nat × Nat × Nat × Nat)) (ws : List Cond) (rm : Room) (mc ms n : Nat) : Prop :=
  (rm.cells = mc ∧ rm.slots = ms ∧ rm.frames + 1 ≤ R.frames ∧ 8 + (maxL + 11) + rm.locals ≤ R.locals ∧ (∀ w ∈ ws, ∀ (a' : Array Value) (U : State), s.WarmedH U.vm → w.before a' U = true) ∧ Cond.codeWith y bytes maxL ret hh ∈ ws) ∧
  (Cond.codeWith y bytes maxL ret hh).before args s = true ∧ (Cond.initialized y.cls).before args s = true ∧ (y.cls ≠ "java/lang/invoke/MethodHandle" ∧ y.cls ≠ "java/lang/invoke/VarHandle") ∧
  (∀ sig, parseMethodDescriptor y.desc = some sig → n = sig.parameters.length) ∧ (Cond.methodLink own index y).before args s = true ∧ (Cond.static y).before args s = true
theorem vx_cwSW {own : String} {index maxL mc ms : Nat} {y : MethodName} {bytes : ByteArray} {ret : Option FieldType} {hh : List (Nat × Nat × Nat × Nat)} {Ts ws ws' : List Cond} {rm : Room} (n : Nat) (ht : ∀ w ∈ Ts, w.before args s = true) (hT : GoodIn Ts (va_wsS own index y ws)) (hw : ws = Cond.codeWith y bytes maxL ret hh :: ws') (hrc : rm.cells = mc) (hrs : rm.slots = ms)
    (hd : y.cls ≠ "java/lang/invoke/MethodHandle" ∧ y.cls ≠ "java/lang/invoke/VarHandle" ∧ (parseMethodDescriptor y.desc).map (fun d => d.parameters.length) = some n) (hR : rm.frames + 1 ≤ R.frames ∧ 8 + (maxL + 11) + rm.locals ≤ R.locals) :
    vx_CSW R s args own index y bytes maxL ret hh ws rm mc ms n := by
  have ok : ∀ w ∈ va_wsS own index y ws, w.before args s = true := fun w h => ht w (hT w h).1
  have hG : GoodIn Ts ws := fun w h => hT w (by unfold va_wsS; exact List.mem_append_right _ h)
  have hc : Cond.codeWith y bytes maxL ret hh ∈ ws := by rw [hw]; exact List.mem_cons_self
  refine ⟨⟨hrc, hrs, hR.1, hR.2, pay_in ht hG, hc⟩, ht _ (hG _ hc).1, ok _ (by simp [va_wsS]), ⟨hd.1, hd.2.1⟩, fun sig h => ?_, ok _ (by simp [va_wsS]), ok _ (by simp [va_wsS])⟩
  have h2 := hd.2.2
  rw [h] at h2
  exact (Option.some.inj h2).symm
theorem vx_callSW (X : Stand p l e R s m args below meth c T locs cells slots) (hexec : p.tables.exec = Jvm.exec) {own : String} {index : Nat} {y : MethodName} {bytes : ByteArray} {maxL : Nat} {ret : Option FieldType} {hh : List (Nat × Nat × Nat × Nat)}
    (hown : s.vm.findClass own = some m.cls) (hlink : (Cond.methodLink own index y).before args s = true) (hstat : (Cond.static y).before args s = true) (hinit : (Cond.initialized y.cls).before args s = true)
    (hcode : (Cond.codeWith y bytes maxL ret hh).before args s = true) (hy : y.cls ≠ "java/lang/invoke/MethodHandle" ∧ y.cls ≠ "java/lang/invoke/VarHandle")
    {W9 : Nat} {Pre : Pt → Array Value → Prop} {Post : Pt → Array Value → Option Value → Pt → Prop} (hK : Back l R p e below s args y 3 W9 Pre Post)
    {g : JFrame} (hg : g.method = m) (hsize : g.locals.size = c.maxLocals) {argsL rest : List Value} (hlen : ∀ sig, parseMethodDescriptor y.desc = some sig → argsL.length = sig.parameters.length)
    (hstack : g.stack = argsL.reverse ++ rest) (hW : 2 * g.monitorRoom + (rest.map fun v => v.category).sum ≤ W9) (hdg : decode c.code g.pc = .ok (.invokestatic index, 3))
    (hpre : ∀ vm₁, s.WarmedH vm₁ → Pre ⟨T.setVm vm₁, locs, cells, slots⟩ argsL.toArray) :
    ∃ (v : Option Value) (vm₁ : Vm) (B : Pt), s.WarmedH vm₁ ∧ Stand p l e R s m args below meth c B.U B.locs B.cells B.slots ∧ Post ⟨T.setVm vm₁, locs, cells, slots⟩ argsL.toArray v B ∧
      ∀ target, Steps p.tables e below (B.U.setTop { g with pc := g.pc + 3, stack := v.toList ++ rest }) target → Steps p.tables e below (T.setTop g) target := by
  obtain ⟨mk, methM, cM, hnamed, hmethM, -, -, -, -, -, -, hsigM⟩ := Cond.codeWith_spec hcode
  have hstatic : methM.isStatic = true := Cond.static_spec hnamed hmethM hstat
  obtain ⟨kP, hkP, -⟩ := className_of_methodNamed hnamed
  have hinitP : kP.init = .initialized := Cond.initialized_spec (findClass_of_methodNamed hnamed) hkP hinit
  obtain ⟨vm₁, X₁, hstep₁⟩ := X.invokestatic hexec hown hlink hnamed hmethM hstatic hkP hinitP hy (g := g) hg (argsL := argsL) (rest := rest) (hlen _ hsigM) hstack hdg
  obtain ⟨v, B, X', hpost, hsteps⟩ := hK m meth c ⟨T.setVm vm₁, locs, cells, slots⟩ { g with stack := rest } (.invokestatic index) mk argsL.toArray X₁ hg hsize hdg hW (X₁.named hnamed) (hpre vm₁ X₁.warmed)
  exact ⟨v, vm₁, B, X₁.warmed, X', hpost, fun target h => hstep₁ _ fun acts => by rw [doInvoke_state]; exact hsteps.trans h⟩
theorem vx_runSW {y : MethodName} {bytes cc : ByteArray} {maxL nL mc ms n index : Nat} {ret : Option FieldType} {hh : List (Nat × Nat × Nat × Nat)} {ws : List Cond} {rm : Room} {Pc : Array Value → State → Prop} {Qc : Array Value → State → Outcome → State → Prop} {free : Addr → Prop} {Ts : List Cond} {own : String} {As rest : List Value} {g : JFrame}
    (S : CallFix p m c cc nL s args Ts own) (hM : Met l y ws rm Pc Qc mc ms free) (cw : vx_CSW R s args own index y bytes maxL ret hh ws rm mc ms n) (hp : PreS s H Pc As)
    (hg : g.method = m) (hn : As.length = n) (hsize : g.locals.size = nL) (hstack : g.stack = As.reverse ++ rest) (hW : 2 * g.monitorRoom + (rest.map fun v => v.category).sum ≤ 8) (hdg : decode cc g.pc = .ok (.invokestatic index, 3)) (hf : cells + mc ≤ R.cells ∧ slots + ms ≤ R.slots) :
    va_Run p l e R s m args below meth c H locs cells slots mc ms g rest (Qc As.toArray) (free) := by
  obtain ⟨⟨hrc, hrs, hfr, hlo, hws, hcw⟩, hcode, hini, hy, hlen, hl, hstt⟩ := cw
  have hK : Back l R p e below s args y 3 8 (PreOf R mc ms Pc) (PostOf Qc mc ms free) := va_backW (hh := hh) (bytes := bytes) (maxL := maxL) (ret := ret) hM hp.1 hrc hrs hfr hlo hws hcw (fun a' U hW => word_at hW (Or.inl (by first | rfl | simp [Cond.onTables, Cond.keeps, Cond.steady])) hini)
  obtain ⟨hx, hb, hml, ho, -⟩ := S
  intro T hT X
  obtain ⟨v, vm₁, ⟨U', l2, c2, s2⟩, hW₁, X', ⟨g', mk, t, L, e1, e2, hq, h1, hL, h2, h3⟩, st⟩ := vx_callSW X hx (hh := hh) (bytes := bytes) (maxL := maxL) (ret := ret) ho hl hstt hini hcode hy hK hg (hsize.trans hml.symm) (argsL := As) (rest := rest) (fun sig h => hn.trans (hlen sig h)) hstack hW (by rw [hb]; exact hdg)
    (fun vm₁ hW₁ => ⟨hf.1, hf.2, hp.2 (T.setVm vm₁) hT hW₁⟩)
  dsimp only [Pt.U, Pt.locs, Pt.cells, Pt.slots] at X' e1 e2 h1 h2 h3 st
  subst h1; subst h2; subst h3
  exact ⟨v, (T.setVm vm₁).calling g' mk As.toArray, t, U', L, hT, X', hL, e1, e2, hq, st⟩
/-- not caught here, past rows that name other classes: it goes on to the caller -/
theorem vx_outP {p : Program} {l : Launch} {e : Env} {R : Room} {s : State} {m : MethodId} {args : Array Value} {below : List Frame} {meth : Method} {c : Code} {H : Heap} {locs : List Loc} {cells slots : Nat} {free : Addr → Prop} {ls : Array Slot} {rest : List Value} {Qc : Array Value → State → Outcome → State → Prop} {XC : String → State → State → Prop}
    {pc : Nat} {own E : String} {ce : Cell} {q : Addr} {mc ms : Nat} (hown : s.vm.findClass own = some m.cls) (hlocks : meth.locks = false)
    (hpass : ∀ z ∈ c.exceptionTable.toList, covers z pc = false ∨ (z.catchType ≠ 0 ∧ ∃ nm : String, (Cond.classLink own z.catchType nm).before args s = true ∧ va_Nc E nm s)) (hcell : H[q]? = some ce) (hv : ce.vm = .none) (hcl : s.vm.findClass E = some ce.cls)
    (hx : ∀ t : State, t.heap = H → s.vm.Alike t.vm → XC E s t) (hf : ∀ z ∈ locs, free z.base) (hc : cells ≤ mc) (hs : slots ≤ ms) :
    vx_W p l e R s m args below meth c H locs cells slots (vx_MQ below Qc XC args s mc ms free) (F0 m pc ls rest) q := by
  intro T hT X
  have hpl : e.platform.magicAccessors = ({} : Platform).magicAccessors := by rw [X.admits.platform]
  obtain ⟨vm', hW', X', st⟩ := X.outThrough hlocks q (g := F0 m pc ls rest) rfl rfl rfl (cell := ce) (by rw [hT]; exact hcell) (by rw [hv]; rfl)
    (by obtain ⟨k9, h9, -⟩ := Vm.findClass_spec hcl; exact ⟨k9, h9⟩) (fun z hz => by
      rcases hpass z hz with h | ⟨hz0, nm, hl1, hn1⟩
      · exact Or.inl h
      · obtain ⟨c6, hc6, hcl6⟩ := Cond.classLink_spec hown hl1 e.platform hpl
        obtain ⟨a8, b8, h1, h2, h3⟩ := hn1
        cases Option.some.inj (h1.symm.trans hcl)
        cases Option.some.inj (h2.symm.trans hc6)
        exact Or.inr ⟨hz0, _, hcl6, h3⟩)
  obtain ⟨g₀, hfr⟩ := X'.frames_eq
  have hcell9 : ((T.setVm vm').setFrames (.throwing q :: below)).heap[q]? = some ce := by
    show T.heap[q]? = some ce
    rw [hT]; exact hcell
  have hend : Ended ((T.setVm vm').setFrames (.throwing q :: below)) below (.threw q) := State.frames_setFrames _ (State.cur_lt_of_frames hfr)
  refine ⟨(T.setVm vm').setFrames (.throwing q :: below), ?_, .threw q, X'.here.running, hend, Or.inr ⟨q, rfl, E, ce, locs, hx _ hT (X'.ends _).1.alike, hcell9, hv, hcl, (X'.ends _).1, (X'.ends _).2.mono hc hs, hf⟩⟩
  rw [X.pushThrowing_eq]
  exact st
/-- a thing of a world lies in the heap -/
theorem vx_lt {D : va_G} {cl : List vw_C} {ws : va_W} {H1 : Heap} (h : va_P D cl ws H1) {k : Nat} {q : Nat × va_E} (hk : ws[k]? = some q) : q.1 < H1.size := (h k q hk).lt
end VXS
/-! ===== END ===== -/
/-! ===== BEGIN methods with a table of their own: called by a name, returning or throwing ===== -/
section VXH
/-! vx_backW, vx_callVX, vx_callSX, vx_callVW, vx_runVW, vx_runVX, vx_runSX, vx_ofWH follow the same proofs as their sisters above (Free/Laws.lean, Shelf42/LK1.lean); vx_outP calls Shelf42/NT130.lean (outThrough). -/
section
variable {l : Launch} {R : Room} {p : Program} {e : Env} {below : List Frame} {s : State} {sargs : Array Value} {y : MethodName} {len W9 : Nat}
theorem vx_backW {ws : List Cond} {rm : Room} {Pc : Array Value → State → Prop} {Qc : Array Value → State → Outcome → State → Prop} {XC : String → State → State → Prop} {mc ms : Nat} {free : Addr → Prop} {bytes : ByteArray} {maxL : Nat} {ret : Option FieldType} {hh : List (Nat × Nat × Nat × Nat)}
    (hM : vx_Met l y ws rm Pc Qc XC mc ms free) (hblind : FrameBlind Pc) (hrc : rm.cells = mc) (hrs : rm.slots = ms)
    (hframes : rm.frames + 1 ≤ R.frames) (hlocals : W9 + (maxL + 11) + rm.locals ≤ R.locals)
    (hws : ∀ w ∈ ws, ∀ a' U, s.WarmedH U.vm → w.before a' U = true) (hcode : Cond.codeWith y bytes maxL ret hh ∈ ws) (hinit : ∀ a' U, s.WarmedH U.vm → (Cond.initialized y.cls).before a' U = true) :
    vx_Back l R p e below s sargs y len W9 (PreOf R mc ms Pc) (PostOf Qc mc ms free) (vx_Post XC mc ms free) := by
  intro m meth c A g ig mk a X hg hsize hdg hW hn hp
  have h1 : (headSpec ws rm).pre.before a A.U = true := atoms_intro fun w hw => hws w hw _ _ X.warmed
  have h2 : (Cond.codeWith y bytes maxL ret hh).before a A.U = true := hws _ hcode _ _ X.warmed
  have h3 : (Cond.initialized y.cls).before a A.U = true := hinit _ _ X.warmed
  have h4 : A.cells + (headSpec ws rm).room.cells ≤ R.cells := by rw [show (headSpec ws rm).room.cells = mc from hrc]; exact hp.1
  have h5 : A.slots + (headSpec ws rm).room.slots ≤ R.slots := by rw [show (headSpec ws rm).room.slots = ms from hrs]; exact hp.2.1
  have hPc : Pc a (A.U.calling g mk a) := hblind _ _ _ _ hp.2.2
  obtain ⟨U, Ls, c0, s0⟩ := A
  dsimp only [Pt.U, Pt.locs, Pt.cells, Pt.slots] at h1 h2 h3 h4 h5 X hn hPc ⊢
  obtain ⟨m9, methY, cY, hn9, hmY, hcY, -, hlY, -⟩ := Cond.codeWith_spec h2
  cases Option.some.inj (hn9.symm.trans hn)
  obtain ⟨kY, hkY, -⟩ := className_of_methodNamed hn
  have hinitY : kY.init = .initialized := Cond.initialized_spec (findClass_of_methodNamed hn) hkY h3
  have h : At U g.method c below := by rw [hg]; exact X.here
  have hlocals9 : W9 + (maxL + 11) + (headSpec ws rm).room.locals ≤ R.locals := hlocals
  have happ : (headSpec ws rm).appliesLoose y e.platform (U.calling g mk a) = true :=
    Spec.appliesLoose_calling (g := g) h hdg hn hkY hinitY
      (X.room_calling (g := g) (R' := (headSpec ws rm).room) hsize hmY hcY hframes (by rw [hlY]; omega) h4 h5) h1
  obtain ⟨mid, hmid⟩ := h.above
  have hfr : (U.setTop g).frames = (.java g :: mid) ++ below := by rw [State.frames_setTop' g h.top, hmid]; rfl
  obtain ⟨o, s₂, hsteps, -, hend, hq⟩ := Steps.callFree hM p X.admits X.cas X.clock (acts := []) hfr happ hPc trivial
  have hq' : vx_Q Qc XC mc ms free a (U.calling g mk a) o s₂ := hq
  rw [State.frames_setTop' g h.top] at hend
  obtain ⟨g₀, hg0⟩ := Option.isSome_iff_exists.mp h.top
  obtain ⟨r, hr⟩ := State.topJava?_eq_some.mp hg0
  have hr' : (({ U with heap := s₂.heap, slotsUsed := s₂.slotsUsed } : State).setVm s₂.vm).frames = .java g₀ :: r := hr
  rcases hq' with ⟨hqc, L, hfe, hL⟩ | ⟨q, rfl, E, ce, L, hx, hce, hcv, hcl, hW₂, hsm, hL⟩
  · obtain ⟨⟨v, rfl⟩, hW₂, e2, q2, q3, q4, q5, q6⟩ := id hfe
    have e3 : s₂ = ({ (U.calling g mk a).setFrames s₂.frames with heap := s₂.heap, slotsUsed := s₂.slotsUsed } : State).setVm s₂.vm := by
      have : s₂ = ({ s₂ with vm := (U.calling g mk a).vm } : State).setVm s₂.vm := rfl
      rw [e2] at this
      exact this
    obtain ⟨c₂, i₂, len₂, hc₂, hd₂, hf₂⟩ := hend
    have hW' : U.WarmedH s₂.vm := hW₂
    have hcc : c₂ = c := by
      have h1 : s₂.code? g.method = U.code? g.method := by
        rw [State.code?_eq, State.code?_eq, hW'.alike.method?]
      exact Option.some.inj (hc₂.symm.trans (h1.trans h.code))
    subst hcc
    have hlen : len₂ = len := by rw [hdg] at hd₂; cases hd₂; rfl
    subst hlen
    have hs₂ : s₂ = (({ U with heap := s₂.heap, slotsUsed := s₂.slotsUsed } : State).setVm s₂.vm).setTop { g with pc := g.pc + len₂, stack := v.toList ++ g.stack } := by
      refine e3.trans ?_
      rw [hf₂, State.calling_eq h.top, State.setFrames_setFrames, State.setTop_of_frames _ hr', hr]
      rfl
    have hsame : U.sameButNew ({ U with heap := s₂.heap, slotsUsed := s₂.slotsUsed } : State) L mc ms := by
      refine ⟨?_, q2, q3, q4, q5, q6⟩
      obtain ⟨t, ht, -⟩ := State.frames_cons hr
      show ({ U with heap := s₂.heap, slotsUsed := s₂.slotsUsed } : State) = { U.setFrames U.frames with heap := s₂.heap, slotsUsed := s₂.slotsUsed }
      rw [State.setFrames_self ht]
    subst hg
    refine Or.inl ⟨v, ⟨(({ U with heap := s₂.heap, slotsUsed := s₂.slotsUsed } : State).setVm s₂.vm), Ls ++ L, c0 + mc, s0 + ms⟩,
      ⟨X.admits, X.cas, X.clock, X.frames, X.room, X.hears, X.method, X.code, (X.here.setHeapUsed s₂.heap s₂.slotsUsed).setVm hW'.alike, X.tail, State.WarmedH.trans X.warmed hW', X.limits, X.bytes, X.same.trans (hsame.setVm s.vm)⟩,
      ⟨g, mk, s₂, L, rfl, rfl, hqc, rfl, hL, rfl, rfl⟩, ?_⟩
    show Steps p.tables e below _ ((({ U with heap := s₂.heap, slotsUsed := s₂.slotsUsed } : State).setVm s₂.vm).setTop { g with pc := g.pc + len₂, stack := v.toList ++ g.stack })
    rw [← hs₂]
    exact hsteps
  · obtain ⟨e2, q2, q3, q4, q5, q6⟩ := id hsm
    have e3 : s₂ = ({ (U.calling g mk a).setFrames s₂.frames with heap := s₂.heap, slotsUsed := s₂.slotsUsed } : State).setVm s₂.vm := by
      have : s₂ = ({ s₂ with vm := (U.calling g mk a).vm } : State).setVm s₂.vm := rfl
      rw [e2] at this
      exact this
    have hf₂ : s₂.frames = .throwing q :: .java g :: U.frames.tail := hend
    have hW' : U.WarmedH s₂.vm := hW₂
    have hs₂ : s₂ = ((({ U with heap := s₂.heap, slotsUsed := s₂.slotsUsed } : State).setVm s₂.vm).setTop g).pushFrame (.throwing q) := by
      refine e3.trans ?_
      rw [hf₂, State.calling_eq h.top, State.setFrames_setFrames, State.pushFrame, State.frames_setTop _ hr', State.setTop_of_frames _ hr', State.setFrames_setFrames, hr]
      rfl
    have hsame : U.sameButNew ({ U with heap := s₂.heap, slotsUsed := s₂.slotsUsed } : State) L mc ms := by
      refine ⟨?_, q2, q3, q4, q5, q6⟩
      obtain ⟨t, ht, -⟩ := State.frames_cons hr
      show ({ U with heap := s₂.heap, slotsUsed := s₂.slotsUsed } : State) = { U.setFrames U.frames with heap := s₂.heap, slotsUsed := s₂.slotsUsed }
      rw [State.setFrames_self ht]
    subst hg
    refine Or.inr ⟨q, ⟨(({ U with heap := s₂.heap, slotsUsed := s₂.slotsUsed } : State).setVm s₂.vm), Ls ++ L, c0 + mc, s0 + ms⟩,
      ⟨X.admits, X.cas, X.clock, X.frames, X.room, X.hears, X.method, X.code, (X.here.setHeapUsed s₂.heap s₂.slotsUsed).setVm hW'.alike, X.tail, State.WarmedH.trans X.warmed hW', X.limits, X.bytes, X.same.trans (hsame.setVm s.vm)⟩,
      ⟨g, mk, s₂, L, E, ce, rfl, rfl, hx, hce, hcv, hcl, rfl, hL, rfl, rfl⟩, ?_⟩
    show Steps p.tables e below _ (((({ U with heap := s₂.heap, slotsUsed := s₂.slotsUsed } : State).setVm s₂.vm).setTop g).pushFrame (.throwing q))
    rw [← hs₂]
    exact hsteps
end
variable {p : Program} {l : Launch} {e : Env} {R : Room} {s : State} {m : MethodId} {args : Array Value} {below : List Frame} {meth : Method} {c : Code} {T : State} {H : Heap} {locs : List Loc} {cells slots : Nat}
theorem vx_callVX (X : Stand p l e R s m args below meth c T locs cells slots) (hexec : p.tables.exec = Jvm.exec) {own C : String} {index : Nat} {y : MethodName} {bytes : ByteArray} {maxL : Nat} {ret : Option FieldType} {hh : List (Nat × Nat × Nat × Nat)}
    (hown : s.vm.findClass own = some m.cls) (hlink : (Cond.methodLink own index y).before args s = true) (hinst : (Cond.instanceMethod y).before args s = true) (hsel : (Cond.selects C y y).before args s = true)
    (hcode : (Cond.codeWith y bytes maxL ret hh).before args s = true) (hy : y.cls ≠ "java/lang/invoke/MethodHandle" ∧ y.cls ≠ "java/lang/invoke/VarHandle")
    {W9 : Nat} {Pre : Pt → Array Value → Prop} {Post : Pt → Array Value → Option Value → Pt → Prop} {PostX : Pt → Array Value → Addr → Pt → Prop} (hK : vx_Back l R p e below s args y 3 W9 Pre Post PostX)
    {b : Addr} {cellB : Cell} (hcell : T.heap[b]? = some cellB) (hobj : cellB.vm.isStatics = false) (hcls : s.vm.findClass C = some cellB.cls)
    {g : JFrame} (hg : g.method = m) (hsize : g.locals.size = c.maxLocals) {argsL rest : List Value} (hlen : ∀ sig, parseMethodDescriptor y.desc = some sig → argsL.length = sig.parameters.length)
    (hstack : g.stack = argsL.reverse ++ .ref b :: rest) (hW : 2 * g.monitorRoom + (rest.map fun v => v.category).sum ≤ W9) (hdg : decode c.code g.pc = .ok (.invokevirtual index, 3))
    (hpre : ∀ vm₁, s.WarmedH vm₁ → Pre ⟨T.setVm vm₁, locs, cells, slots⟩ (Value.ref b :: argsL).toArray) :
    (∃ (v : Option Value) (vm₁ : Vm) (B : Pt), s.WarmedH vm₁ ∧ Stand p l e R s m args below meth c B.U B.locs B.cells B.slots ∧ Post ⟨T.setVm vm₁, locs, cells, slots⟩ (Value.ref b :: argsL).toArray v B ∧
      ∀ target, Steps p.tables e below (B.U.setTop { g with pc := g.pc + 3, stack := v.toList ++ rest }) target → Steps p.tables e below (T.setTop g) target) ∨
    (∃ (q : Addr) (vm₁ : Vm) (B : Pt), s.WarmedH vm₁ ∧ Stand p l e R s m args below meth c B.U B.locs B.cells B.slots ∧ PostX ⟨T.setVm vm₁, locs, cells, slots⟩ (Value.ref b :: argsL).toArray q B ∧
      Steps p.tables e below (T.setTop g) ((B.U.setTop { g with stack := rest }).pushFrame (.throwing q))) := by
  obtain ⟨mk, methM, hnamed, hmethM, hstM, habM⟩ := Cond.instanceMethod_spec hinst
  obtain ⟨m8, methM', cM, hn8, hmethM', -, -, -, -, -, -, hsigM⟩ := Cond.codeWith_spec hcode
  cases Option.some.inj (hn8.symm.trans hnamed)
  cases hmethM.symm.trans hmethM'
  obtain ⟨c2, r2, m2, q1, q2, q3, q4, kP, hkP, hkPi⟩ := Cond.selects_spec hsel
  cases hcls.symm.trans q1
  cases (State.methodFound?_of_named hnamed hy).symm.trans q2
  cases hnamed.symm.trans q3
  have hselP : selectMethod e.platform s.vm cellB.cls mk = .method mk := by rw [Launch.admits_selectMethod X.admits]; exact q4
  obtain ⟨vm₁, X₁, hstep₁⟩ := X.invokevirtual hexec hown hlink hnamed hmethM hstM hkP hkPi hy (a := b) (cell := cellB) hcell
    (fun z h => by rw [h] at hobj; cases hobj) hselP hmethM habM hkP hkPi (g := g) hg (argsL := argsL) (rest := rest) (hlen _ hsigM) hstack hdg
  rcases hK m meth c ⟨T.setVm vm₁, locs, cells, slots⟩ { g with stack := rest } (.invokevirtual index) mk (Value.ref b :: argsL).toArray X₁ hg hsize hdg hW (X₁.named hnamed) (hpre vm₁ X₁.warmed) with ⟨v, B, X', hpost, hsteps⟩ | ⟨q, B, X', hpost, hsteps⟩
  · exact Or.inl ⟨v, vm₁, B, X₁.warmed, X', hpost, fun target h => hstep₁ _ fun acts => by rw [doInvoke_state]; exact hsteps.trans h⟩
  · exact Or.inr ⟨q, vm₁, B, X₁.warmed, X', hpost, hstep₁ _ fun acts => by rw [doInvoke_state]; exact hsteps⟩
theorem vx_callSX (X : Stand p l e R s m args below meth c T locs cells slots) (hexec : p.tables.exec = Jvm.exec) {own : String} {index : Nat} {y : MethodName} {bytes : ByteArray} {maxL : Nat} {ret : Option FieldType} {hh : List (Nat × Nat × Nat × Nat)}
    (hown : s.vm.findClass own = some m.cls) (hlink : (Cond.methodLink own index y).before args s = true) (hstat : (Cond.static y).before args s = true) (hinit : (Cond.initialized y.cls).before args s = true)
    (hcode : (Cond.codeWith y bytes maxL ret hh).before args s = true) (hy : y.cls ≠ "java/lang/invoke/MethodHandle" ∧ y.cls ≠ "java/lang/invoke/VarHandle")
    {W9 : Nat} {Pre : Pt → Array Value → Prop} {Post : Pt → Array Value → Option Value → Pt → Prop} {PostX : Pt → Array Value → Addr → Pt → Prop} (hK : vx_Back l R p e below s args y 3 W9 Pre Post PostX)
    {g : JFrame} (hg : g.method = m) (hsize : g.locals.size = c.maxLocals) {argsL rest : List Value} (hlen : ∀ sig, parseMethodDescriptor y.desc = some sig → argsL.length = sig.parameters.length)
    (hstack : g.stack = argsL.reverse ++ rest) (hW : 2 * g.monitorRoom + (rest.map fun v => v.category).sum ≤ W9) (hdg : decode c.code g.pc = .ok (.invokestatic index, 3))
    (hpre : ∀ vm₁, s.WarmedH vm₁ → Pre ⟨T.setVm vm₁, locs, cells, slots⟩ argsL.toArray) :
    (∃ (v : Option Value) (vm₁ : Vm) (B : Pt), s.WarmedH vm₁ ∧ Stand p l e R s m args below meth c B.U B.locs B.cells B.slots ∧ Post ⟨T.setVm vm₁, locs, cells, slots⟩ argsL.toArray v B ∧
      ∀ target, Steps p.tables e below (B.U.setTop { g with pc := g.pc + 3, stack := v.toList ++ rest }) target → Steps p.tables e below (T.setTop g) target) ∨
    (∃ (q : Addr) (vm₁ : Vm) (B : Pt), s.WarmedH vm₁ ∧ Stand p l e R s m args below meth c B.U B.locs B.cells B.slots ∧ PostX ⟨T.setVm vm₁, locs, cells, slots⟩ argsL.toArray q B ∧
      Steps p.tables e below (T.setTop g) ((B.U.setTop { g with stack := rest }).pushFrame (.throwing q))) := by
  obtain ⟨mk, methM, cM, hnamed, hmethM, -, -, -, -, -, -, hsigM⟩ := Cond.codeWith_spec hcode
  have hstatic : methM.isStatic = true := Cond.static_spec hnamed hmethM hstat
  obtain ⟨kP, hkP, -⟩ := className_of_methodNamed hnamed
  have hinitP : kP.init = .initialized := Cond.initialized_spec (findClass_of_methodNamed hnamed) hkP hinit
  obtain ⟨vm₁, X₁, hstep₁⟩ := X.invokestatic hexec hown hlink hnamed hmethM hstatic hkP hinitP hy (g := g) hg (argsL := argsL) (rest := rest) (hlen _ hsigM) hstack hdg
  rcases hK m meth c ⟨T.setVm vm₁, locs, cells, slots⟩ { g with stack := rest } (.invokestatic index) mk argsL.toArray X₁ hg hsize hdg hW (X₁.named hnamed) (hpre vm₁ X₁.warmed) with ⟨v, B, X', hpost, hsteps⟩ | ⟨q, B, X', hpost, hsteps⟩
  · exact Or.inl ⟨v, vm₁, B, X₁.warmed, X', hpost, fun target h => hstep₁ _ fun acts => by rw [doInvoke_state]; exact hsteps.trans h⟩
  · exact Or.inr ⟨q, vm₁, B, X₁.warmed, X', hpost, hstep₁ _ fun acts => by rw [doInvoke_state]; exact hsteps⟩
theorem vx_callVW (X : Stand p l e R s m args below meth c T locs cells slots) (hexec : p.tables.exec = Jvm.exec) {own C : String} {index : Nat} {y : MethodName} {bytes : ByteArray} {maxL : Nat} {ret : Option FieldType} {hh : List (Nat × Nat × Nat × Nat)}
    (hown : s.vm.findClass own = some m.cls) (hlink : (Cond.methodLink own index y).before args s = true) (hinst : (Cond.instanceMethod y).before args s = true) (hsel : (Cond.selects C y y).before args s = true)
    (hcode : (Cond.codeWith y bytes maxL ret hh).before args s = true) (hy : y.cls ≠ "java/lang/invoke/MethodHandle" ∧ y.cls ≠ "java/lang/invoke/VarHandle")
    {W9 : Nat} {Pre : Pt → Array Value → Prop} {Post : Pt → Array Value → Option Value → Pt → Prop} (hK : Back l R p e below s args y 3 W9 Pre Post)
    {b : Addr} {cellB : Cell} (hcell : T.heap[b]? = some cellB) (hobj : cellB.vm.isStatics = false) (hcls : s.vm.findClass C = some cellB.cls)
    {g : JFrame} (hg : g.method = m) (hsize : g.locals.size = c.maxLocals) {argsL rest : List Value} (hlen : ∀ sig, parseMethodDescriptor y.desc = some sig → argsL.length = sig.parameters.length)
    (hstack : g.stack = argsL.reverse ++ .ref b :: rest) (hW : 2 * g.monitorRoom + (rest.map fun v => v.category).sum ≤ W9) (hdg : decode c.code g.pc = .ok (.invokevirtual index, 3))
    (hpre : ∀ vm₁, s.WarmedH vm₁ → Pre ⟨T.setVm vm₁, locs, cells, slots⟩ (Value.ref b :: argsL).toArray) :
    ∃ (v : Option Value) (vm₁ : Vm) (B : Pt), s.WarmedH vm₁ ∧ Stand p l e R s m args below meth c B.U B.locs B.cells B.slots ∧ Post ⟨T.setVm vm₁, locs, cells, slots⟩ (Value.ref b :: argsL).toArray v B ∧
      ∀ target, Steps p.tables e below (B.U.setTop { g with pc := g.pc + 3, stack := v.toList ++ rest }) target → Steps p.tables e below (T.setTop g) target := by
  obtain ⟨mk, methM, hnamed, hmethM, hstM, habM⟩ := Cond.instanceMethod_spec hinst
  obtain ⟨m8, methM', cM, hn8, hmethM', -, -, -, -, -, -, hsigM⟩ := Cond.codeWith_spec hcode
  cases Option.some.inj (hn8.symm.trans hnamed)
  cases hmethM.symm.trans hmethM'
  obtain ⟨c2, r2, m2, q1, q2, q3, q4, kP, hkP, hkPi⟩ := Cond.selects_spec hsel
  cases hcls.symm.trans q1
  cases (State.methodFound?_of_named hnamed hy).symm.trans q2
  cases hnamed.symm.trans q3
  have hselP : selectMethod e.platform s.vm cellB.cls mk = .method mk := by rw [Launch.admits_selectMethod X.admits]; exact q4
  obtain ⟨vm₁, X₁, hstep₁⟩ := X.invokevirtual hexec hown hlink hnamed hmethM hstM hkP hkPi hy (a := b) (cell := cellB) hcell
    (fun z h => by rw [h] at hobj; cases hobj) hselP hmethM habM hkP hkPi (g := g) hg (argsL := argsL) (rest := rest) (hlen _ hsigM) hstack hdg
  obtain ⟨v, B, X', hpost, hsteps⟩ := hK m meth c ⟨T.setVm vm₁, locs, cells, slots⟩ { g with stack := rest } (.invokevirtual index) mk (Value.ref b :: argsL).toArray X₁ hg hsize hdg hW (X₁.named hnamed) (hpre vm₁ X₁.warmed)
  exact ⟨v, vm₁, B, X₁.warmed, X', hpost, fun target h => hstep₁ _ fun acts => by rw [doInvoke_state]; exact hsteps.trans h⟩
abbrev vx_CVW (R : Room) (s : State) (args : Array Value) (own C : String) (index : Nat) (y : MethodName) (bytes : ByteArray) (maxL : Nat) (ret : Option FieldType) (hh : List (Nat × Nat × Nat × Nat)) (ws : List Cond) (rm : Room) (mc ms n : Nat) : Prop :=
  (rm.cells = mc ∧ rm.slots = ms ∧ rm.frames + 1 ≤ R.frames ∧ 8 + (maxL + 11) + rm.locals ≤ R.locals ∧ (∀ w ∈ ws, ∀ (a' : Array Value) (U : State), s.WarmedH U.vm → w.before a' U = true) ∧ Cond.codeWith y bytes maxL ret hh ∈ ws) ∧
  (Cond.codeWith y bytes maxL ret hh).before args s = true ∧ (Cond.initialized y.cls).before args s = true ∧ (y.cls ≠ "java/lang/invoke/MethodHandle" ∧ y.cls ≠ "java/lang/invoke/VarHandle") ∧
  (∀ sig, parseMethodDescriptor y.desc = some sig → n = sig.parameters.length) ∧ (Cond.methodLink own index y).before args s = true ∧ (Cond.instanceMethod y).before args s = true ∧ (Cond.selects C y y).before args s = true
theorem vx_cwVW {own C : String} {index maxL mc ms : Nat} {y : MethodName} {bytes : ByteArray} {ret : Option FieldType} {hh : List (Nat × Nat × Nat × Nat)} {Ts ws ws' : List Cond} {rm : Room} (n : Nat) (ht : ∀ w ∈ Ts, w.before args s = true) (hT : GoodIn Ts (wsV own index C y ws)) (hw : ws = Cond.codeWith y bytes maxL ret hh :: ws') (hrc : rm.cells = mc) (hrs : rm.slots = ms)
    (hd : y.cls = C ∧ y.cls ≠ "java/lang/invoke/MethodHandle" ∧ y.cls ≠ "java/lang/invoke/VarHandle" ∧ (parseMethodDescriptor y.desc).map (fun d => d.parameters.length) = some n) (hR : rm.frames + 1 ≤ R.frames ∧ 8 + (maxL + 11) + rm.locals ≤ R.locals) :
    vx_CVW R s args own C index y bytes maxL ret hh ws rm mc ms n := by
  obtain ⟨hC, hd⟩ := hd
  subst hC
  have ok : ∀ w ∈ wsV own index y.cls y ws, w.before args s = true := fun w h => ht w (hT w h).1
  have hG : GoodIn Ts ws := fun w h => hT w (by unfold wsV; exact List.mem_append_right _ h)
  have hc : Cond.codeWith y bytes maxL ret hh ∈ ws := by rw [hw]; exact List.mem_cons_self
  refine ⟨⟨hrc, hrs, hR.1, hR.2, pay_in ht hG, hc⟩, ht _ (hG _ hc).1, ok _ (by simp [wsV]), ⟨hd.1, hd.2.1⟩, fun sig h => ?_, ok _ (by simp [wsV]), ok _ (by simp [wsV]), ok _ (by simp [wsV])⟩
  have h2 := hd.2.2
  rw [h] at h2
  exact (Option.some.inj h2).symm
theorem vx_runVW {y : MethodName} {bytes cc : ByteArray} {maxL nL mc ms n index : Nat} {ret : Option FieldType} {hh : List (Nat × Nat × Nat × Nat)} {ws : List Cond} {rm : Room} {Pc : Array Value → State → Prop} {Qc : Array Value → State → Outcome → State → Prop} {free : Addr → Prop} {Ts : List Cond} {own C : String} {b : Addr} {As rest : List Value} {g : JFrame}
    (S : CallFix p m c cc nL s args Ts own) (hM : Met l y ws rm Pc Qc mc ms free) (cw : vx_CVW R s args own C index y bytes maxL ret hh ws rm mc ms n) (hp : PreV s H C b Pc As)
    (hg : g.method = m) (hn : As.length = n) (hsize : g.locals.size = nL) (hstack : g.stack = As.reverse ++ .ref b :: rest) (hW : 2 * g.monitorRoom + (rest.map fun v => v.category).sum ≤ 8) (hdg : decode cc g.pc = .ok (.invokevirtual index, 3)) (hf : cells + mc ≤ R.cells ∧ slots + ms ≤ R.slots) :
    va_Run p l e R s m args below meth c H locs cells slots mc ms g rest (Qc (Value.ref b :: As).toArray) free := by
  obtain ⟨⟨hrc, hrs, hfr, hlo, hws, hcw⟩, hcode, hini, hy, hlen, hl, hin, hse⟩ := cw
  have hK : Back l R p e below s args y 3 8 (PreOf R mc ms Pc) (PostOf Qc mc ms free) := va_backW (hh := hh) (bytes := bytes) (maxL := maxL) (ret := ret) hM hp.1 hrc hrs hfr hlo hws hcw (fun a' U hW => word_at hW (Or.inl (by first | rfl | simp [Cond.onTables, Cond.keeps, Cond.steady])) hini)
  obtain ⟨hx, hb, hml, ho, -⟩ := S
  obtain ⟨-, ⟨cellB, hcB, hoB, hclB⟩, hPc⟩ := hp
  intro T hT X
  obtain ⟨v, vm₁, ⟨U', l2, c2, s2⟩, hW₁, X', ⟨g', mk, t, L, e1, e2, hq, h1, hL, h2, h3⟩, st⟩ := vx_callVW X hx (C := C) (hh := hh) (bytes := bytes) (maxL := maxL) (ret := ret) ho hl hin hse hcode hy hK (by rw [hT]; exact hcB) hoB hclB hg (hsize.trans hml.symm) (argsL := As) (rest := rest) (fun sig h => hn.trans (hlen sig h)) hstack hW (by rw [hb]; exact hdg)
    (fun vm₁ hW₁ => ⟨hf.1, hf.2, hPc (T.setVm vm₁) hT hW₁⟩)
  dsimp only [Pt.U, Pt.locs, Pt.cells, Pt.slots] at X' e1 e2 h1 h2 h3 st
  subst h1; subst h2; subst h3
  exact ⟨v, (T.setVm vm₁).calling g' mk (Value.ref b :: As).toArray, t, U', L, hT, X', hL, e1, e2, hq, st⟩
section
variable {y : MethodName} {bytes cc : ByteArray} {maxL nL mc ms n index : Nat} {ret : Option FieldType} {ws : List Cond} {rm : Room} {Pc : Array Value → State → Prop} {Qc : Array Value → State → Outcome → State → Prop} {XC : String → State → State → Prop} {free : Addr → Prop} {Ts : List Cond} {own C : String} {b : Addr} {As rest : List Value} {g : JFrame}
theorem vx_runVX {hh : List (Nat × Nat × Nat × Nat)} (S : CallFix p m c cc nL s args Ts own) (hM : vx_Met l y ws rm Pc Qc XC mc ms free) (cw : vx_CVW R s args own C index y bytes maxL ret hh ws rm mc ms n) (hp : PreV s H C b Pc As)
    (hg : g.method = m) (hn : As.length = n) (hsize : g.locals.size = nL) (hstack : g.stack = As.reverse ++ .ref b :: rest) (hW : 2 * g.monitorRoom + (rest.map fun v => v.category).sum ≤ 8) (hdg : decode cc g.pc = .ok (.invokevirtual index, 3)) (hf : cells + mc ≤ R.cells ∧ slots + ms ≤ R.slots) :
    vx_Run p l e R s m args below meth c H locs cells slots mc ms g rest (Qc (Value.ref b :: As).toArray) XC free := by
  obtain ⟨⟨hrc, hrs, hfr, hlo, hws, hcw⟩, hcode, hini, hy, hlen, hl, hin, hse⟩ := cw
  have hK : vx_Back l R p e below s args y 3 8 (PreOf R mc ms Pc) (PostOf Qc mc ms free) (vx_Post XC mc ms free) := vx_backW (hh := hh) (bytes := bytes) (maxL := maxL) (ret := ret) hM hp.1 hrc hrs hfr hlo hws hcw (fun a' U hW => word_at hW (Or.inl (by first | rfl | simp [Cond.onTables, Cond.keeps, Cond.steady])) hini)
  obtain ⟨hx, hb, hml, ho, -⟩ := S
  obtain ⟨-, ⟨cellB, hcB, hoB, hclB⟩, hPc⟩ := hp
  intro T hT X
  rcases vx_callVX X hx (C := C) (hh := hh) (bytes := bytes) (maxL := maxL) (ret := ret) ho hl hin hse hcode hy hK (by rw [hT]; exact hcB) hoB hclB hg (hsize.trans hml.symm) (argsL := As) (rest := rest) (fun sig h => hn.trans (hlen sig h)) hstack hW (by rw [hb]; exact hdg)
    (fun vm₁ hW₁ => ⟨hf.1, hf.2, hPc (T.setVm vm₁) hT hW₁⟩) with ⟨v, vm₁, ⟨U', l2, c2, s2⟩, hW₁, X', ⟨g', mk, t, L, e1, e2, hq, h1, hL, h2, h3⟩, st⟩ | ⟨q, vm₁, ⟨U', l2, c2, s2⟩, hW₁, X', ⟨g', mk, t, L, E, ce, e1, e2, hq, hce, hcv, hcl, h1, hL, h2, h3⟩, st⟩
  · dsimp only [Pt.U, Pt.locs, Pt.cells, Pt.slots] at X' e1 e2 h1 h2 h3 st
    subst h1; subst h2; subst h3
    exact Or.inl ⟨v, (T.setVm vm₁).calling g' mk (Value.ref b :: As).toArray, t, U', L, hT, X', hL, e1, e2, hq, st⟩
  · dsimp only [Pt.U, Pt.locs, Pt.cells, Pt.slots] at X' e1 e2 h1 h2 h3 st hcl
    subst h1; subst h2; subst h3
    exact Or.inr ⟨q, (T.setVm vm₁).calling g' mk (Value.ref b :: As).toArray, t, U', L, E, ce, hT, X', hL, e1, e2, hq, hce, hcv, vx_cls hW₁ hcl, st⟩
theorem vx_runSX {hh : List (Nat × Nat × Nat × Nat)} (S : CallFix p m c cc nL s args Ts own) (hM : vx_Met l y ws rm Pc Qc XC mc ms free) (cw : vx_CSW R s args own index y bytes maxL ret hh ws rm mc ms n) (hp : PreS s H Pc As)
    (hg : g.method = m) (hn : As.length = n) (hsize : g.locals.size = nL) (hstack : g.stack = As.reverse ++ rest) (hW : 2 * g.monitorRoom + (rest.map fun v => v.category).sum ≤ 8) (hdg : decode cc g.pc = .ok (.invokestatic index, 3)) (hf : cells + mc ≤ R.cells ∧ slots + ms ≤ R.slots) :
    vx_Run p l e R s m args below meth c H locs cells slots mc ms g rest (Qc As.toArray) XC free := by
  obtain ⟨⟨hrc, hrs, hfr, hlo, hws, hcw⟩, hcode, hini, hy, hlen, hl, hstt⟩ := cw
  have hK : vx_Back l R p e below s args y 3 8 (PreOf R mc ms Pc) (PostOf Qc mc ms free) (vx_Post XC mc ms free) := vx_backW (hh := hh) (bytes := bytes) (maxL := maxL) (ret := ret) hM hp.1 hrc hrs hfr hlo hws hcw (fun a' U hW => word_at hW (Or.inl (by first | rfl | simp [Cond.onTables, Cond.keeps, Cond.steady])) hini)
  obtain ⟨hx, hb, hml, ho, -⟩ := S
  intro T hT X
  rcases vx_callSX X hx (hh := hh) (bytes := bytes) (maxL := maxL) (ret := ret) ho hl hstt hini hcode hy hK hg (hsize.trans hml.symm) (argsL := As) (rest := rest) (fun sig h => hn.trans (hlen sig h)) hstack hW (by rw [hb]; exact hdg)
    (fun vm₁ hW₁ => ⟨hf.1, hf.2, hp.2 (T.setVm vm₁) hT hW₁⟩) with ⟨v, vm₁, ⟨U', l2, c2, s2⟩, hW₁, X', ⟨g', mk, t, L, e1, e2, hq, h1, hL, h2, h3⟩, st⟩ | ⟨q, vm₁, ⟨U', l2, c2, s2⟩, hW₁, X', ⟨g', mk, t, L, E, ce, e1, e2, hq, hce, hcv, hcl, h1, hL, h2, h3⟩, st⟩
  · dsimp only [Pt.U, Pt.locs, Pt.cells, Pt.slots] at X' e1 e2 h1 h2 h3 st
    subst h1; subst h2; subst h3
    exact Or.inl ⟨v, (T.setVm vm₁).calling g' mk As.toArray, t, U', L, hT, X', hL, e1, e2, hq, st⟩
  · dsimp only [Pt.U, Pt.locs, Pt.cells, Pt.slots] at X' e1 e2 h1 h2 h3 st hcl
    subst h1; subst h2; subst h3
    exact Or.inr ⟨q, (T.setVm vm₁).calling g' mk As.toArray, t, U', L, E, ce, hT, X', hL, e1, e2, hq, hce, hcv, vx_cls hW₁ hcl, st⟩
end
end VXH
theorem vx_ofWH {l : Launch} {y : MethodName} {ws ws' : List Cond} {rm : Room} {Pc : Array Value → State → Prop} {Qc : Array Value → State → Outcome → State → Prop} {XC : String → State → State → Prop} {mc ms : Nat} {free : Addr → Prop} {cc : ByteArray} {maxL : Nat} {ret : Option FieldType} {hh : List (Nat × Nat × Nat × Nat)}
    (hy : plainName y.cls = true) (hw : ws = Cond.codeWith y cc maxL ret hh :: ws')
    (body : ∀ p e s m args below meth c s₁, BodyLoose p l y (headSpec ws rm) cc maxL ret e s m args below meth c s₁ → c.maxLocals = maxL → Pc args s →
      W p l e (headSpec ws rm).room s m args below meth c s.heap [] 0 0 (vx_MQ below Qc XC args s mc ms free) (entryFrame m args maxL)) : vx_Met l y ws rm Pc Qc XC mc ms free := by
  refine MetFree.of_bodyS (code := cc) (maxLocals := maxL) (ret := ret) hy ?_ ?_
  · intro args s m h hn
    obtain ⟨m9, meth, c, hn9, h1, h2, h3, h4, -, h5, h6, -⟩ := Cond.codeWith_spec (atoms_spec (ws := ws) h _ (by rw [hw]; exact List.mem_cons_self))
    cases hn.symm.trans hn9
    exact ⟨meth, c, h1, h2, h3, h4, h5, h6⟩
  · intro p e s m args below meth c s₁ B hml hP _
    have hh0 : s₁.heap = s.heap := by rw [B.state]; rfl
    obtain ⟨t, a1, o, b1, b2, b3⟩ := body p e s m args below meth c s₁ B hml hP s₁ hh0 (Stand.of_body B)
    exact ⟨t, o, a1, b1, b2, b3⟩
/-! ===== END ===== -/
end
section
/-! ===== BEGIN printed: names, fields, word lists, decode rows ===== -/
def RX0 : String := "AqueductTanks$Land"
def TX0 : u_T := fun k => match k with
  | 0 => ("AqueductTanks$Land", "tanks", "[[I", true)
  | 1 => ("AqueductTanks$Land", "pipes", "[[I", true)
  | 2 => ("AqueductTanks$Land", "tankCount", "I", false)
  | 3 => ("AqueductTanks$Land", "pipeCount", "I", false)
  | _ => ("AqueductTanks$Land", "day", "I", false)
def tyX0 : Nat → FieldType := fun k => match k with
  | 0 => .array (.array .int)
  | 1 => .array (.array .int)
  | 2 => .int
  | 3 => .int
  | _ => .int
abbrev wsX00 : List Cond := u_ws RX0 TX0 5
theorem nmX0 : ∀ a, a < 5 → ∀ b, b < 5 → a ≠ b → (TX0 a).2.1 ≠ (TX0 b).2.1 := by decide +kernel
theorem tyX0_ok : ∀ k, k < 5 → parseFieldDescriptor (TX0 k).2.2.1 = some (tyX0 k) := by decide +kernel
abbrev cX0_init : ByteArray := prog_2_method_1_code
def yX0_init : MethodName := ⟨RX0, "<init>", "()V"⟩
abbrev cX0_addTank : ByteArray := prog_2_method_2_code
def yX0_addTank : MethodName := ⟨RX0, "addTank", "(III)I"⟩
abbrev cX0_addPipe : ByteArray := prog_2_method_3_code
def yX0_addPipe : MethodName := ⟨RX0, "addPipe", "(IIII)I"⟩
abbrev cX0_copyFrom : ByteArray := prog_2_method_4_code
def yX0_copyFrom : MethodName := ⟨RX0, "copyFrom", "(LAqueductTanks$Land;)V"⟩
abbrev cX0_ofPipe : ByteArray := prog_2_method_5_code
def yX0_ofPipe : MethodName := ⟨RX0, "ofPipe", "(II)I"⟩
abbrev cX0_ofAll : ByteArray := prog_2_method_6_code
def yX0_ofAll : MethodName := ⟨RX0, "ofAll", "(I)I"⟩
abbrev cX0_sumOfTanks : ByteArray := prog_2_method_7_code
def yX0_sumOfTanks : MethodName := ⟨RX0, "sumOfTanks", "(I)I"⟩
abbrev cX0_sumOfPipes : ByteArray := prog_2_method_8_code
def yX0_sumOfPipes : MethodName := ⟨RX0, "sumOfPipes", "(I)I"⟩
abbrev cX0_isThirsty : ByteArray := prog_2_method_9_code
def yX0_isThirsty : MethodName := ⟨RX0, "isThirsty", "(I)Z"⟩
abbrev cX0_thirstyTanks : ByteArray := prog_2_method_10_code
def yX0_thirstyTanks : MethodName := ⟨RX0, "thirstyTanks", "()I"⟩
abbrev cX0_reachedFrom : ByteArray := prog_2_method_11_code
def yX0_reachedFrom : MethodName := ⟨RX0, "reachedFrom", "(I)I"⟩
abbrev cX0_whatCanFlow : ByteArray := prog_2_method_12_code
def yX0_whatCanFlow : MethodName := ⟨RX0, "whatCanFlow", "(I)I"⟩
abbrev cX0_head : ByteArray := prog_2_method_13_code
def yX0_head : MethodName := ⟨RX0, "head", "([I)I"⟩
abbrev cX0_drunkIn : ByteArray := prog_2_method_14_code
def yX0_drunkIn : MethodName := ⟨RX0, "drunkIn", "(I)I"⟩
abbrev cX0_goThroughDay : ByteArray := prog_2_method_15_code
def yX0_goThroughDay : MethodName := ⟨RX0, "goThroughDay", "()V"⟩
abbrev cX0_feed : ByteArray := prog_2_method_16_code
def yX0_feed : MethodName := ⟨RX0, "feed", "([I)V"⟩
abbrev cX0_flowThrough : ByteArray := prog_2_method_17_code
def yX0_flowThrough : MethodName := ⟨RX0, "flowThrough", "(I)V"⟩
abbrev cX0_wanderMud : ByteArray := prog_2_method_18_code
def yX0_wanderMud : MethodName := ⟨RX0, "wanderMud", "([I[II)V"⟩
abbrev cX0_takeInWater : ByteArray := prog_2_method_19_code
def yX0_takeInWater : MethodName := ⟨RX0, "takeInWater", "([II)V"⟩
abbrev cX0_takeInMud : ByteArray := prog_2_method_20_code
def yX0_takeInMud : MethodName := ⟨RX0, "takeInMud", "([II)V"⟩
abbrev cX0_growCrusts : ByteArray := prog_2_method_21_code
def yX0_growCrusts : MethodName := ⟨RX0, "growCrusts", "()V"⟩
abbrev cX0_drinkFrom : ByteArray := prog_2_method_22_code
def yX0_drinkFrom : MethodName := ⟨RX0, "drinkFrom", "([I)V"⟩
def RX1 : String := "AqueductTanks"
def TX1 : u_T := fun k => match k with
  | 0 => ("AqueductTanks", "land", "LAqueductTanks$Land;", true)
  | _ => ("AqueductTanks", "trial", "LAqueductTanks$Land;", true)
def tyX1 : Nat → FieldType := fun k => match k with
  | 0 => .object "AqueductTanks$Land"
  | _ => .object "AqueductTanks$Land"
abbrev wsX10 : List Cond := u_ws RX1 TX1 2
theorem nmX1 : ∀ a, a < 2 → ∀ b, b < 2 → a ≠ b → (TX1 a).2.1 ≠ (TX1 b).2.1 := by decide +kernel
theorem tyX1_ok : ∀ k, k < 2 → parseFieldDescriptor (TX1 k).2.2.1 = some (tyX1 k) := by decide +kernel
abbrev cX1_init : ByteArray := prog_1_method_1_code
def yX1_init : MethodName := ⟨RX1, "<init>", "()V"⟩
abbrev cX1_build : ByteArray := prog_1_method_2_code
def yX1_build : MethodName := ⟨RX1, "build", "(III)I"⟩
abbrev cX1_lay : ByteArray := prog_1_method_3_code
def yX1_lay : MethodName := ⟨RX1, "lay", "(IIII)I"⟩
abbrev cX1_set : ByteArray := prog_1_method_4_code
def yX1_set : MethodName := ⟨RX1, "set", "(III)I"⟩
abbrev cX1_flush : ByteArray := prog_1_method_5_code
def yX1_flush : MethodName := ⟨RX1, "flush", "(I)I"⟩
abbrev cX1_scrape : ByteArray := prog_1_method_6_code
def yX1_scrape : MethodName := ⟨RX1, "scrape", "(I)I"⟩
abbrev cX1_steal : ByteArray := prog_1_method_7_code
def yX1_steal : MethodName := ⟨RX1, "steal", "(II)I"⟩
abbrev cX1_tank : ByteArray := prog_1_method_8_code
def yX1_tank : MethodName := ⟨RX1, "tank", "(II)I"⟩
abbrev cX1_pipe : ByteArray := prog_1_method_9_code
def yX1_pipe : MethodName := ⟨RX1, "pipe", "(II)I"⟩
abbrev cX1_count : ByteArray := prog_1_method_10_code
def yX1_count : MethodName := ⟨RX1, "count", "(I)I"⟩
abbrev cX1_reach : ByteArray := prog_1_method_11_code
def yX1_reach : MethodName := ⟨RX1, "reach", "(I)I"⟩
abbrev cX1_suspect : ByteArray := prog_1_method_12_code
def yX1_suspect : MethodName := ⟨RX1, "suspect", "()I"⟩
abbrev cX1_pass : ByteArray := prog_1_method_13_code
def yX1_pass : MethodName := ⟨RX1, "pass", "(I)I"⟩
abbrev cX1_foresee : ByteArray := prog_1_method_14_code
def yX1_foresee : MethodName := ⟨RX1, "foresee", "(II)I"⟩
abbrev cX1_sated : ByteArray := prog_1_method_16_code
def yX1_sated : MethodName := ⟨RX1, "sated", "(I)I"⟩
abbrev cX1_mean : ByteArray := prog_1_method_17_code
def yX1_mean : MethodName := ⟨RX1, "mean", "()D"⟩
abbrev cX1_isWithin : ByteArray := prog_1_method_19_code
def yX1_isWithin : MethodName := ⟨RX1, "isWithin", "(III)Z"⟩
abbrev cX1_isSpringAndThirst : ByteArray := prog_1_method_20_code
def yX1_isSpringAndThirst : MethodName := ⟨RX1, "isSpringAndThirst", "(II)Z"⟩
abbrev cX1_needTank : ByteArray := prog_1_method_21_code
def yX1_needTank : MethodName := ⟨RX1, "needTank", "(I)V"⟩
abbrev cX1_needPipe : ByteArray := prog_1_method_22_code
def yX1_needPipe : MethodName := ⟨RX1, "needPipe", "(I)V"⟩
abbrev cX1_needIndex : ByteArray := prog_1_method_23_code
def yX1_needIndex : MethodName := ⟨RX1, "needIndex", "(Z)V"⟩
abbrev cX1_needArgument : ByteArray := prog_1_method_24_code
def yX1_needArgument : MethodName := ⟨RX1, "needArgument", "(Z)V"⟩
def RX2 : String := "AqueductTanksLaw$Pipe"
def TX2 : u_T := fun k => match k with
  | 0 => ("AqueductTanksLaw$Pipe", "from", "I", false)
  | 1 => ("AqueductTanksLaw$Pipe", "to", "I", false)
  | 2 => ("AqueductTanksLaw$Pipe", "width", "I", false)
  | 3 => ("AqueductTanksLaw$Pipe", "dip", "I", false)
  | 4 => ("AqueductTanksLaw$Pipe", "crust", "I", false)
  | 5 => ("AqueductTanksLaw$Pipe", "tap", "I", false)
  | 6 => ("AqueductTanksLaw$Pipe", "flowed", "I", false)
  | 7 => ("AqueductTanksLaw$Pipe", "lost", "I", false)
  | _ => ("AqueductTanksLaw$Pipe", "all", "I", false)
def tyX2 : Nat → FieldType := fun k => match k with
  | 0 => .int
  | 1 => .int
  | 2 => .int
  | 3 => .int
  | 4 => .int
  | 5 => .int
  | 6 => .int
  | 7 => .int
  | _ => .int
abbrev wsX20 : List Cond := u_ws RX2 TX2 9
theorem nmX2 : ∀ a, a < 9 → ∀ b, b < 9 → a ≠ b → (TX2 a).2.1 ≠ (TX2 b).2.1 := by decide +kernel
theorem tyX2_ok : ∀ k, k < 9 → parseFieldDescriptor (TX2 k).2.2.1 = some (tyX2 k) := by decide +kernel
abbrev cX2_init : ByteArray := prog_4_method_1_code
def yX2_init : MethodName := ⟨RX2, "<init>", "()V"⟩
def RX3 : String := "AqueductTanksLaw$Sim"
def TX3 : u_T := fun k => match k with
  | 0 => ("AqueductTanksLaw$Sim", "tanks", "[LAqueductTanksLaw$Tank;", false)
  | 1 => ("AqueductTanksLaw$Sim", "pipes", "[LAqueductTanksLaw$Pipe;", false)
  | _ => ("AqueductTanksLaw$Sim", "day", "I", false)
def tyX3 : Nat → FieldType := fun k => match k with
  | 0 => .array (.object "AqueductTanksLaw$Tank")
  | 1 => .array (.object "AqueductTanksLaw$Pipe")
  | _ => .int
abbrev wsX30 : List Cond := u_ws RX3 TX3 3
theorem nmX3 : ∀ a, a < 3 → ∀ b, b < 3 → a ≠ b → (TX3 a).2.1 ≠ (TX3 b).2.1 := by decide +kernel
theorem tyX3_ok : ∀ k, k < 3 → parseFieldDescriptor (TX3 k).2.2.1 = some (tyX3 k) := by decide +kernel
abbrev cX3_init : ByteArray := prog_5_method_1_code
def yX3_init : MethodName := ⟨RX3, "<init>", "()V"⟩
abbrev cX3_build : ByteArray := prog_5_method_3_code
def yX3_build : MethodName := ⟨RX3, "build", "(III)V"⟩
abbrev cX3_lay : ByteArray := prog_5_method_4_code
def yX3_lay : MethodName := ⟨RX3, "lay", "(IIII)V"⟩
abbrev cX3_flows : ByteArray := prog_5_method_5_code
def yX3_flows : MethodName := ⟨RX3, "flows", "(LAqueductTanksLaw$Pipe;)I"⟩
abbrev cX3_pass : ByteArray := prog_5_method_6_code
def yX3_pass : MethodName := ⟨RX3, "pass", "()I"⟩
abbrev cX3_water : ByteArray := prog_5_method_7_code
def yX3_water : MethodName := ⟨RX3, "water", "()I"⟩
abbrev cX3_lost : ByteArray := prog_5_method_8_code
def yX3_lost : MethodName := ⟨RX3, "lost", "()I"⟩
abbrev cX3_isSame : ByteArray := prog_5_method_10_code
def yX3_isSame : MethodName := ⟨RX3, "isSame", "(LAqueductTanks;)Z"⟩
def RX4 : String := "AqueductTanksLaw$Tank"
def TX4 : u_T := fun k => match k with
  | 0 => ("AqueductTanksLaw$Tank", "height", "I", false)
  | 1 => ("AqueductTanksLaw$Tank", "spring", "I", false)
  | 2 => ("AqueductTanksLaw$Tank", "thirst", "I", false)
  | 3 => ("AqueductTanksLaw$Tank", "water", "I", false)
  | 4 => ("AqueductTanksLaw$Tank", "mud", "I", false)
  | 5 => ("AqueductTanksLaw$Tank", "drunk", "I", false)
  | 6 => ("AqueductTanksLaw$Tank", "all", "I", false)
  | _ => ("AqueductTanksLaw$Tank", "spilled", "I", false)
def tyX4 : Nat → FieldType := fun k => match k with
  | 0 => .int
  | 1 => .int
  | 2 => .int
  | 3 => .int
  | 4 => .int
  | 5 => .int
  | 6 => .int
  | _ => .int
abbrev wsX40 : List Cond := u_ws RX4 TX4 8
theorem nmX4 : ∀ a, a < 8 → ∀ b, b < 8 → a ≠ b → (TX4 a).2.1 ≠ (TX4 b).2.1 := by decide +kernel
theorem tyX4_ok : ∀ k, k < 8 → parseFieldDescriptor (TX4 k).2.2.1 = some (tyX4 k) := by decide +kernel
abbrev cX4_init : ByteArray := prog_6_method_1_code
def yX4_init : MethodName := ⟨RX4, "<init>", "()V"⟩
abbrev cX4_comes : ByteArray := prog_6_method_3_code
def yX4_comes : MethodName := ⟨RX4, "comes", "(II)V"⟩
def RX5 : String := "AqueductTanksModel"
def TX5 : u_T := fun k => match k with
  | _ => ("", "", "", false)
def tyX5 : Nat → FieldType := fun k => match k with
  | _ => .int
abbrev wsX50 : List Cond := u_ws RX5 TX5 0
theorem nmX5 : ∀ a, a < 0 → ∀ b, b < 0 → a ≠ b → (TX5 a).2.1 ≠ (TX5 b).2.1 := by decide +kernel
theorem tyX5_ok : ∀ k, k < 0 → parseFieldDescriptor (TX5 k).2.2.1 = some (tyX5 k) := by decide +kernel
def RJ9 : String := "java/lang/Math"
def TJ9 : u_T := fun k => match k with
  | _ => ("", "", "", false)
def tyJ9 : Nat → FieldType := fun k => match k with
  | _ => .int
abbrev wsJ90 : List Cond := u_ws RJ9 TJ9 0
theorem nmJ9 : ∀ a, a < 0 → ∀ b, b < 0 → a ≠ b → (TJ9 a).2.1 ≠ (TJ9 b).2.1 := by decide +kernel
theorem tyJ9_ok : ∀ k, k < 0 → parseFieldDescriptor (TJ9 k).2.2.1 = some (tyJ9 k) := by decide +kernel
abbrev cJ9_max_7cf53 : ByteArray := prog_12_method_65_code
def yJ9_max_7cf53 : MethodName := ⟨RJ9, "max", "(II)I"⟩
abbrev cJ9_min_7cf53 : ByteArray := prog_12_method_69_code
def yJ9_min_7cf53 : MethodName := ⟨RJ9, "min", "(II)I"⟩
def RJ0 : String := "java/lang/String"
def TJ0 : u_T := fun k => match k with
  | _ => ("", "", "", false)
def tyJ0 : Nat → FieldType := fun k => match k with
  | _ => .int
abbrev wsJ00 : List Cond := u_ws RJ0 TJ0 0
theorem nmJ0 : ∀ a, a < 0 → ∀ b, b < 0 → a ≠ b → (TJ0 a).2.1 ≠ (TJ0 b).2.1 := by decide +kernel
theorem tyJ0_ok : ∀ k, k < 0 → parseFieldDescriptor (TJ0 k).2.2.1 = some (tyJ0 k) := by decide +kernel
def RJ10 : String := "java/lang/System"
def TJ10 : u_T := fun k => match k with
  | _ => ("", "", "", false)
def tyJ10 : Nat → FieldType := fun k => match k with
  | _ => .int
abbrev wsJ100 : List Cond := u_ws RJ10 TJ10 0
theorem nmJ10 : ∀ a, a < 0 → ∀ b, b < 0 → a ≠ b → (TJ10 a).2.1 ≠ (TJ10 b).2.1 := by decide +kernel
theorem tyJ10_ok : ∀ k, k < 0 → parseFieldDescriptor (TJ10 k).2.2.1 = some (tyJ10 k) := by decide +kernel
def RL : String := "AqueductTanksLaw"
abbrev cL_below : ByteArray := method_2_code
def yL_below : MethodName := ⟨RL, "below", "(II)I"⟩
abbrev cL_cell : ByteArray := method_3_code
def yL_cell : MethodName := ⟨RL, "cell", "([II)I"⟩
abbrev cL_act : ByteArray := method_4_code
def yL_act : MethodName := ⟨RL, "act", "(LAqueductTanks;LAqueductTanksLaw$Sim;I)Z"⟩
abbrev cL_build : ByteArray := method_5_code
def yL_build : MethodName := ⟨RL, "build", "(LAqueductTanks;[I)LAqueductTanksLaw$Sim;"⟩
abbrev cL_law : ByteArray := code
def yL_law : MethodName := ⟨RL, "law", "([I)Z"⟩
def wsX0_init : List Cond := .code yX0_init cX0_init 1 none :: ([.methodLink RX0 3 objectInit, .instanceMethod objectInit, .code objectInit ⟨#[0xb1]⟩ 1 none, .classLink RX0 11 "[[I", .arrayClass .int, .fieldLink RX0 13 "AqueductTanks$Land" "tanks" "[[I", .fieldLink RX0 16 "AqueductTanks$Land" "pipes" "[[I"] ++ wsX00)
def wsX0_addTank : List Cond := .code yX0_addTank cX0_addTank 5 (some .int) :: ([.fieldLink RX0 19 "AqueductTanks$Land" "tankCount" "I", .fieldLink RX0 13 "AqueductTanks$Land" "tanks" "[[I"] ++ wsX00)
def wsX0_addPipe : List Cond := .code yX0_addPipe cX0_addPipe 6 (some .int) :: ([.fieldLink RX0 23 "AqueductTanks$Land" "pipeCount" "I", .fieldLink RX0 16 "AqueductTanks$Land" "pipes" "[[I"] ++ wsX00)
def wsX0_copyFrom : List Cond := .code yX0_copyFrom cX0_copyFrom 3 none :: ([.fieldLink RX0 26 "AqueductTanks$Land" "day" "I", .fieldLink RX0 19 "AqueductTanks$Land" "tankCount" "I", .fieldLink RX0 23 "AqueductTanks$Land" "pipeCount" "I", .fieldLink RX0 13 "AqueductTanks$Land" "tanks" "[[I", .methodLink RX0 29 arraycopyName, .native arraycopyName, .static arraycopyName, .initialized "java/lang/System", .fieldLink RX0 16 "AqueductTanks$Land" "pipes" "[[I"] ++ wsX00)
def wsX0_head : List Cond := .code yX0_head cX0_head 1 (some .int) :: ([])
def wsX0_whatCanFlow : List Cond := .code yX0_whatCanFlow cX0_whatCanFlow 7 (some .int) :: ([.fieldLink RX0 16 "AqueductTanks$Land" "pipes" "[[I", .fieldLink RX0 13 "AqueductTanks$Land" "tanks" "[[I", .methodLink RX0 57 Lib.Math.max.name, .static Lib.Math.max.name, .initialized "java/lang/Math", .code Lib.Math.max.name Lib.Math.max.code 2 (some .int), .methodLink RX0 63 Lib.Math.min.name, .static Lib.Math.min.name, .code Lib.Math.min.name Lib.Math.min.code 2 (some .int), .methodLink RX0 53 yX0_head, .static yX0_head, .initialized RX0, .code yX0_head cX0_head 1 (some .int)] ++ wsX00)
def wsX0_ofPipe : List Cond := .code yX0_ofPipe cX0_ofPipe 3 (some .int) :: ([.fieldLink RX0 16 "AqueductTanks$Land" "pipes" "[[I", .methodLink RX0 35 yX0_whatCanFlow, .instanceMethod yX0_whatCanFlow, .selects RX0 yX0_whatCanFlow yX0_whatCanFlow, .initialized RX0, .code yX0_whatCanFlow cX0_whatCanFlow 7 (some .int), .fieldLink RX0 13 "AqueductTanks$Land" "tanks" "[[I", .methodLink RX0 57 Lib.Math.max.name, .static Lib.Math.max.name, .initialized "java/lang/Math", .code Lib.Math.max.name Lib.Math.max.code 2 (some .int), .methodLink RX0 63 Lib.Math.min.name, .static Lib.Math.min.name, .code Lib.Math.min.name Lib.Math.min.code 2 (some .int), .methodLink RX0 53 yX0_head, .static yX0_head, .code yX0_head cX0_head 1 (some .int)] ++ wsX00)
def wsX0_sumOfTanks : List Cond := .code yX0_sumOfTanks cX0_sumOfTanks 4 (some .int) :: ([.fieldLink RX0 19 "AqueductTanks$Land" "tankCount" "I", .fieldLink RX0 13 "AqueductTanks$Land" "tanks" "[[I"] ++ wsX00)
def wsX0_sumOfPipes : List Cond := .code yX0_sumOfPipes cX0_sumOfPipes 4 (some .int) :: ([.fieldLink RX0 23 "AqueductTanks$Land" "pipeCount" "I", .fieldLink RX0 16 "AqueductTanks$Land" "pipes" "[[I"] ++ wsX00)
def wsX0_isThirsty : List Cond := .code yX0_isThirsty cX0_isThirsty 2 (some .boolean) :: ([.fieldLink RX0 13 "AqueductTanks$Land" "tanks" "[[I"] ++ wsX00)
def wsX0_thirstyTanks : List Cond := .code yX0_thirstyTanks cX0_thirstyTanks 3 (some .int) :: ([.fieldLink RX0 19 "AqueductTanks$Land" "tankCount" "I", .methodLink RX0 49 yX0_isThirsty, .instanceMethod yX0_isThirsty, .selects RX0 yX0_isThirsty yX0_isThirsty, .initialized RX0, .code yX0_isThirsty cX0_isThirsty 2 (some .boolean), .fieldLink RX0 13 "AqueductTanks$Land" "tanks" "[[I"] ++ wsX00)
def wsX0_ofAll : List Cond := .code yX0_ofAll cX0_ofAll 2 (some .int) :: ([.fieldLink RX0 26 "AqueductTanks$Land" "day" "I", .fieldLink RX0 19 "AqueductTanks$Land" "tankCount" "I", .fieldLink RX0 23 "AqueductTanks$Land" "pipeCount" "I", .methodLink RX0 39 yX0_sumOfTanks, .instanceMethod yX0_sumOfTanks, .selects RX0 yX0_sumOfTanks yX0_sumOfTanks, .initialized RX0, .code yX0_sumOfTanks cX0_sumOfTanks 4 (some .int), .fieldLink RX0 13 "AqueductTanks$Land" "tanks" "[[I", .methodLink RX0 42 yX0_sumOfPipes, .instanceMethod yX0_sumOfPipes, .selects RX0 yX0_sumOfPipes yX0_sumOfPipes, .code yX0_sumOfPipes cX0_sumOfPipes 4 (some .int), .fieldLink RX0 16 "AqueductTanks$Land" "pipes" "[[I", .methodLink RX0 45 yX0_thirstyTanks, .instanceMethod yX0_thirstyTanks, .selects RX0 yX0_thirstyTanks yX0_thirstyTanks, .code yX0_thirstyTanks cX0_thirstyTanks 3 (some .int), .methodLink RX0 49 yX0_isThirsty, .instanceMethod yX0_isThirsty, .selects RX0 yX0_isThirsty yX0_isThirsty, .code yX0_isThirsty cX0_isThirsty 2 (some .boolean)] ++ wsX00)
def wsX0_reachedFrom : List Cond := .code yX0_reachedFrom cX0_reachedFrom 6 (some .int) :: ([.fieldLink RX0 19 "AqueductTanks$Land" "tankCount" "I", .fieldLink RX0 23 "AqueductTanks$Land" "pipeCount" "I", .fieldLink RX0 16 "AqueductTanks$Land" "pipes" "[[I"] ++ wsX00)
def wsX0_takeInWater : List Cond := .code yX0_takeInWater cX0_takeInWater 4 none :: ([.methodLink RX0 57 Lib.Math.max.name, .static Lib.Math.max.name, .initialized "java/lang/Math", .code Lib.Math.max.name Lib.Math.max.code 2 (some .int)])
def wsX0_takeInMud : List Cond := .code yX0_takeInMud cX0_takeInMud 2 none :: ([.methodLink RX0 63 Lib.Math.min.name, .static Lib.Math.min.name, .initialized "java/lang/Math", .code Lib.Math.min.name Lib.Math.min.code 2 (some .int)])
def wsX0_feed : List Cond := .code yX0_feed cX0_feed 1 none :: ([.methodLink RX0 83 yX0_takeInWater, .static yX0_takeInWater, .initialized RX0, .code yX0_takeInWater cX0_takeInWater 4 none, .methodLink RX0 57 Lib.Math.max.name, .static Lib.Math.max.name, .initialized "java/lang/Math", .code Lib.Math.max.name Lib.Math.max.code 2 (some .int), .methodLink RX0 87 yX0_takeInMud, .static yX0_takeInMud, .code yX0_takeInMud cX0_takeInMud 2 none, .methodLink RX0 63 Lib.Math.min.name, .static Lib.Math.min.name, .code Lib.Math.min.name Lib.Math.min.code 2 (some .int)])
def wsX0_wanderMud : List Cond := .code yX0_wanderMud cX0_wanderMud 4 none :: ([.methodLink RX0 87 yX0_takeInMud, .static yX0_takeInMud, .initialized RX0, .code yX0_takeInMud cX0_takeInMud 2 none, .methodLink RX0 63 Lib.Math.min.name, .static Lib.Math.min.name, .initialized "java/lang/Math", .code Lib.Math.min.name Lib.Math.min.code 2 (some .int)])
def wsX0_flowThrough_r1 : List Cond := [Cond.fieldLink RX0 16 "AqueductTanks$Land" "pipes" "[[I", Cond.fieldLink RX0 13 "AqueductTanks$Land" "tanks" "[[I", Cond.methodLink RX0 63 Lib.Math.min.name, Cond.static Lib.Math.min.name, Cond.initialized "java/lang/Math", Cond.code Lib.Math.min.name Lib.Math.min.code 2 (some .int), Cond.methodLink RX0 35 yX0_whatCanFlow, Cond.instanceMethod yX0_whatCanFlow, Cond.selects RX0 yX0_whatCanFlow yX0_whatCanFlow, Cond.initialized RX0, Cond.code yX0_whatCanFlow cX0_whatCanFlow 7 (some .int), Cond.methodLink RX0 57 Lib.Math.max.name, Cond.static Lib.Math.max.name, Cond.code Lib.Math.max.name Lib.Math.max.code 2 (some .int), Cond.methodLink RX0 53 yX0_head, Cond.static yX0_head, Cond.code yX0_head cX0_head 1 (some .int), Cond.methodLink RX0 90 yX0_wanderMud, Cond.static yX0_wanderMud, Cond.code yX0_wanderMud cX0_wanderMud 4 none, Cond.methodLink RX0 87 yX0_takeInMud, Cond.static yX0_takeInMud, Cond.code yX0_takeInMud cX0_takeInMud 2 none, Cond.methodLink RX0 83 yX0_takeInWater]
def wsX0_flowThrough_r2 : List Cond := [Cond.static yX0_takeInWater, Cond.code yX0_takeInWater cX0_takeInWater 4 none]
def wsX0_flowThrough : List Cond := .code yX0_flowThrough cX0_flowThrough 7 none :: ((wsX0_flowThrough_r1 ++ wsX0_flowThrough_r2) ++ wsX00)
def wsX0_growCrusts : List Cond := .code yX0_growCrusts cX0_growCrusts 3 none :: ([.fieldLink RX0 23 "AqueductTanks$Land" "pipeCount" "I", .fieldLink RX0 16 "AqueductTanks$Land" "pipes" "[[I", .methodLink RX0 63 Lib.Math.min.name, .static Lib.Math.min.name, .initialized "java/lang/Math", .code Lib.Math.min.name Lib.Math.min.code 2 (some .int)] ++ wsX00)
def wsX0_drinkFrom : List Cond := .code yX0_drinkFrom cX0_drinkFrom 3 none :: ([.methodLink RX0 63 Lib.Math.min.name, .static Lib.Math.min.name, .initialized "java/lang/Math", .code Lib.Math.min.name Lib.Math.min.code 2 (some .int)])
def wsX0_goThroughDay_r1 : List Cond := [Cond.fieldLink RX0 19 "AqueductTanks$Land" "tankCount" "I", Cond.fieldLink RX0 13 "AqueductTanks$Land" "tanks" "[[I", Cond.fieldLink RX0 23 "AqueductTanks$Land" "pipeCount" "I", Cond.fieldLink RX0 26 "AqueductTanks$Land" "day" "I", Cond.methodLink RX0 69 yX0_feed, Cond.static yX0_feed, Cond.initialized RX0, Cond.code yX0_feed cX0_feed 1 none, Cond.methodLink RX0 83 yX0_takeInWater, Cond.static yX0_takeInWater, Cond.code yX0_takeInWater cX0_takeInWater 4 none, Cond.methodLink RX0 57 Lib.Math.max.name, Cond.static Lib.Math.max.name, Cond.initialized "java/lang/Math", Cond.code Lib.Math.max.name Lib.Math.max.code 2 (some .int), Cond.methodLink RX0 87 yX0_takeInMud, Cond.static yX0_takeInMud, Cond.code yX0_takeInMud cX0_takeInMud 2 none, Cond.methodLink RX0 63 Lib.Math.min.name, Cond.static Lib.Math.min.name, Cond.code Lib.Math.min.name Lib.Math.min.code 2 (some .int), Cond.methodLink RX0 73 yX0_flowThrough, Cond.instanceMethod yX0_flowThrough, Cond.selects RX0 yX0_flowThrough yX0_flowThrough]
def wsX0_goThroughDay_r2 : List Cond := [Cond.code yX0_flowThrough cX0_flowThrough 7 none, Cond.fieldLink RX0 16 "AqueductTanks$Land" "pipes" "[[I", Cond.methodLink RX0 35 yX0_whatCanFlow, Cond.instanceMethod yX0_whatCanFlow, Cond.selects RX0 yX0_whatCanFlow yX0_whatCanFlow, Cond.code yX0_whatCanFlow cX0_whatCanFlow 7 (some .int), Cond.methodLink RX0 53 yX0_head, Cond.static yX0_head, Cond.code yX0_head cX0_head 1 (some .int), Cond.methodLink RX0 90 yX0_wanderMud, Cond.static yX0_wanderMud, Cond.code yX0_wanderMud cX0_wanderMud 4 none, Cond.methodLink RX0 77 yX0_growCrusts, Cond.instanceMethod yX0_growCrusts, Cond.selects RX0 yX0_growCrusts yX0_growCrusts, Cond.code yX0_growCrusts cX0_growCrusts 3 none, Cond.methodLink RX0 80 yX0_drinkFrom, Cond.static yX0_drinkFrom, Cond.code yX0_drinkFrom cX0_drinkFrom 3 none]
def wsX0_goThroughDay : List Cond := .code yX0_goThroughDay cX0_goThroughDay 2 none :: ((wsX0_goThroughDay_r1 ++ wsX0_goThroughDay_r2) ++ wsX00)
def wsX0_drunkIn_r1 : List Cond := [Cond.methodLink RX0 39 yX0_sumOfTanks, Cond.instanceMethod yX0_sumOfTanks, Cond.selects RX0 yX0_sumOfTanks yX0_sumOfTanks, Cond.initialized RX0, Cond.code yX0_sumOfTanks cX0_sumOfTanks 4 (some .int), Cond.fieldLink RX0 19 "AqueductTanks$Land" "tankCount" "I", Cond.fieldLink RX0 13 "AqueductTanks$Land" "tanks" "[[I", Cond.methodLink RX0 66 yX0_goThroughDay, Cond.instanceMethod yX0_goThroughDay, Cond.selects RX0 yX0_goThroughDay yX0_goThroughDay, Cond.code yX0_goThroughDay cX0_goThroughDay 2 none, Cond.fieldLink RX0 23 "AqueductTanks$Land" "pipeCount" "I", Cond.fieldLink RX0 26 "AqueductTanks$Land" "day" "I", Cond.methodLink RX0 69 yX0_feed, Cond.static yX0_feed, Cond.code yX0_feed cX0_feed 1 none, Cond.methodLink RX0 83 yX0_takeInWater, Cond.static yX0_takeInWater, Cond.code yX0_takeInWater cX0_takeInWater 4 none, Cond.methodLink RX0 57 Lib.Math.max.name, Cond.static Lib.Math.max.name, Cond.initialized "java/lang/Math", Cond.code Lib.Math.max.name Lib.Math.max.code 2 (some .int), Cond.methodLink RX0 87 yX0_takeInMud]
def wsX0_drunkIn_r2 : List Cond := [Cond.static yX0_takeInMud, Cond.code yX0_takeInMud cX0_takeInMud 2 none, Cond.methodLink RX0 63 Lib.Math.min.name, Cond.static Lib.Math.min.name, Cond.code Lib.Math.min.name Lib.Math.min.code 2 (some .int), Cond.methodLink RX0 73 yX0_flowThrough, Cond.instanceMethod yX0_flowThrough, Cond.selects RX0 yX0_flowThrough yX0_flowThrough, Cond.code yX0_flowThrough cX0_flowThrough 7 none, Cond.fieldLink RX0 16 "AqueductTanks$Land" "pipes" "[[I", Cond.methodLink RX0 35 yX0_whatCanFlow, Cond.instanceMethod yX0_whatCanFlow, Cond.selects RX0 yX0_whatCanFlow yX0_whatCanFlow, Cond.code yX0_whatCanFlow cX0_whatCanFlow 7 (some .int), Cond.methodLink RX0 53 yX0_head, Cond.static yX0_head, Cond.code yX0_head cX0_head 1 (some .int), Cond.methodLink RX0 90 yX0_wanderMud, Cond.static yX0_wanderMud, Cond.code yX0_wanderMud cX0_wanderMud 4 none, Cond.methodLink RX0 77 yX0_growCrusts, Cond.instanceMethod yX0_growCrusts, Cond.selects RX0 yX0_growCrusts yX0_growCrusts, Cond.code yX0_growCrusts cX0_growCrusts 3 none]
def wsX0_drunkIn_r3 : List Cond := [Cond.methodLink RX0 80 yX0_drinkFrom, Cond.static yX0_drinkFrom, Cond.code yX0_drinkFrom cX0_drinkFrom 3 none]
def wsX0_drunkIn : List Cond := .code yX0_drunkIn cX0_drunkIn 4 (some .int) :: ((wsX0_drunkIn_r1 ++ (wsX0_drunkIn_r2 ++ wsX0_drunkIn_r3)) ++ wsX00)
def wsX1_init : List Cond := .code yX1_init cX1_init 1 none :: ([.methodLink RX1 1 objectInit, .instanceMethod objectInit, .code objectInit ⟨#[0xb1]⟩ 1 none, .classLink RX1 7 RX0, .instantiable RX0 5, .initialized RX0, .fieldLink RX1 10 "AqueductTanks" "land" "LAqueductTanks$Land;", .fieldLink RX1 16 "AqueductTanks" "trial" "LAqueductTanks$Land;", .methodLink RX1 9 yX0_init, .instanceMethod yX0_init, .code yX0_init cX0_init 1 none, .methodLink RX0 3 objectInit, .classLink RX0 11 "[[I", .arrayClass .int, .fieldLink RX0 13 "AqueductTanks$Land" "tanks" "[[I", .fieldLink RX0 16 "AqueductTanks$Land" "pipes" "[[I"] ++ wsX00 ++ wsX10)
def wsX1_isWithin : List Cond := .code yX1_isWithin cX1_isWithin 3 (some .boolean) :: ([])
def wsX1_needArgument : List Cond := .code yX1_needArgument cX1_needArgument 1 none :: ([.classLink RX1 115 "java/lang/IllegalArgumentException", .initialized "java/lang/IllegalArgumentException"] ++ (vx_atS RX1 119 "java/lang/IllegalArgumentException" ["java/lang/RuntimeException", "java/lang/Exception"]).filter goodWord)
def wsX1_isSpringAndThirst : List Cond := .code yX1_isSpringAndThirst cX1_isSpringAndThirst 2 (some .boolean) :: ([.methodLink RX1 19 yX1_isWithin, .static yX1_isWithin, .initialized RX1, .code yX1_isWithin cX1_isWithin 3 (some .boolean)])
def wsX1_build : List Cond := .code yX1_build cX1_build 5 (some .int) :: ([.classLink RX1 35 "java/lang/IllegalStateException", .initialized "java/lang/IllegalStateException", .fieldLink RX1 10 "AqueductTanks" "land" "LAqueductTanks$Land;", .methodLink RX1 19 yX1_isWithin, .static yX1_isWithin, .initialized RX1, .code yX1_isWithin cX1_isWithin 3 (some .boolean), .methodLink RX1 23 yX1_needArgument, .static yX1_needArgument, .code yX1_needArgument cX1_needArgument 1 none, .classLink RX1 115 "java/lang/IllegalArgumentException", .initialized "java/lang/IllegalArgumentException", .methodLink RX1 27 yX1_isSpringAndThirst, .static yX1_isSpringAndThirst, .code yX1_isSpringAndThirst cX1_isSpringAndThirst 2 (some .boolean), .methodLink RX1 31 yX0_addTank, .instanceMethod yX0_addTank, .selects RX0 yX0_addTank yX0_addTank, .initialized RX0, .code yX0_addTank cX0_addTank 5 (some .int), .fieldLink RX0 19 "AqueductTanks$Land" "tankCount" "I", .fieldLink RX0 13 "AqueductTanks$Land" "tanks" "[[I"] ++ wsX10 ++ wsX00 ++ (vx_atS RX1 39 "java/lang/IllegalStateException" ["java/lang/RuntimeException", "java/lang/Exception"]).filter goodWord ++ (vx_atS RX1 119 "java/lang/IllegalArgumentException" ["java/lang/RuntimeException", "java/lang/Exception"]).filter goodWord)
def wsX1_needIndex : List Cond := .code yX1_needIndex cX1_needIndex 1 none :: ([.classLink RX1 110 "java/lang/IndexOutOfBoundsException", .initialized "java/lang/IndexOutOfBoundsException"] ++ (vx_atS RX1 114 "java/lang/IndexOutOfBoundsException" ["java/lang/RuntimeException", "java/lang/Exception"]).filter goodWord)
def wsX1_needTank : List Cond := .code yX1_needTank cX1_needTank 2 none :: ([.fieldLink RX1 10 "AqueductTanks" "land" "LAqueductTanks$Land;", .fieldLink RX1 107 "AqueductTanks$Land" "tankCount" "I", .methodLink RX1 62 yX1_needIndex, .static yX1_needIndex, .initialized RX1, .code yX1_needIndex cX1_needIndex 1 none, .classLink RX1 110 "java/lang/IndexOutOfBoundsException", .initialized "java/lang/IndexOutOfBoundsException"] ++ wsX10 ++ wsX00 ++ (vx_atS RX1 114 "java/lang/IndexOutOfBoundsException" ["java/lang/RuntimeException", "java/lang/Exception"]).filter goodWord)
def wsX1_lay_r1 : List Cond := [Cond.classLink RX1 35 "java/lang/IllegalStateException", Cond.initialized "java/lang/IllegalStateException", Cond.fieldLink RX1 10 "AqueductTanks" "land" "LAqueductTanks$Land;", Cond.methodLink RX1 42 yX1_needTank, Cond.instanceMethod yX1_needTank, Cond.selects RX1 yX1_needTank yX1_needTank, Cond.initialized RX1, Cond.code yX1_needTank cX1_needTank 2 none, Cond.fieldLink RX1 107 "AqueductTanks$Land" "tankCount" "I", Cond.methodLink RX1 62 yX1_needIndex, Cond.static yX1_needIndex, Cond.code yX1_needIndex cX1_needIndex 1 none, Cond.classLink RX1 110 "java/lang/IndexOutOfBoundsException", Cond.initialized "java/lang/IndexOutOfBoundsException", Cond.methodLink RX1 23 yX1_needArgument, Cond.static yX1_needArgument, Cond.code yX1_needArgument cX1_needArgument 1 none, Cond.classLink RX1 115 "java/lang/IllegalArgumentException", Cond.initialized "java/lang/IllegalArgumentException", Cond.methodLink RX1 19 yX1_isWithin, Cond.static yX1_isWithin, Cond.code yX1_isWithin cX1_isWithin 3 (some .boolean), Cond.methodLink RX1 46 yX0_addPipe, Cond.instanceMethod yX0_addPipe]
def wsX1_lay_r2 : List Cond := [Cond.selects RX0 yX0_addPipe yX0_addPipe, Cond.initialized RX0, Cond.code yX0_addPipe cX0_addPipe 6 (some .int), Cond.fieldLink RX0 23 "AqueductTanks$Land" "pipeCount" "I", Cond.fieldLink RX0 16 "AqueductTanks$Land" "pipes" "[[I"]
def wsX1_lay : List Cond := .code yX1_lay cX1_lay 6 (some .int) :: ((wsX1_lay_r1 ++ wsX1_lay_r2) ++ wsX10 ++ wsX00 ++ (vx_atS RX1 39 "java/lang/IllegalStateException" ["java/lang/RuntimeException", "java/lang/Exception"]).filter goodWord ++ (vx_atS RX1 114 "java/lang/IndexOutOfBoundsException" ["java/lang/RuntimeException", "java/lang/Exception"]).filter goodWord ++ (vx_atS RX1 119 "java/lang/IllegalArgumentException" ["java/lang/RuntimeException", "java/lang/Exception"]).filter goodWord)
def wsX1_set : List Cond := .code yX1_set cX1_set 6 (some .int) :: ([.fieldLink RX1 10 "AqueductTanks" "land" "LAqueductTanks$Land;", .fieldLink RX1 52 "AqueductTanks$Land" "tanks" "[[I", .methodLink RX1 42 yX1_needTank, .instanceMethod yX1_needTank, .selects RX1 yX1_needTank yX1_needTank, .initialized RX1, .code yX1_needTank cX1_needTank 2 none, .fieldLink RX1 107 "AqueductTanks$Land" "tankCount" "I", .methodLink RX1 62 yX1_needIndex, .static yX1_needIndex, .code yX1_needIndex cX1_needIndex 1 none, .classLink RX1 110 "java/lang/IndexOutOfBoundsException", .initialized "java/lang/IndexOutOfBoundsException", .methodLink RX1 27 yX1_isSpringAndThirst, .static yX1_isSpringAndThirst, .code yX1_isSpringAndThirst cX1_isSpringAndThirst 2 (some .boolean), .methodLink RX1 19 yX1_isWithin, .static yX1_isWithin, .code yX1_isWithin cX1_isWithin 3 (some .boolean), .methodLink RX1 23 yX1_needArgument, .static yX1_needArgument, .code yX1_needArgument cX1_needArgument 1 none, .classLink RX1 115 "java/lang/IllegalArgumentException", .initialized "java/lang/IllegalArgumentException"] ++ wsX10 ++ wsX00 ++ (vx_atS RX1 114 "java/lang/IndexOutOfBoundsException" ["java/lang/RuntimeException", "java/lang/Exception"]).filter goodWord ++ (vx_atS RX1 119 "java/lang/IllegalArgumentException" ["java/lang/RuntimeException", "java/lang/Exception"]).filter goodWord)
def wsX1_flush : List Cond := .code yX1_flush cX1_flush 4 (some .int) :: ([.fieldLink RX1 10 "AqueductTanks" "land" "LAqueductTanks$Land;", .fieldLink RX1 52 "AqueductTanks$Land" "tanks" "[[I", .methodLink RX1 42 yX1_needTank, .instanceMethod yX1_needTank, .selects RX1 yX1_needTank yX1_needTank, .initialized RX1, .code yX1_needTank cX1_needTank 2 none, .fieldLink RX1 107 "AqueductTanks$Land" "tankCount" "I", .methodLink RX1 62 yX1_needIndex, .static yX1_needIndex, .code yX1_needIndex cX1_needIndex 1 none, .classLink RX1 110 "java/lang/IndexOutOfBoundsException", .initialized "java/lang/IndexOutOfBoundsException"] ++ wsX10 ++ wsX00 ++ (vx_atS RX1 114 "java/lang/IndexOutOfBoundsException" ["java/lang/RuntimeException", "java/lang/Exception"]).filter goodWord)
def wsX1_needPipe : List Cond := .code yX1_needPipe cX1_needPipe 2 none :: ([.fieldLink RX1 10 "AqueductTanks" "land" "LAqueductTanks$Land;", .fieldLink RX1 76 "AqueductTanks$Land" "pipeCount" "I", .methodLink RX1 62 yX1_needIndex, .static yX1_needIndex, .initialized RX1, .code yX1_needIndex cX1_needIndex 1 none, .classLink RX1 110 "java/lang/IndexOutOfBoundsException", .initialized "java/lang/IndexOutOfBoundsException"] ++ wsX10 ++ wsX00 ++ (vx_atS RX1 114 "java/lang/IndexOutOfBoundsException" ["java/lang/RuntimeException", "java/lang/Exception"]).filter goodWord)
def wsX1_scrape : List Cond := .code yX1_scrape cX1_scrape 4 (some .int) :: ([.fieldLink RX1 10 "AqueductTanks" "land" "LAqueductTanks$Land;", .fieldLink RX1 59 "AqueductTanks$Land" "pipes" "[[I", .methodLink RX1 56 yX1_needPipe, .instanceMethod yX1_needPipe, .selects RX1 yX1_needPipe yX1_needPipe, .initialized RX1, .code yX1_needPipe cX1_needPipe 2 none, .fieldLink RX1 76 "AqueductTanks$Land" "pipeCount" "I", .methodLink RX1 62 yX1_needIndex, .static yX1_needIndex, .code yX1_needIndex cX1_needIndex 1 none, .classLink RX1 110 "java/lang/IndexOutOfBoundsException", .initialized "java/lang/IndexOutOfBoundsException"] ++ wsX10 ++ wsX00 ++ (vx_atS RX1 114 "java/lang/IndexOutOfBoundsException" ["java/lang/RuntimeException", "java/lang/Exception"]).filter goodWord)
def wsX1_steal : List Cond := .code yX1_steal cX1_steal 5 (some .int) :: ([.fieldLink RX1 10 "AqueductTanks" "land" "LAqueductTanks$Land;", .fieldLink RX1 59 "AqueductTanks$Land" "pipes" "[[I", .methodLink RX1 56 yX1_needPipe, .instanceMethod yX1_needPipe, .selects RX1 yX1_needPipe yX1_needPipe, .initialized RX1, .code yX1_needPipe cX1_needPipe 2 none, .fieldLink RX1 76 "AqueductTanks$Land" "pipeCount" "I", .methodLink RX1 62 yX1_needIndex, .static yX1_needIndex, .code yX1_needIndex cX1_needIndex 1 none, .classLink RX1 110 "java/lang/IndexOutOfBoundsException", .initialized "java/lang/IndexOutOfBoundsException", .methodLink RX1 19 yX1_isWithin, .static yX1_isWithin, .code yX1_isWithin cX1_isWithin 3 (some .boolean), .methodLink RX1 23 yX1_needArgument, .static yX1_needArgument, .code yX1_needArgument cX1_needArgument 1 none, .classLink RX1 115 "java/lang/IllegalArgumentException", .initialized "java/lang/IllegalArgumentException"] ++ wsX10 ++ wsX00 ++ (vx_atS RX1 114 "java/lang/IndexOutOfBoundsException" ["java/lang/RuntimeException", "java/lang/Exception"]).filter goodWord ++ (vx_atS RX1 119 "java/lang/IllegalArgumentException" ["java/lang/RuntimeException", "java/lang/Exception"]).filter goodWord)
def wsX1_tank : List Cond := .code yX1_tank cX1_tank 3 (some .int) :: ([.fieldLink RX1 10 "AqueductTanks" "land" "LAqueductTanks$Land;", .fieldLink RX1 52 "AqueductTanks$Land" "tanks" "[[I", .methodLink RX1 42 yX1_needTank, .instanceMethod yX1_needTank, .selects RX1 yX1_needTank yX1_needTank, .initialized RX1, .code yX1_needTank cX1_needTank 2 none, .fieldLink RX1 107 "AqueductTanks$Land" "tankCount" "I", .methodLink RX1 62 yX1_needIndex, .static yX1_needIndex, .code yX1_needIndex cX1_needIndex 1 none, .classLink RX1 110 "java/lang/IndexOutOfBoundsException", .initialized "java/lang/IndexOutOfBoundsException", .methodLink RX1 19 yX1_isWithin, .static yX1_isWithin, .code yX1_isWithin cX1_isWithin 3 (some .boolean)] ++ wsX10 ++ wsX00 ++ (vx_atS RX1 114 "java/lang/IndexOutOfBoundsException" ["java/lang/RuntimeException", "java/lang/Exception"]).filter goodWord)
def wsX1_pipe_r1 : List Cond := [Cond.fieldLink RX1 10 "AqueductTanks" "land" "LAqueductTanks$Land;", Cond.methodLink RX1 56 yX1_needPipe, Cond.instanceMethod yX1_needPipe, Cond.selects RX1 yX1_needPipe yX1_needPipe, Cond.initialized RX1, Cond.code yX1_needPipe cX1_needPipe 2 none, Cond.fieldLink RX1 76 "AqueductTanks$Land" "pipeCount" "I", Cond.methodLink RX1 62 yX1_needIndex, Cond.static yX1_needIndex, Cond.code yX1_needIndex cX1_needIndex 1 none, Cond.classLink RX1 110 "java/lang/IndexOutOfBoundsException", Cond.initialized "java/lang/IndexOutOfBoundsException", Cond.methodLink RX1 19 yX1_isWithin, Cond.static yX1_isWithin, Cond.code yX1_isWithin cX1_isWithin 3 (some .boolean), Cond.methodLink RX1 65 yX0_ofPipe, Cond.instanceMethod yX0_ofPipe, Cond.selects RX0 yX0_ofPipe yX0_ofPipe, Cond.initialized RX0, Cond.code yX0_ofPipe cX0_ofPipe 3 (some .int), Cond.fieldLink RX0 16 "AqueductTanks$Land" "pipes" "[[I", Cond.methodLink RX0 35 yX0_whatCanFlow, Cond.instanceMethod yX0_whatCanFlow, Cond.selects RX0 yX0_whatCanFlow yX0_whatCanFlow]
def wsX1_pipe_r2 : List Cond := [Cond.code yX0_whatCanFlow cX0_whatCanFlow 7 (some .int), Cond.fieldLink RX0 13 "AqueductTanks$Land" "tanks" "[[I", Cond.methodLink RX0 57 Lib.Math.max.name, Cond.static Lib.Math.max.name, Cond.initialized "java/lang/Math", Cond.code Lib.Math.max.name Lib.Math.max.code 2 (some .int), Cond.methodLink RX0 63 Lib.Math.min.name, Cond.static Lib.Math.min.name, Cond.code Lib.Math.min.name Lib.Math.min.code 2 (some .int), Cond.methodLink RX0 53 yX0_head, Cond.static yX0_head, Cond.code yX0_head cX0_head 1 (some .int)]
def wsX1_pipe : List Cond := .code yX1_pipe cX1_pipe 3 (some .int) :: ((wsX1_pipe_r1 ++ wsX1_pipe_r2) ++ wsX10 ++ wsX00 ++ (vx_atS RX1 114 "java/lang/IndexOutOfBoundsException" ["java/lang/RuntimeException", "java/lang/Exception"]).filter goodWord)
def wsX1_count_r1 : List Cond := [Cond.fieldLink RX1 10 "AqueductTanks" "land" "LAqueductTanks$Land;", Cond.methodLink RX1 19 yX1_isWithin, Cond.static yX1_isWithin, Cond.initialized RX1, Cond.code yX1_isWithin cX1_isWithin 3 (some .boolean), Cond.methodLink RX1 62 yX1_needIndex, Cond.static yX1_needIndex, Cond.code yX1_needIndex cX1_needIndex 1 none, Cond.classLink RX1 110 "java/lang/IndexOutOfBoundsException", Cond.initialized "java/lang/IndexOutOfBoundsException", Cond.methodLink RX1 69 yX0_ofAll, Cond.instanceMethod yX0_ofAll, Cond.selects RX0 yX0_ofAll yX0_ofAll, Cond.initialized RX0, Cond.code yX0_ofAll cX0_ofAll 2 (some .int), Cond.fieldLink RX0 26 "AqueductTanks$Land" "day" "I", Cond.fieldLink RX0 19 "AqueductTanks$Land" "tankCount" "I", Cond.fieldLink RX0 23 "AqueductTanks$Land" "pipeCount" "I", Cond.methodLink RX0 39 yX0_sumOfTanks, Cond.instanceMethod yX0_sumOfTanks, Cond.selects RX0 yX0_sumOfTanks yX0_sumOfTanks, Cond.code yX0_sumOfTanks cX0_sumOfTanks 4 (some .int), Cond.fieldLink RX0 13 "AqueductTanks$Land" "tanks" "[[I", Cond.methodLink RX0 42 yX0_sumOfPipes]
def wsX1_count_r2 : List Cond := [Cond.instanceMethod yX0_sumOfPipes, Cond.selects RX0 yX0_sumOfPipes yX0_sumOfPipes, Cond.code yX0_sumOfPipes cX0_sumOfPipes 4 (some .int), Cond.fieldLink RX0 16 "AqueductTanks$Land" "pipes" "[[I", Cond.methodLink RX0 45 yX0_thirstyTanks, Cond.instanceMethod yX0_thirstyTanks, Cond.selects RX0 yX0_thirstyTanks yX0_thirstyTanks, Cond.code yX0_thirstyTanks cX0_thirstyTanks 3 (some .int), Cond.methodLink RX0 49 yX0_isThirsty, Cond.instanceMethod yX0_isThirsty, Cond.selects RX0 yX0_isThirsty yX0_isThirsty, Cond.code yX0_isThirsty cX0_isThirsty 2 (some .boolean)]
def wsX1_count : List Cond := .code yX1_count cX1_count 2 (some .int) :: ((wsX1_count_r1 ++ wsX1_count_r2) ++ wsX10 ++ wsX00 ++ (vx_atS RX1 114 "java/lang/IndexOutOfBoundsException" ["java/lang/RuntimeException", "java/lang/Exception"]).filter goodWord)
def wsX1_reach : List Cond := .code yX1_reach cX1_reach 2 (some .int) :: ([.fieldLink RX1 10 "AqueductTanks" "land" "LAqueductTanks$Land;", .methodLink RX1 42 yX1_needTank, .instanceMethod yX1_needTank, .selects RX1 yX1_needTank yX1_needTank, .initialized RX1, .code yX1_needTank cX1_needTank 2 none, .fieldLink RX1 107 "AqueductTanks$Land" "tankCount" "I", .methodLink RX1 62 yX1_needIndex, .static yX1_needIndex, .code yX1_needIndex cX1_needIndex 1 none, .classLink RX1 110 "java/lang/IndexOutOfBoundsException", .initialized "java/lang/IndexOutOfBoundsException", .methodLink RX1 73 yX0_reachedFrom, .instanceMethod yX0_reachedFrom, .selects RX0 yX0_reachedFrom yX0_reachedFrom, .initialized RX0, .code yX0_reachedFrom cX0_reachedFrom 6 (some .int), .fieldLink RX0 19 "AqueductTanks$Land" "tankCount" "I", .fieldLink RX0 23 "AqueductTanks$Land" "pipeCount" "I", .fieldLink RX0 16 "AqueductTanks$Land" "pipes" "[[I"] ++ wsX10 ++ wsX00 ++ (vx_atS RX1 114 "java/lang/IndexOutOfBoundsException" ["java/lang/RuntimeException", "java/lang/Exception"]).filter goodWord)
def wsX1_suspect : List Cond := .code yX1_suspect cX1_suspect 5 (some .int) :: ([.fieldLink RX1 10 "AqueductTanks" "land" "LAqueductTanks$Land;", .fieldLink RX1 76 "AqueductTanks$Land" "pipeCount" "I", .fieldLink RX1 59 "AqueductTanks$Land" "pipes" "[[I"] ++ wsX10 ++ wsX00)
def wsX1_pass_r1 : List Cond := [Cond.fieldLink RX1 10 "AqueductTanks" "land" "LAqueductTanks$Land;", Cond.methodLink RX1 19 yX1_isWithin, Cond.static yX1_isWithin, Cond.initialized RX1, Cond.code yX1_isWithin cX1_isWithin 3 (some .boolean), Cond.methodLink RX1 23 yX1_needArgument, Cond.static yX1_needArgument, Cond.code yX1_needArgument cX1_needArgument 1 none, Cond.classLink RX1 115 "java/lang/IllegalArgumentException", Cond.initialized "java/lang/IllegalArgumentException", Cond.methodLink RX1 80 yX0_drunkIn, Cond.instanceMethod yX0_drunkIn, Cond.selects RX0 yX0_drunkIn yX0_drunkIn, Cond.initialized RX0, Cond.code yX0_drunkIn cX0_drunkIn 4 (some .int), Cond.methodLink RX0 39 yX0_sumOfTanks, Cond.instanceMethod yX0_sumOfTanks, Cond.selects RX0 yX0_sumOfTanks yX0_sumOfTanks, Cond.code yX0_sumOfTanks cX0_sumOfTanks 4 (some .int), Cond.fieldLink RX0 19 "AqueductTanks$Land" "tankCount" "I", Cond.fieldLink RX0 13 "AqueductTanks$Land" "tanks" "[[I", Cond.methodLink RX0 66 yX0_goThroughDay, Cond.instanceMethod yX0_goThroughDay, Cond.selects RX0 yX0_goThroughDay yX0_goThroughDay]
def wsX1_pass_r2 : List Cond := [Cond.code yX0_goThroughDay cX0_goThroughDay 2 none, Cond.fieldLink RX0 23 "AqueductTanks$Land" "pipeCount" "I", Cond.fieldLink RX0 26 "AqueductTanks$Land" "day" "I", Cond.methodLink RX0 69 yX0_feed, Cond.static yX0_feed, Cond.code yX0_feed cX0_feed 1 none, Cond.methodLink RX0 83 yX0_takeInWater, Cond.static yX0_takeInWater, Cond.code yX0_takeInWater cX0_takeInWater 4 none, Cond.methodLink RX0 57 Lib.Math.max.name, Cond.static Lib.Math.max.name, Cond.initialized "java/lang/Math", Cond.code Lib.Math.max.name Lib.Math.max.code 2 (some .int), Cond.methodLink RX0 87 yX0_takeInMud, Cond.static yX0_takeInMud, Cond.code yX0_takeInMud cX0_takeInMud 2 none, Cond.methodLink RX0 63 Lib.Math.min.name, Cond.static Lib.Math.min.name, Cond.code Lib.Math.min.name Lib.Math.min.code 2 (some .int), Cond.methodLink RX0 73 yX0_flowThrough, Cond.instanceMethod yX0_flowThrough, Cond.selects RX0 yX0_flowThrough yX0_flowThrough, Cond.code yX0_flowThrough cX0_flowThrough 7 none, Cond.fieldLink RX0 16 "AqueductTanks$Land" "pipes" "[[I"]
def wsX1_pass_r3 : List Cond := [Cond.methodLink RX0 35 yX0_whatCanFlow, Cond.instanceMethod yX0_whatCanFlow, Cond.selects RX0 yX0_whatCanFlow yX0_whatCanFlow, Cond.code yX0_whatCanFlow cX0_whatCanFlow 7 (some .int), Cond.methodLink RX0 53 yX0_head, Cond.static yX0_head, Cond.code yX0_head cX0_head 1 (some .int), Cond.methodLink RX0 90 yX0_wanderMud, Cond.static yX0_wanderMud, Cond.code yX0_wanderMud cX0_wanderMud 4 none, Cond.methodLink RX0 77 yX0_growCrusts, Cond.instanceMethod yX0_growCrusts, Cond.selects RX0 yX0_growCrusts yX0_growCrusts, Cond.code yX0_growCrusts cX0_growCrusts 3 none, Cond.methodLink RX0 80 yX0_drinkFrom, Cond.static yX0_drinkFrom, Cond.code yX0_drinkFrom cX0_drinkFrom 3 none]
def wsX1_pass : List Cond := .code yX1_pass cX1_pass 2 (some .int) :: ((wsX1_pass_r1 ++ (wsX1_pass_r2 ++ wsX1_pass_r3)) ++ wsX10 ++ wsX00 ++ (vx_atS RX1 119 "java/lang/IllegalArgumentException" ["java/lang/RuntimeException", "java/lang/Exception"]).filter goodWord)
def wsX1_foresee_r1 : List Cond := [Cond.fieldLink RX1 16 "AqueductTanks" "trial" "LAqueductTanks$Land;", Cond.fieldLink RX1 10 "AqueductTanks" "land" "LAqueductTanks$Land;", Cond.methodLink RX1 19 yX1_isWithin, Cond.static yX1_isWithin, Cond.initialized RX1, Cond.code yX1_isWithin cX1_isWithin 3 (some .boolean), Cond.methodLink RX1 23 yX1_needArgument, Cond.static yX1_needArgument, Cond.code yX1_needArgument cX1_needArgument 1 none, Cond.classLink RX1 115 "java/lang/IllegalArgumentException", Cond.initialized "java/lang/IllegalArgumentException", Cond.methodLink RX1 62 yX1_needIndex, Cond.static yX1_needIndex, Cond.code yX1_needIndex cX1_needIndex 1 none, Cond.classLink RX1 110 "java/lang/IndexOutOfBoundsException", Cond.initialized "java/lang/IndexOutOfBoundsException", Cond.methodLink RX1 83 yX0_copyFrom, Cond.instanceMethod yX0_copyFrom, Cond.selects RX0 yX0_copyFrom yX0_copyFrom, Cond.initialized RX0, Cond.code yX0_copyFrom cX0_copyFrom 3 none, Cond.fieldLink RX0 26 "AqueductTanks$Land" "day" "I", Cond.fieldLink RX0 19 "AqueductTanks$Land" "tankCount" "I", Cond.fieldLink RX0 23 "AqueductTanks$Land" "pipeCount" "I"]
def wsX1_foresee_r2 : List Cond := [Cond.fieldLink RX0 13 "AqueductTanks$Land" "tanks" "[[I", Cond.methodLink RX0 29 arraycopyName, Cond.native arraycopyName, Cond.static arraycopyName, Cond.initialized "java/lang/System", Cond.fieldLink RX0 16 "AqueductTanks$Land" "pipes" "[[I", Cond.methodLink RX1 80 yX0_drunkIn, Cond.instanceMethod yX0_drunkIn, Cond.selects RX0 yX0_drunkIn yX0_drunkIn, Cond.code yX0_drunkIn cX0_drunkIn 4 (some .int), Cond.methodLink RX0 39 yX0_sumOfTanks, Cond.instanceMethod yX0_sumOfTanks, Cond.selects RX0 yX0_sumOfTanks yX0_sumOfTanks, Cond.code yX0_sumOfTanks cX0_sumOfTanks 4 (some .int), Cond.methodLink RX0 66 yX0_goThroughDay, Cond.instanceMethod yX0_goThroughDay, Cond.selects RX0 yX0_goThroughDay yX0_goThroughDay, Cond.code yX0_goThroughDay cX0_goThroughDay 2 none, Cond.methodLink RX0 69 yX0_feed, Cond.static yX0_feed, Cond.code yX0_feed cX0_feed 1 none, Cond.methodLink RX0 83 yX0_takeInWater, Cond.static yX0_takeInWater, Cond.code yX0_takeInWater cX0_takeInWater 4 none]
def wsX1_foresee_r3 : List Cond := [Cond.methodLink RX0 57 Lib.Math.max.name, Cond.static Lib.Math.max.name, Cond.initialized "java/lang/Math", Cond.code Lib.Math.max.name Lib.Math.max.code 2 (some .int), Cond.methodLink RX0 87 yX0_takeInMud, Cond.static yX0_takeInMud, Cond.code yX0_takeInMud cX0_takeInMud 2 none, Cond.methodLink RX0 63 Lib.Math.min.name, Cond.static Lib.Math.min.name, Cond.code Lib.Math.min.name Lib.Math.min.code 2 (some .int), Cond.methodLink RX0 73 yX0_flowThrough, Cond.instanceMethod yX0_flowThrough, Cond.selects RX0 yX0_flowThrough yX0_flowThrough, Cond.code yX0_flowThrough cX0_flowThrough 7 none, Cond.methodLink RX0 35 yX0_whatCanFlow, Cond.instanceMethod yX0_whatCanFlow, Cond.selects RX0 yX0_whatCanFlow yX0_whatCanFlow, Cond.code yX0_whatCanFlow cX0_whatCanFlow 7 (some .int), Cond.methodLink RX0 53 yX0_head, Cond.static yX0_head, Cond.code yX0_head cX0_head 1 (some .int), Cond.methodLink RX0 90 yX0_wanderMud, Cond.static yX0_wanderMud, Cond.code yX0_wanderMud cX0_wanderMud 4 none]
def wsX1_foresee_r4 : List Cond := [Cond.methodLink RX0 77 yX0_growCrusts, Cond.instanceMethod yX0_growCrusts, Cond.selects RX0 yX0_growCrusts yX0_growCrusts, Cond.code yX0_growCrusts cX0_growCrusts 3 none, Cond.methodLink RX0 80 yX0_drinkFrom, Cond.static yX0_drinkFrom, Cond.code yX0_drinkFrom cX0_drinkFrom 3 none, Cond.methodLink RX1 87 yX0_sumOfPipes, Cond.instanceMethod yX0_sumOfPipes, Cond.selects RX0 yX0_sumOfPipes yX0_sumOfPipes, Cond.code yX0_sumOfPipes cX0_sumOfPipes 4 (some .int), Cond.methodLink RX1 90 yX0_sumOfTanks]
def wsX1_foresee : List Cond := .code yX1_foresee cX1_foresee 4 (some .int) :: ((wsX1_foresee_r1 ++ (wsX1_foresee_r2 ++ (wsX1_foresee_r3 ++ wsX1_foresee_r4))) ++ wsX10 ++ wsX00 ++ (vx_atS RX1 119 "java/lang/IllegalArgumentException" ["java/lang/RuntimeException", "java/lang/Exception"]).filter goodWord ++ (vx_atS RX1 114 "java/lang/IndexOutOfBoundsException" ["java/lang/RuntimeException", "java/lang/Exception"]).filter goodWord)
def wsX1_sated_r1 : List Cond := [Cond.fieldLink RX1 16 "AqueductTanks" "trial" "LAqueductTanks$Land;", Cond.fieldLink RX1 10 "AqueductTanks" "land" "LAqueductTanks$Land;", Cond.methodLink RX1 42 yX1_needTank, Cond.instanceMethod yX1_needTank, Cond.selects RX1 yX1_needTank yX1_needTank, Cond.initialized RX1, Cond.code yX1_needTank cX1_needTank 2 none, Cond.fieldLink RX1 107 "AqueductTanks$Land" "tankCount" "I", Cond.methodLink RX1 62 yX1_needIndex, Cond.static yX1_needIndex, Cond.code yX1_needIndex cX1_needIndex 1 none, Cond.classLink RX1 110 "java/lang/IndexOutOfBoundsException", Cond.initialized "java/lang/IndexOutOfBoundsException", Cond.methodLink RX1 83 yX0_copyFrom, Cond.instanceMethod yX0_copyFrom, Cond.selects RX0 yX0_copyFrom yX0_copyFrom, Cond.initialized RX0, Cond.code yX0_copyFrom cX0_copyFrom 3 none, Cond.fieldLink RX0 26 "AqueductTanks$Land" "day" "I", Cond.fieldLink RX0 19 "AqueductTanks$Land" "tankCount" "I", Cond.fieldLink RX0 23 "AqueductTanks$Land" "pipeCount" "I", Cond.fieldLink RX0 13 "AqueductTanks$Land" "tanks" "[[I", Cond.methodLink RX0 29 arraycopyName, Cond.native arraycopyName]
def wsX1_sated_r2 : List Cond := [Cond.static arraycopyName, Cond.initialized "java/lang/System", Cond.fieldLink RX0 16 "AqueductTanks$Land" "pipes" "[[I", Cond.methodLink RX1 93 yX0_goThroughDay, Cond.instanceMethod yX0_goThroughDay, Cond.selects RX0 yX0_goThroughDay yX0_goThroughDay, Cond.code yX0_goThroughDay cX0_goThroughDay 2 none, Cond.methodLink RX0 69 yX0_feed, Cond.static yX0_feed, Cond.code yX0_feed cX0_feed 1 none, Cond.methodLink RX0 83 yX0_takeInWater, Cond.static yX0_takeInWater, Cond.code yX0_takeInWater cX0_takeInWater 4 none, Cond.methodLink RX0 57 Lib.Math.max.name, Cond.static Lib.Math.max.name, Cond.initialized "java/lang/Math", Cond.code Lib.Math.max.name Lib.Math.max.code 2 (some .int), Cond.methodLink RX0 87 yX0_takeInMud, Cond.static yX0_takeInMud, Cond.code yX0_takeInMud cX0_takeInMud 2 none, Cond.methodLink RX0 63 Lib.Math.min.name, Cond.static Lib.Math.min.name, Cond.code Lib.Math.min.name Lib.Math.min.code 2 (some .int), Cond.methodLink RX0 73 yX0_flowThrough]
def wsX1_sated_r3 : List Cond := [Cond.instanceMethod yX0_flowThrough, Cond.selects RX0 yX0_flowThrough yX0_flowThrough, Cond.code yX0_flowThrough cX0_flowThrough 7 none, Cond.methodLink RX0 35 yX0_whatCanFlow, Cond.instanceMethod yX0_whatCanFlow, Cond.selects RX0 yX0_whatCanFlow yX0_whatCanFlow, Cond.code yX0_whatCanFlow cX0_whatCanFlow 7 (some .int), Cond.methodLink RX0 53 yX0_head, Cond.static yX0_head, Cond.code yX0_head cX0_head 1 (some .int), Cond.methodLink RX0 90 yX0_wanderMud, Cond.static yX0_wanderMud, Cond.code yX0_wanderMud cX0_wanderMud 4 none, Cond.methodLink RX0 77 yX0_growCrusts, Cond.instanceMethod yX0_growCrusts, Cond.selects RX0 yX0_growCrusts yX0_growCrusts, Cond.code yX0_growCrusts cX0_growCrusts 3 none, Cond.methodLink RX0 80 yX0_drinkFrom, Cond.static yX0_drinkFrom, Cond.code yX0_drinkFrom cX0_drinkFrom 3 none, Cond.methodLink RX1 96 yX0_isThirsty, Cond.instanceMethod yX0_isThirsty, Cond.selects RX0 yX0_isThirsty yX0_isThirsty, Cond.code yX0_isThirsty cX0_isThirsty 2 (some .boolean)]
def wsX1_sated : List Cond := .code yX1_sated cX1_sated 3 (some .int) :: ((wsX1_sated_r1 ++ (wsX1_sated_r2 ++ wsX1_sated_r3)) ++ wsX10 ++ wsX00 ++ (vx_atS RX1 114 "java/lang/IndexOutOfBoundsException" ["java/lang/RuntimeException", "java/lang/Exception"]).filter goodWord)
def wsX1_mean : List Cond := .code yX1_mean cX1_mean 1 (some .double) :: ([.fieldLink RX1 10 "AqueductTanks" "land" "LAqueductTanks$Land;", .fieldLink RX1 100 "AqueductTanks$Land" "day" "I", .methodLink RX1 90 yX0_sumOfTanks, .instanceMethod yX0_sumOfTanks, .selects RX0 yX0_sumOfTanks yX0_sumOfTanks, .initialized RX0, .code yX0_sumOfTanks cX0_sumOfTanks 4 (some .int), .fieldLink RX0 19 "AqueductTanks$Land" "tankCount" "I", .fieldLink RX0 13 "AqueductTanks$Land" "tanks" "[[I"] ++ wsX10 ++ wsX00)
def wsX2_init : List Cond := .code yX2_init cX2_init 1 none :: ([.methodLink RX2 1 objectInit, .instanceMethod objectInit, .code objectInit ⟨#[0xb1]⟩ 1 none])
def wsX3_init : List Cond := .code yX3_init cX3_init 1 none :: ([.methodLink RX3 1 objectInit, .instanceMethod objectInit, .code objectInit ⟨#[0xb1]⟩ 1 none, .classLink RX3 7 RX4, .fieldLink RX3 9 "AqueductTanksLaw$Sim" "tanks" "[LAqueductTanksLaw$Tank;", .classLink RX3 15 RX2, .fieldLink RX3 17 "AqueductTanksLaw$Sim" "pipes" "[LAqueductTanksLaw$Pipe;"] ++ wsX30)
def wsX4_init : List Cond := .code yX4_init cX4_init 1 none :: ([.methodLink RX4 1 objectInit, .instanceMethod objectInit, .code objectInit ⟨#[0xb1]⟩ 1 none])
def wsX3_build : List Cond := .code yX3_build cX3_build 6 none :: ([.fieldLink RX3 9 "AqueductTanksLaw$Sim" "tanks" "[LAqueductTanksLaw$Tank;", .classLink RX3 7 RX4, .instantiable RX4 8, .initialized RX4, .fieldLink RX3 34 "AqueductTanksLaw$Tank" "height" "I", .fieldLink RX3 37 "AqueductTanksLaw$Tank" "spring" "I", .fieldLink RX3 40 "AqueductTanksLaw$Tank" "thirst" "I", .instanceMethod yX4_init, .code yX4_init cX4_init 1 none, .methodLink RX4 1 objectInit, .instanceMethod objectInit, .code objectInit ⟨#[0xb1]⟩ 1 none] ++ wsX30 ++ wsX40)
def wsX3_lay : List Cond := .code yX3_lay cX3_lay 7 none :: ([.fieldLink RX3 17 "AqueductTanksLaw$Sim" "pipes" "[LAqueductTanksLaw$Pipe;", .classLink RX3 15 RX2, .instantiable RX2 9, .initialized RX2, .fieldLink RX3 44 "AqueductTanksLaw$Pipe" "from" "I", .fieldLink RX3 47 "AqueductTanksLaw$Pipe" "to" "I", .fieldLink RX3 50 "AqueductTanksLaw$Pipe" "width" "I", .fieldLink RX3 53 "AqueductTanksLaw$Pipe" "dip" "I", .instanceMethod yX2_init, .code yX2_init cX2_init 1 none, .methodLink RX2 1 objectInit, .instanceMethod objectInit, .code objectInit ⟨#[0xb1]⟩ 1 none] ++ wsX30 ++ wsX20)
def wsX3_flows : List Cond := .code yX3_flows cX3_flows 6 (some .int) :: ([.fieldLink RX3 9 "AqueductTanksLaw$Sim" "tanks" "[LAqueductTanksLaw$Tank;", .fieldLink RX3 44 "AqueductTanksLaw$Pipe" "from" "I", .fieldLink RX3 47 "AqueductTanksLaw$Pipe" "to" "I", .fieldLink RX3 34 "AqueductTanksLaw$Tank" "height" "I", .fieldLink RX3 56 "AqueductTanksLaw$Tank" "water" "I", .fieldLink RX3 53 "AqueductTanksLaw$Pipe" "dip" "I", .fieldLink RX3 50 "AqueductTanksLaw$Pipe" "width" "I", .fieldLink RX3 59 "AqueductTanksLaw$Pipe" "crust" "I"] ++ wsX30 ++ wsX20 ++ wsX40)
def wsX4_comes : List Cond := .code yX4_comes cX4_comes 3 none :: ([.fieldLink RX4 20 "AqueductTanksLaw$Tank" "water" "I", .fieldLink RX4 23 "AqueductTanksLaw$Tank" "mud" "I", .fieldLink RX4 26 "AqueductTanksLaw$Tank" "spilled" "I"] ++ wsX40)
def wsX3_pass_r1 : List Cond := [Cond.fieldLink RX3 9 "AqueductTanksLaw$Sim" "tanks" "[LAqueductTanksLaw$Tank;", Cond.fieldLink RX3 37 "AqueductTanksLaw$Tank" "spring" "I", Cond.fieldLink RX3 17 "AqueductTanksLaw$Sim" "pipes" "[LAqueductTanksLaw$Pipe;", Cond.fieldLink RX3 44 "AqueductTanksLaw$Pipe" "from" "I", Cond.fieldLink RX3 70 "AqueductTanksLaw$Pipe" "flowed" "I", Cond.fieldLink RX3 73 "AqueductTanksLaw$Pipe" "tap" "I", Cond.fieldLink RX3 76 "AqueductTanksLaw$Pipe" "lost" "I", Cond.fieldLink RX3 79 "AqueductTanksLaw$Pipe" "all" "I", Cond.fieldLink RX3 82 "AqueductTanksLaw$Tank" "mud" "I", Cond.fieldLink RX3 56 "AqueductTanksLaw$Tank" "water" "I", Cond.fieldLink RX3 47 "AqueductTanksLaw$Pipe" "to" "I", Cond.fieldLink RX3 29 "AqueductTanksLaw$Sim" "day" "I", Cond.fieldLink RX3 59 "AqueductTanksLaw$Pipe" "crust" "I", Cond.fieldLink RX3 40 "AqueductTanksLaw$Tank" "thirst" "I", Cond.fieldLink RX3 85 "AqueductTanksLaw$Tank" "drunk" "I", Cond.fieldLink RX3 88 "AqueductTanksLaw$Tank" "all" "I", Cond.methodLink RX3 62 yX4_comes, Cond.instanceMethod yX4_comes, Cond.selects RX4 yX4_comes yX4_comes, Cond.initialized RX4, Cond.code yX4_comes cX4_comes 3 none, Cond.fieldLink RX4 20 "AqueductTanksLaw$Tank" "water" "I", Cond.fieldLink RX4 23 "AqueductTanksLaw$Tank" "mud" "I", Cond.fieldLink RX4 26 "AqueductTanksLaw$Tank" "spilled" "I"]
def wsX3_pass_r2 : List Cond := [Cond.methodLink RX3 66 yX3_flows, Cond.instanceMethod yX3_flows, Cond.selects RX3 yX3_flows yX3_flows, Cond.initialized RX3, Cond.code yX3_flows cX3_flows 6 (some .int), Cond.fieldLink RX3 34 "AqueductTanksLaw$Tank" "height" "I", Cond.fieldLink RX3 53 "AqueductTanksLaw$Pipe" "dip" "I", Cond.fieldLink RX3 50 "AqueductTanksLaw$Pipe" "width" "I"]
def wsX3_pass : List Cond := .code yX3_pass cX3_pass 8 (some .int) :: ((wsX3_pass_r1 ++ wsX3_pass_r2) ++ wsX30 ++ wsX40 ++ wsX20)
def wsX3_water : List Cond := .code yX3_water cX3_water 6 (some .int) :: ([.fieldLink RX3 9 "AqueductTanksLaw$Sim" "tanks" "[LAqueductTanksLaw$Tank;", .fieldLink RX3 56 "AqueductTanksLaw$Tank" "water" "I"] ++ wsX30 ++ wsX40)
def wsX3_lost : List Cond := .code yX3_lost cX3_lost 6 (some .int) :: ([.fieldLink RX3 17 "AqueductTanksLaw$Sim" "pipes" "[LAqueductTanksLaw$Pipe;", .fieldLink RX3 79 "AqueductTanksLaw$Pipe" "all" "I"] ++ wsX30 ++ wsX20)
def wsX3_isSame_r1 : List Cond := [Cond.fieldLink RX3 9 "AqueductTanksLaw$Sim" "tanks" "[LAqueductTanksLaw$Tank;", Cond.arrayClass .int, Cond.fieldLink RX3 34 "AqueductTanksLaw$Tank" "height" "I", Cond.fieldLink RX3 37 "AqueductTanksLaw$Tank" "spring" "I", Cond.fieldLink RX3 40 "AqueductTanksLaw$Tank" "thirst" "I", Cond.fieldLink RX3 56 "AqueductTanksLaw$Tank" "water" "I", Cond.fieldLink RX3 82 "AqueductTanksLaw$Tank" "mud" "I", Cond.fieldLink RX3 85 "AqueductTanksLaw$Tank" "drunk" "I", Cond.fieldLink RX3 88 "AqueductTanksLaw$Tank" "all" "I", Cond.fieldLink RX3 89 "AqueductTanksLaw$Tank" "spilled" "I", Cond.fieldLink RX3 17 "AqueductTanksLaw$Sim" "pipes" "[LAqueductTanksLaw$Pipe;", Cond.fieldLink RX3 44 "AqueductTanksLaw$Pipe" "from" "I", Cond.fieldLink RX3 47 "AqueductTanksLaw$Pipe" "to" "I", Cond.fieldLink RX3 50 "AqueductTanksLaw$Pipe" "width" "I", Cond.fieldLink RX3 53 "AqueductTanksLaw$Pipe" "dip" "I", Cond.fieldLink RX3 59 "AqueductTanksLaw$Pipe" "crust" "I", Cond.fieldLink RX3 70 "AqueductTanksLaw$Pipe" "flowed" "I", Cond.fieldLink RX3 76 "AqueductTanksLaw$Pipe" "lost" "I", Cond.fieldLink RX3 79 "AqueductTanksLaw$Pipe" "all" "I", Cond.fieldLink RX3 29 "AqueductTanksLaw$Sim" "day" "I", Cond.methodLink RX3 92 yX1_tank, Cond.instanceMethod yX1_tank, Cond.selects RX1 yX1_tank yX1_tank, Cond.initialized RX1]
def wsX3_isSame_r2 : List Cond := [Cond.code yX1_tank cX1_tank 3 (some .int), Cond.fieldLink RX1 10 "AqueductTanks" "land" "LAqueductTanks$Land;", Cond.fieldLink RX1 52 "AqueductTanks$Land" "tanks" "[[I", Cond.methodLink RX1 42 yX1_needTank, Cond.instanceMethod yX1_needTank, Cond.selects RX1 yX1_needTank yX1_needTank, Cond.code yX1_needTank cX1_needTank 2 none, Cond.fieldLink RX1 107 "AqueductTanks$Land" "tankCount" "I", Cond.methodLink RX1 62 yX1_needIndex, Cond.static yX1_needIndex, Cond.code yX1_needIndex cX1_needIndex 1 none, Cond.classLink RX1 110 "java/lang/IndexOutOfBoundsException", Cond.initialized "java/lang/IndexOutOfBoundsException", Cond.methodLink RX1 19 yX1_isWithin, Cond.static yX1_isWithin, Cond.code yX1_isWithin cX1_isWithin 3 (some .boolean), Cond.methodLink RX3 66 yX3_flows, Cond.instanceMethod yX3_flows, Cond.selects RX3 yX3_flows yX3_flows, Cond.initialized RX3, Cond.code yX3_flows cX3_flows 6 (some .int), Cond.methodLink RX3 98 yX1_pipe, Cond.instanceMethod yX1_pipe, Cond.selects RX1 yX1_pipe yX1_pipe]
def wsX3_isSame_r3 : List Cond := [Cond.code yX1_pipe cX1_pipe 3 (some .int), Cond.methodLink RX1 56 yX1_needPipe, Cond.instanceMethod yX1_needPipe, Cond.selects RX1 yX1_needPipe yX1_needPipe, Cond.code yX1_needPipe cX1_needPipe 2 none, Cond.fieldLink RX1 76 "AqueductTanks$Land" "pipeCount" "I", Cond.methodLink RX1 65 yX0_ofPipe, Cond.instanceMethod yX0_ofPipe, Cond.selects RX0 yX0_ofPipe yX0_ofPipe, Cond.initialized RX0, Cond.code yX0_ofPipe cX0_ofPipe 3 (some .int), Cond.fieldLink RX0 16 "AqueductTanks$Land" "pipes" "[[I", Cond.methodLink RX0 35 yX0_whatCanFlow, Cond.instanceMethod yX0_whatCanFlow, Cond.selects RX0 yX0_whatCanFlow yX0_whatCanFlow, Cond.code yX0_whatCanFlow cX0_whatCanFlow 7 (some .int), Cond.fieldLink RX0 13 "AqueductTanks$Land" "tanks" "[[I", Cond.methodLink RX0 57 Lib.Math.max.name, Cond.static Lib.Math.max.name, Cond.initialized "java/lang/Math", Cond.code Lib.Math.max.name Lib.Math.max.code 2 (some .int), Cond.methodLink RX0 63 Lib.Math.min.name, Cond.static Lib.Math.min.name, Cond.code Lib.Math.min.name Lib.Math.min.code 2 (some .int)]
def wsX3_isSame_r4 : List Cond := [Cond.methodLink RX0 53 yX0_head, Cond.static yX0_head, Cond.code yX0_head cX0_head 1 (some .int), Cond.methodLink RX3 101 yX3_water, Cond.instanceMethod yX3_water, Cond.selects RX3 yX3_water yX3_water, Cond.code yX3_water cX3_water 6 (some .int), Cond.methodLink RX3 104 yX3_lost, Cond.instanceMethod yX3_lost, Cond.selects RX3 yX3_lost yX3_lost, Cond.code yX3_lost cX3_lost 6 (some .int), Cond.methodLink RX3 106 yX1_count, Cond.instanceMethod yX1_count, Cond.selects RX1 yX1_count yX1_count, Cond.code yX1_count cX1_count 2 (some .int), Cond.methodLink RX1 69 yX0_ofAll, Cond.instanceMethod yX0_ofAll, Cond.selects RX0 yX0_ofAll yX0_ofAll, Cond.code yX0_ofAll cX0_ofAll 2 (some .int), Cond.fieldLink RX0 26 "AqueductTanks$Land" "day" "I", Cond.fieldLink RX0 19 "AqueductTanks$Land" "tankCount" "I", Cond.fieldLink RX0 23 "AqueductTanks$Land" "pipeCount" "I", Cond.methodLink RX0 39 yX0_sumOfTanks, Cond.instanceMethod yX0_sumOfTanks]
def wsX3_isSame_r5 : List Cond := [Cond.selects RX0 yX0_sumOfTanks yX0_sumOfTanks, Cond.code yX0_sumOfTanks cX0_sumOfTanks 4 (some .int), Cond.methodLink RX0 42 yX0_sumOfPipes, Cond.instanceMethod yX0_sumOfPipes, Cond.selects RX0 yX0_sumOfPipes yX0_sumOfPipes, Cond.code yX0_sumOfPipes cX0_sumOfPipes 4 (some .int), Cond.methodLink RX0 45 yX0_thirstyTanks, Cond.instanceMethod yX0_thirstyTanks, Cond.selects RX0 yX0_thirstyTanks yX0_thirstyTanks, Cond.code yX0_thirstyTanks cX0_thirstyTanks 3 (some .int), Cond.methodLink RX0 49 yX0_isThirsty, Cond.instanceMethod yX0_isThirsty, Cond.selects RX0 yX0_isThirsty yX0_isThirsty, Cond.code yX0_isThirsty cX0_isThirsty 2 (some .boolean), Cond.methodLink RX3 110 yX1_suspect, Cond.instanceMethod yX1_suspect, Cond.selects RX1 yX1_suspect yX1_suspect, Cond.code yX1_suspect cX1_suspect 5 (some .int), Cond.fieldLink RX1 59 "AqueductTanks$Land" "pipes" "[[I", Cond.methodLink RX3 113 yX1_mean, Cond.instanceMethod yX1_mean, Cond.selects RX1 yX1_mean yX1_mean, Cond.code yX1_mean cX1_mean 1 (some .double), Cond.fieldLink RX1 100 "AqueductTanks$Land" "day" "I"]
def wsX3_isSame_r6 : List Cond := [Cond.methodLink RX1 90 yX0_sumOfTanks]
def wsX3_isSame : List Cond := .code yX3_isSame cX3_isSame 11 (some .boolean) :: ((wsX3_isSame_r1 ++ (wsX3_isSame_r2 ++ (wsX3_isSame_r3 ++ (wsX3_isSame_r4 ++ (wsX3_isSame_r5 ++ wsX3_isSame_r6))))) ++ wsX30 ++ wsX40 ++ wsX20 ++ wsX10 ++ wsX00 ++ (vx_atS RX1 114 "java/lang/IndexOutOfBoundsException" ["java/lang/RuntimeException", "java/lang/Exception"]).filter goodWord)
def wsJ9_max_7cf53 : List Cond := .code yJ9_max_7cf53 cJ9_max_7cf53 2 (some .int) :: ([])
def wsJ9_min_7cf53 : List Cond := .code yJ9_min_7cf53 cJ9_min_7cf53 2 (some .int) :: ([])
def wsL_below : List Cond := .code yL_below cL_below 2 (some .int) :: ([.constant RL 7 (2147483647)])
def wsL_cell : List Cond := .code yL_cell cL_cell 2 (some .int) :: ([.constant RL 8 (790386105)])
def wsL_act_r1 : List Cond := [Cond.fieldLink RL 9 "AqueductTanksLaw$Sim" "tanks" "[LAqueductTanksLaw$Tank;", Cond.fieldLink RL 15 "AqueductTanksLaw$Sim" "pipes" "[LAqueductTanksLaw$Pipe;", Cond.fieldLink RL 41 "AqueductTanksLaw$Tank" "spring" "I", Cond.fieldLink RL 47 "AqueductTanksLaw$Tank" "thirst" "I", Cond.fieldLink RL 53 "AqueductTanksLaw$Tank" "mud" "I", Cond.fieldLink RL 56 "AqueductTanksLaw$Tank" "water" "I", Cond.fieldLink RL 63 "AqueductTanksLaw$Pipe" "crust" "I", Cond.fieldLink RL 71 "AqueductTanksLaw$Pipe" "tap" "I", Cond.methodLink RL 19 yL_below, Cond.static yL_below, Cond.initialized RL, Cond.code yL_below cL_below 2 (some .int), Cond.constant RL 7 (2147483647), Cond.methodLink RL 25 yX3_build, Cond.instanceMethod yX3_build, Cond.selects RX3 yX3_build yX3_build, Cond.initialized RX3, Cond.code yX3_build cX3_build 6 none, Cond.fieldLink RX3 9 "AqueductTanksLaw$Sim" "tanks" "[LAqueductTanksLaw$Tank;", Cond.classLink RX3 7 RX4, Cond.instantiable RX4 8, Cond.initialized RX4, Cond.fieldLink RX3 34 "AqueductTanksLaw$Tank" "height" "I", Cond.fieldLink RX3 37 "AqueductTanksLaw$Tank" "spring" "I"]
def wsL_act_r2 : List Cond := [Cond.fieldLink RX3 40 "AqueductTanksLaw$Tank" "thirst" "I", Cond.instanceMethod yX4_init, Cond.code yX4_init cX4_init 1 none, Cond.methodLink RX4 1 objectInit, Cond.instanceMethod objectInit, Cond.code objectInit ⟨#[0xb1]⟩ 1 none, Cond.methodLink RL 29 yX1_build, Cond.instanceMethod yX1_build, Cond.selects RX1 yX1_build yX1_build, Cond.initialized RX1, Cond.code yX1_build cX1_build 5 (some .int), Cond.classLink RX1 35 "java/lang/IllegalStateException", Cond.initialized "java/lang/IllegalStateException", Cond.fieldLink RX1 10 "AqueductTanks" "land" "LAqueductTanks$Land;", Cond.methodLink RX1 19 yX1_isWithin, Cond.static yX1_isWithin, Cond.code yX1_isWithin cX1_isWithin 3 (some .boolean), Cond.methodLink RX1 23 yX1_needArgument, Cond.static yX1_needArgument, Cond.code yX1_needArgument cX1_needArgument 1 none, Cond.classLink RX1 115 "java/lang/IllegalArgumentException", Cond.initialized "java/lang/IllegalArgumentException", Cond.methodLink RX1 27 yX1_isSpringAndThirst, Cond.static yX1_isSpringAndThirst]
def wsL_act_r3 : List Cond := [Cond.code yX1_isSpringAndThirst cX1_isSpringAndThirst 2 (some .boolean), Cond.methodLink RX1 31 yX0_addTank, Cond.instanceMethod yX0_addTank, Cond.selects RX0 yX0_addTank yX0_addTank, Cond.initialized RX0, Cond.code yX0_addTank cX0_addTank 5 (some .int), Cond.fieldLink RX0 19 "AqueductTanks$Land" "tankCount" "I", Cond.fieldLink RX0 13 "AqueductTanks$Land" "tanks" "[[I", Cond.methodLink RL 34 yX3_lay, Cond.instanceMethod yX3_lay, Cond.selects RX3 yX3_lay yX3_lay, Cond.code yX3_lay cX3_lay 7 none, Cond.fieldLink RX3 17 "AqueductTanksLaw$Sim" "pipes" "[LAqueductTanksLaw$Pipe;", Cond.classLink RX3 15 RX2, Cond.instantiable RX2 9, Cond.initialized RX2, Cond.fieldLink RX3 44 "AqueductTanksLaw$Pipe" "from" "I", Cond.fieldLink RX3 47 "AqueductTanksLaw$Pipe" "to" "I", Cond.fieldLink RX3 50 "AqueductTanksLaw$Pipe" "width" "I", Cond.fieldLink RX3 53 "AqueductTanksLaw$Pipe" "dip" "I", Cond.instanceMethod yX2_init, Cond.code yX2_init cX2_init 1 none, Cond.methodLink RX2 1 objectInit, Cond.methodLink RL 38 yX1_lay]
def wsL_act_r4 : List Cond := [Cond.instanceMethod yX1_lay, Cond.selects RX1 yX1_lay yX1_lay, Cond.code yX1_lay cX1_lay 6 (some .int), Cond.methodLink RX1 42 yX1_needTank, Cond.instanceMethod yX1_needTank, Cond.selects RX1 yX1_needTank yX1_needTank, Cond.code yX1_needTank cX1_needTank 2 none, Cond.fieldLink RX1 107 "AqueductTanks$Land" "tankCount" "I", Cond.methodLink RX1 62 yX1_needIndex, Cond.static yX1_needIndex, Cond.code yX1_needIndex cX1_needIndex 1 none, Cond.classLink RX1 110 "java/lang/IndexOutOfBoundsException", Cond.initialized "java/lang/IndexOutOfBoundsException", Cond.methodLink RX1 46 yX0_addPipe, Cond.instanceMethod yX0_addPipe, Cond.selects RX0 yX0_addPipe yX0_addPipe, Cond.code yX0_addPipe cX0_addPipe 6 (some .int), Cond.fieldLink RX0 23 "AqueductTanks$Land" "pipeCount" "I", Cond.fieldLink RX0 16 "AqueductTanks$Land" "pipes" "[[I", Cond.methodLink RL 50 yX1_set, Cond.instanceMethod yX1_set, Cond.selects RX1 yX1_set yX1_set, Cond.code yX1_set cX1_set 6 (some .int), Cond.fieldLink RX1 52 "AqueductTanks$Land" "tanks" "[[I"]
def wsL_act_r5 : List Cond := [Cond.methodLink RL 59 yX1_flush, Cond.instanceMethod yX1_flush, Cond.selects RX1 yX1_flush yX1_flush, Cond.code yX1_flush cX1_flush 4 (some .int), Cond.methodLink RL 68 yX1_scrape, Cond.instanceMethod yX1_scrape, Cond.selects RX1 yX1_scrape yX1_scrape, Cond.code yX1_scrape cX1_scrape 4 (some .int), Cond.fieldLink RX1 59 "AqueductTanks$Land" "pipes" "[[I", Cond.methodLink RX1 56 yX1_needPipe, Cond.instanceMethod yX1_needPipe, Cond.selects RX1 yX1_needPipe yX1_needPipe, Cond.code yX1_needPipe cX1_needPipe 2 none, Cond.fieldLink RX1 76 "AqueductTanks$Land" "pipeCount" "I", Cond.methodLink RL 74 yX1_steal, Cond.instanceMethod yX1_steal, Cond.selects RX1 yX1_steal yX1_steal, Cond.code yX1_steal cX1_steal 5 (some .int)]
def wsL_act : List Cond := .code yL_act cL_act 21 (some .boolean) :: ((wsL_act_r1 ++ (wsL_act_r2 ++ (wsL_act_r3 ++ (wsL_act_r4 ++ wsL_act_r5)))) ++ wsX30 ++ wsX40 ++ wsX20 ++ wsX10 ++ wsX00 ++ (vx_atS RX1 39 "java/lang/IllegalStateException" ["java/lang/RuntimeException", "java/lang/Exception"]).filter goodWord ++ (vx_atS RX1 119 "java/lang/IllegalArgumentException" ["java/lang/RuntimeException", "java/lang/Exception"]).filter goodWord ++ (vx_atS RX1 114 "java/lang/IndexOutOfBoundsException" ["java/lang/RuntimeException", "java/lang/Exception"]).filter goodWord)
def wsL_build_r1 : List Cond := [Cond.classLink RL 10 RX3, Cond.instantiable RX3 3, Cond.initialized RX3, Cond.instanceMethod yX3_init, Cond.code yX3_init cX3_init 1 none, Cond.methodLink RX3 1 objectInit, Cond.instanceMethod objectInit, Cond.code objectInit ⟨#[0xb1]⟩ 1 none, Cond.classLink RX3 7 RX4, Cond.fieldLink RX3 9 "AqueductTanksLaw$Sim" "tanks" "[LAqueductTanksLaw$Tank;", Cond.classLink RX3 15 RX2, Cond.fieldLink RX3 17 "AqueductTanksLaw$Sim" "pipes" "[LAqueductTanksLaw$Pipe;", Cond.methodLink RL 78 yL_cell, Cond.static yL_cell, Cond.initialized RL, Cond.code yL_cell cL_cell 2 (some .int), Cond.constant RL 8 (790386105), Cond.methodLink RL 82 yL_act, Cond.static yL_act, Cond.code yL_act cL_act 21 (some .boolean), Cond.fieldLink RL 9 "AqueductTanksLaw$Sim" "tanks" "[LAqueductTanksLaw$Tank;", Cond.fieldLink RL 15 "AqueductTanksLaw$Sim" "pipes" "[LAqueductTanksLaw$Pipe;", Cond.fieldLink RL 41 "AqueductTanksLaw$Tank" "spring" "I", Cond.fieldLink RL 47 "AqueductTanksLaw$Tank" "thirst" "I"]
def wsL_build_r2 : List Cond := [Cond.fieldLink RL 53 "AqueductTanksLaw$Tank" "mud" "I", Cond.fieldLink RL 56 "AqueductTanksLaw$Tank" "water" "I", Cond.fieldLink RL 63 "AqueductTanksLaw$Pipe" "crust" "I", Cond.fieldLink RL 71 "AqueductTanksLaw$Pipe" "tap" "I", Cond.methodLink RL 19 yL_below, Cond.static yL_below, Cond.code yL_below cL_below 2 (some .int), Cond.constant RL 7 (2147483647), Cond.methodLink RL 25 yX3_build, Cond.instanceMethod yX3_build, Cond.selects RX3 yX3_build yX3_build, Cond.code yX3_build cX3_build 6 none, Cond.instantiable RX4 8, Cond.initialized RX4, Cond.fieldLink RX3 34 "AqueductTanksLaw$Tank" "height" "I", Cond.fieldLink RX3 37 "AqueductTanksLaw$Tank" "spring" "I", Cond.fieldLink RX3 40 "AqueductTanksLaw$Tank" "thirst" "I", Cond.instanceMethod yX4_init, Cond.code yX4_init cX4_init 1 none, Cond.methodLink RX4 1 objectInit, Cond.methodLink RL 29 yX1_build, Cond.instanceMethod yX1_build, Cond.selects RX1 yX1_build yX1_build, Cond.initialized RX1]
def wsL_build_r3 : List Cond := [Cond.code yX1_build cX1_build 5 (some .int), Cond.classLink RX1 35 "java/lang/IllegalStateException", Cond.initialized "java/lang/IllegalStateException", Cond.fieldLink RX1 10 "AqueductTanks" "land" "LAqueductTanks$Land;", Cond.methodLink RX1 19 yX1_isWithin, Cond.static yX1_isWithin, Cond.code yX1_isWithin cX1_isWithin 3 (some .boolean), Cond.methodLink RX1 23 yX1_needArgument, Cond.static yX1_needArgument, Cond.code yX1_needArgument cX1_needArgument 1 none, Cond.classLink RX1 115 "java/lang/IllegalArgumentException", Cond.initialized "java/lang/IllegalArgumentException", Cond.methodLink RX1 27 yX1_isSpringAndThirst, Cond.static yX1_isSpringAndThirst, Cond.code yX1_isSpringAndThirst cX1_isSpringAndThirst 2 (some .boolean), Cond.methodLink RX1 31 yX0_addTank, Cond.instanceMethod yX0_addTank, Cond.selects RX0 yX0_addTank yX0_addTank, Cond.initialized RX0, Cond.code yX0_addTank cX0_addTank 5 (some .int), Cond.fieldLink RX0 19 "AqueductTanks$Land" "tankCount" "I", Cond.fieldLink RX0 13 "AqueductTanks$Land" "tanks" "[[I", Cond.methodLink RL 34 yX3_lay, Cond.instanceMethod yX3_lay]
def wsL_build_r4 : List Cond := [Cond.selects RX3 yX3_lay yX3_lay, Cond.code yX3_lay cX3_lay 7 none, Cond.instantiable RX2 9, Cond.initialized RX2, Cond.fieldLink RX3 44 "AqueductTanksLaw$Pipe" "from" "I", Cond.fieldLink RX3 47 "AqueductTanksLaw$Pipe" "to" "I", Cond.fieldLink RX3 50 "AqueductTanksLaw$Pipe" "width" "I", Cond.fieldLink RX3 53 "AqueductTanksLaw$Pipe" "dip" "I", Cond.instanceMethod yX2_init, Cond.code yX2_init cX2_init 1 none, Cond.methodLink RX2 1 objectInit, Cond.methodLink RL 38 yX1_lay, Cond.instanceMethod yX1_lay, Cond.selects RX1 yX1_lay yX1_lay, Cond.code yX1_lay cX1_lay 6 (some .int), Cond.methodLink RX1 42 yX1_needTank, Cond.instanceMethod yX1_needTank, Cond.selects RX1 yX1_needTank yX1_needTank, Cond.code yX1_needTank cX1_needTank 2 none, Cond.fieldLink RX1 107 "AqueductTanks$Land" "tankCount" "I", Cond.methodLink RX1 62 yX1_needIndex, Cond.static yX1_needIndex, Cond.code yX1_needIndex cX1_needIndex 1 none, Cond.classLink RX1 110 "java/lang/IndexOutOfBoundsException"]
def wsL_build_r5 : List Cond := [Cond.initialized "java/lang/IndexOutOfBoundsException", Cond.methodLink RX1 46 yX0_addPipe, Cond.instanceMethod yX0_addPipe, Cond.selects RX0 yX0_addPipe yX0_addPipe, Cond.code yX0_addPipe cX0_addPipe 6 (some .int), Cond.fieldLink RX0 23 "AqueductTanks$Land" "pipeCount" "I", Cond.fieldLink RX0 16 "AqueductTanks$Land" "pipes" "[[I", Cond.methodLink RL 50 yX1_set, Cond.instanceMethod yX1_set, Cond.selects RX1 yX1_set yX1_set, Cond.code yX1_set cX1_set 6 (some .int), Cond.fieldLink RX1 52 "AqueductTanks$Land" "tanks" "[[I", Cond.methodLink RL 59 yX1_flush, Cond.instanceMethod yX1_flush, Cond.selects RX1 yX1_flush yX1_flush, Cond.code yX1_flush cX1_flush 4 (some .int), Cond.methodLink RL 68 yX1_scrape, Cond.instanceMethod yX1_scrape, Cond.selects RX1 yX1_scrape yX1_scrape, Cond.code yX1_scrape cX1_scrape 4 (some .int), Cond.fieldLink RX1 59 "AqueductTanks$Land" "pipes" "[[I", Cond.methodLink RX1 56 yX1_needPipe, Cond.instanceMethod yX1_needPipe, Cond.selects RX1 yX1_needPipe yX1_needPipe]
def wsL_build_r6 : List Cond := [Cond.code yX1_needPipe cX1_needPipe 2 none, Cond.fieldLink RX1 76 "AqueductTanks$Land" "pipeCount" "I", Cond.methodLink RL 74 yX1_steal, Cond.instanceMethod yX1_steal, Cond.selects RX1 yX1_steal yX1_steal, Cond.code yX1_steal cX1_steal 5 (some .int)]
def wsL_build : List Cond := .code yL_build cL_build 4 (some (.object "AqueductTanksLaw$Sim")) :: ((wsL_build_r1 ++ (wsL_build_r2 ++ (wsL_build_r3 ++ (wsL_build_r4 ++ (wsL_build_r5 ++ wsL_build_r6))))) ++ wsX30 ++ wsX40 ++ wsX20 ++ wsX10 ++ wsX00 ++ (vx_atS RX1 39 "java/lang/IllegalStateException" ["java/lang/RuntimeException", "java/lang/Exception"]).filter goodWord ++ (vx_atS RX1 119 "java/lang/IllegalArgumentException" ["java/lang/RuntimeException", "java/lang/Exception"]).filter goodWord ++ (vx_atS RX1 114 "java/lang/IndexOutOfBoundsException" ["java/lang/RuntimeException", "java/lang/Exception"]).filter goodWord)
def wsL_law0_r1 : List Cond := [Cond.classLink RL 30 RX1, Cond.instantiable RX1 2, Cond.initialized RX1, Cond.arrayClass .int, Cond.methodLink RL 114 Lib.Math.max.name, Cond.static Lib.Math.max.name, Cond.initialized "java/lang/Math", Cond.code Lib.Math.max.name Lib.Math.max.code 2 (some .int), Cond.methodLink RL 119 Lib.Math.min.name, Cond.static Lib.Math.min.name, Cond.code Lib.Math.min.name Lib.Math.min.code 2 (some .int), Cond.methodLink RL 86 yX1_init, Cond.instanceMethod yX1_init, Cond.code yX1_init cX1_init 1 none, Cond.methodLink RX1 1 objectInit, Cond.instanceMethod objectInit, Cond.code objectInit ⟨#[0xb1]⟩ 1 none, Cond.classLink RX1 7 RX0, Cond.instantiable RX0 5, Cond.initialized RX0, Cond.fieldLink RX1 10 "AqueductTanks" "land" "LAqueductTanks$Land;", Cond.fieldLink RX1 16 "AqueductTanks" "trial" "LAqueductTanks$Land;", Cond.methodLink RX1 9 yX0_init, Cond.instanceMethod yX0_init]
def wsL_law0_r2 : List Cond := [Cond.code yX0_init cX0_init 1 none, Cond.methodLink RX0 3 objectInit, Cond.classLink RX0 11 "[[I", Cond.fieldLink RX0 13 "AqueductTanks$Land" "tanks" "[[I", Cond.fieldLink RX0 16 "AqueductTanks$Land" "pipes" "[[I", Cond.methodLink RL 87 yL_build, Cond.static yL_build, Cond.initialized RL, Cond.code yL_build cL_build 4 (some (.object "AqueductTanksLaw$Sim")), Cond.classLink RL 10 RX3, Cond.instantiable RX3 3, Cond.initialized RX3, Cond.instanceMethod yX3_init, Cond.code yX3_init cX3_init 1 none, Cond.methodLink RX3 1 objectInit, Cond.classLink RX3 7 RX4, Cond.fieldLink RX3 9 "AqueductTanksLaw$Sim" "tanks" "[LAqueductTanksLaw$Tank;", Cond.classLink RX3 15 RX2, Cond.fieldLink RX3 17 "AqueductTanksLaw$Sim" "pipes" "[LAqueductTanksLaw$Pipe;", Cond.methodLink RL 78 yL_cell, Cond.static yL_cell, Cond.code yL_cell cL_cell 2 (some .int), Cond.constant RL 8 (790386105), Cond.methodLink RL 82 yL_act]
def wsL_law0_r3 : List Cond := [Cond.static yL_act, Cond.code yL_act cL_act 21 (some .boolean), Cond.fieldLink RL 9 "AqueductTanksLaw$Sim" "tanks" "[LAqueductTanksLaw$Tank;", Cond.fieldLink RL 15 "AqueductTanksLaw$Sim" "pipes" "[LAqueductTanksLaw$Pipe;", Cond.fieldLink RL 41 "AqueductTanksLaw$Tank" "spring" "I", Cond.fieldLink RL 47 "AqueductTanksLaw$Tank" "thirst" "I", Cond.fieldLink RL 53 "AqueductTanksLaw$Tank" "mud" "I", Cond.fieldLink RL 56 "AqueductTanksLaw$Tank" "water" "I", Cond.fieldLink RL 63 "AqueductTanksLaw$Pipe" "crust" "I", Cond.fieldLink RL 71 "AqueductTanksLaw$Pipe" "tap" "I", Cond.methodLink RL 19 yL_below, Cond.static yL_below, Cond.code yL_below cL_below 2 (some .int), Cond.constant RL 7 (2147483647), Cond.methodLink RL 25 yX3_build, Cond.instanceMethod yX3_build, Cond.selects RX3 yX3_build yX3_build, Cond.code yX3_build cX3_build 6 none, Cond.instantiable RX4 8, Cond.initialized RX4, Cond.fieldLink RX3 34 "AqueductTanksLaw$Tank" "height" "I", Cond.fieldLink RX3 37 "AqueductTanksLaw$Tank" "spring" "I", Cond.fieldLink RX3 40 "AqueductTanksLaw$Tank" "thirst" "I", Cond.instanceMethod yX4_init]
def wsL_law0_r4 : List Cond := [Cond.code yX4_init cX4_init 1 none, Cond.methodLink RX4 1 objectInit, Cond.methodLink RL 29 yX1_build, Cond.instanceMethod yX1_build, Cond.selects RX1 yX1_build yX1_build, Cond.code yX1_build cX1_build 5 (some .int), Cond.classLink RX1 35 "java/lang/IllegalStateException", Cond.initialized "java/lang/IllegalStateException", Cond.methodLink RX1 19 yX1_isWithin, Cond.static yX1_isWithin, Cond.code yX1_isWithin cX1_isWithin 3 (some .boolean), Cond.methodLink RX1 23 yX1_needArgument, Cond.static yX1_needArgument, Cond.code yX1_needArgument cX1_needArgument 1 none, Cond.classLink RX1 115 "java/lang/IllegalArgumentException", Cond.initialized "java/lang/IllegalArgumentException", Cond.methodLink RX1 27 yX1_isSpringAndThirst, Cond.static yX1_isSpringAndThirst, Cond.code yX1_isSpringAndThirst cX1_isSpringAndThirst 2 (some .boolean), Cond.methodLink RX1 31 yX0_addTank, Cond.instanceMethod yX0_addTank, Cond.selects RX0 yX0_addTank yX0_addTank, Cond.code yX0_addTank cX0_addTank 5 (some .int), Cond.fieldLink RX0 19 "AqueductTanks$Land" "tankCount" "I"]
def wsL_law0_r5 : List Cond := [Cond.methodLink RL 34 yX3_lay, Cond.instanceMethod yX3_lay, Cond.selects RX3 yX3_lay yX3_lay, Cond.code yX3_lay cX3_lay 7 none, Cond.instantiable RX2 9, Cond.initialized RX2, Cond.fieldLink RX3 44 "AqueductTanksLaw$Pipe" "from" "I", Cond.fieldLink RX3 47 "AqueductTanksLaw$Pipe" "to" "I", Cond.fieldLink RX3 50 "AqueductTanksLaw$Pipe" "width" "I", Cond.fieldLink RX3 53 "AqueductTanksLaw$Pipe" "dip" "I", Cond.instanceMethod yX2_init, Cond.code yX2_init cX2_init 1 none, Cond.methodLink RX2 1 objectInit, Cond.methodLink RL 38 yX1_lay, Cond.instanceMethod yX1_lay, Cond.selects RX1 yX1_lay yX1_lay, Cond.code yX1_lay cX1_lay 6 (some .int), Cond.methodLink RX1 42 yX1_needTank, Cond.instanceMethod yX1_needTank, Cond.selects RX1 yX1_needTank yX1_needTank, Cond.code yX1_needTank cX1_needTank 2 none, Cond.fieldLink RX1 107 "AqueductTanks$Land" "tankCount" "I", Cond.methodLink RX1 62 yX1_needIndex, Cond.static yX1_needIndex]
def wsL_law0_r6 : List Cond := [Cond.code yX1_needIndex cX1_needIndex 1 none, Cond.classLink RX1 110 "java/lang/IndexOutOfBoundsException", Cond.initialized "java/lang/IndexOutOfBoundsException", Cond.methodLink RX1 46 yX0_addPipe, Cond.instanceMethod yX0_addPipe, Cond.selects RX0 yX0_addPipe yX0_addPipe, Cond.code yX0_addPipe cX0_addPipe 6 (some .int), Cond.fieldLink RX0 23 "AqueductTanks$Land" "pipeCount" "I", Cond.methodLink RL 50 yX1_set, Cond.instanceMethod yX1_set, Cond.selects RX1 yX1_set yX1_set, Cond.code yX1_set cX1_set 6 (some .int), Cond.fieldLink RX1 52 "AqueductTanks$Land" "tanks" "[[I", Cond.methodLink RL 59 yX1_flush, Cond.instanceMethod yX1_flush, Cond.selects RX1 yX1_flush yX1_flush, Cond.code yX1_flush cX1_flush 4 (some .int), Cond.methodLink RL 68 yX1_scrape, Cond.instanceMethod yX1_scrape, Cond.selects RX1 yX1_scrape yX1_scrape, Cond.code yX1_scrape cX1_scrape 4 (some .int), Cond.fieldLink RX1 59 "AqueductTanks$Land" "pipes" "[[I", Cond.methodLink RX1 56 yX1_needPipe, Cond.instanceMethod yX1_needPipe]
def wsL_law0_r7 : List Cond := [Cond.selects RX1 yX1_needPipe yX1_needPipe, Cond.code yX1_needPipe cX1_needPipe 2 none, Cond.fieldLink RX1 76 "AqueductTanks$Land" "pipeCount" "I", Cond.methodLink RL 74 yX1_steal, Cond.instanceMethod yX1_steal, Cond.selects RX1 yX1_steal yX1_steal, Cond.code yX1_steal cX1_steal 5 (some .int), Cond.methodLink RL 90 yX1_count, Cond.instanceMethod yX1_count, Cond.selects RX1 yX1_count yX1_count, Cond.code yX1_count cX1_count 2 (some .int), Cond.methodLink RX1 69 yX0_ofAll, Cond.instanceMethod yX0_ofAll, Cond.selects RX0 yX0_ofAll yX0_ofAll, Cond.code yX0_ofAll cX0_ofAll 2 (some .int), Cond.fieldLink RX0 26 "AqueductTanks$Land" "day" "I", Cond.methodLink RX0 39 yX0_sumOfTanks, Cond.instanceMethod yX0_sumOfTanks, Cond.selects RX0 yX0_sumOfTanks yX0_sumOfTanks, Cond.code yX0_sumOfTanks cX0_sumOfTanks 4 (some .int), Cond.methodLink RX0 42 yX0_sumOfPipes, Cond.instanceMethod yX0_sumOfPipes, Cond.selects RX0 yX0_sumOfPipes yX0_sumOfPipes, Cond.code yX0_sumOfPipes cX0_sumOfPipes 4 (some .int)]
def wsL_law0_r8 : List Cond := [Cond.methodLink RX0 45 yX0_thirstyTanks, Cond.instanceMethod yX0_thirstyTanks, Cond.selects RX0 yX0_thirstyTanks yX0_thirstyTanks, Cond.code yX0_thirstyTanks cX0_thirstyTanks 3 (some .int), Cond.methodLink RX0 49 yX0_isThirsty, Cond.instanceMethod yX0_isThirsty, Cond.selects RX0 yX0_isThirsty yX0_isThirsty, Cond.code yX0_isThirsty cX0_isThirsty 2 (some .boolean), Cond.methodLink RL 93 yX1_pipe, Cond.instanceMethod yX1_pipe, Cond.selects RX1 yX1_pipe yX1_pipe, Cond.code yX1_pipe cX1_pipe 3 (some .int), Cond.methodLink RX1 65 yX0_ofPipe, Cond.instanceMethod yX0_ofPipe, Cond.selects RX0 yX0_ofPipe yX0_ofPipe, Cond.code yX0_ofPipe cX0_ofPipe 3 (some .int), Cond.methodLink RX0 35 yX0_whatCanFlow, Cond.instanceMethod yX0_whatCanFlow, Cond.selects RX0 yX0_whatCanFlow yX0_whatCanFlow, Cond.code yX0_whatCanFlow cX0_whatCanFlow 7 (some .int), Cond.methodLink RX0 57 Lib.Math.max.name, Cond.methodLink RX0 63 Lib.Math.min.name, Cond.methodLink RX0 53 yX0_head, Cond.static yX0_head]
def wsL_law0_r9 : List Cond := [Cond.code yX0_head cX0_head 1 (some .int), Cond.methodLink RL 96 yX1_tank, Cond.instanceMethod yX1_tank, Cond.selects RX1 yX1_tank yX1_tank, Cond.code yX1_tank cX1_tank 3 (some .int), Cond.methodLink RL 99 yX1_sated, Cond.instanceMethod yX1_sated, Cond.selects RX1 yX1_sated yX1_sated, Cond.code yX1_sated cX1_sated 3 (some .int), Cond.methodLink RX1 83 yX0_copyFrom, Cond.instanceMethod yX0_copyFrom, Cond.selects RX0 yX0_copyFrom yX0_copyFrom, Cond.code yX0_copyFrom cX0_copyFrom 3 none, Cond.methodLink RX0 29 arraycopyName, Cond.native arraycopyName, Cond.static arraycopyName, Cond.initialized "java/lang/System", Cond.methodLink RX1 93 yX0_goThroughDay, Cond.instanceMethod yX0_goThroughDay, Cond.selects RX0 yX0_goThroughDay yX0_goThroughDay, Cond.code yX0_goThroughDay cX0_goThroughDay 2 none, Cond.methodLink RX0 69 yX0_feed, Cond.static yX0_feed, Cond.code yX0_feed cX0_feed 1 none]
def wsL_law0_r10 : List Cond := [Cond.methodLink RX0 83 yX0_takeInWater, Cond.static yX0_takeInWater, Cond.code yX0_takeInWater cX0_takeInWater 4 none, Cond.methodLink RX0 87 yX0_takeInMud, Cond.static yX0_takeInMud, Cond.code yX0_takeInMud cX0_takeInMud 2 none, Cond.methodLink RX0 73 yX0_flowThrough, Cond.instanceMethod yX0_flowThrough, Cond.selects RX0 yX0_flowThrough yX0_flowThrough, Cond.code yX0_flowThrough cX0_flowThrough 7 none, Cond.methodLink RX0 90 yX0_wanderMud, Cond.static yX0_wanderMud, Cond.code yX0_wanderMud cX0_wanderMud 4 none, Cond.methodLink RX0 77 yX0_growCrusts, Cond.instanceMethod yX0_growCrusts, Cond.selects RX0 yX0_growCrusts yX0_growCrusts, Cond.code yX0_growCrusts cX0_growCrusts 3 none, Cond.methodLink RX0 80 yX0_drinkFrom, Cond.static yX0_drinkFrom, Cond.code yX0_drinkFrom cX0_drinkFrom 3 none, Cond.methodLink RX1 96 yX0_isThirsty, Cond.methodLink RL 102 yX1_foresee, Cond.instanceMethod yX1_foresee, Cond.selects RX1 yX1_foresee yX1_foresee]
def wsL_law0_r11 : List Cond := [Cond.code yX1_foresee cX1_foresee 4 (some .int), Cond.methodLink RX1 80 yX0_drunkIn, Cond.instanceMethod yX0_drunkIn, Cond.selects RX0 yX0_drunkIn yX0_drunkIn, Cond.code yX0_drunkIn cX0_drunkIn 4 (some .int), Cond.methodLink RX0 66 yX0_goThroughDay, Cond.methodLink RX1 87 yX0_sumOfPipes, Cond.methodLink RX1 90 yX0_sumOfTanks, Cond.methodLink RL 105 yX1_pass, Cond.instanceMethod yX1_pass, Cond.selects RX1 yX1_pass yX1_pass, Cond.code yX1_pass cX1_pass 2 (some .int), Cond.methodLink RL 108 yX3_pass, Cond.instanceMethod yX3_pass, Cond.selects RX3 yX3_pass yX3_pass, Cond.code yX3_pass cX3_pass 8 (some .int), Cond.fieldLink RX3 70 "AqueductTanksLaw$Pipe" "flowed" "I", Cond.fieldLink RX3 73 "AqueductTanksLaw$Pipe" "tap" "I", Cond.fieldLink RX3 76 "AqueductTanksLaw$Pipe" "lost" "I", Cond.fieldLink RX3 79 "AqueductTanksLaw$Pipe" "all" "I", Cond.fieldLink RX3 82 "AqueductTanksLaw$Tank" "mud" "I", Cond.fieldLink RX3 56 "AqueductTanksLaw$Tank" "water" "I", Cond.fieldLink RX3 29 "AqueductTanksLaw$Sim" "day" "I", Cond.fieldLink RX3 59 "AqueductTanksLaw$Pipe" "crust" "I"]
def wsL_law0_r12 : List Cond := [Cond.fieldLink RX3 85 "AqueductTanksLaw$Tank" "drunk" "I", Cond.fieldLink RX3 88 "AqueductTanksLaw$Tank" "all" "I", Cond.methodLink RX3 62 yX4_comes, Cond.instanceMethod yX4_comes, Cond.selects RX4 yX4_comes yX4_comes, Cond.code yX4_comes cX4_comes 3 none, Cond.fieldLink RX4 20 "AqueductTanksLaw$Tank" "water" "I", Cond.fieldLink RX4 23 "AqueductTanksLaw$Tank" "mud" "I", Cond.fieldLink RX4 26 "AqueductTanksLaw$Tank" "spilled" "I", Cond.methodLink RX3 66 yX3_flows, Cond.instanceMethod yX3_flows, Cond.selects RX3 yX3_flows yX3_flows, Cond.code yX3_flows cX3_flows 6 (some .int), Cond.methodLink RL 111 yX1_reach, Cond.instanceMethod yX1_reach, Cond.selects RX1 yX1_reach yX1_reach, Cond.code yX1_reach cX1_reach 2 (some .int), Cond.methodLink RX1 73 yX0_reachedFrom, Cond.instanceMethod yX0_reachedFrom, Cond.selects RX0 yX0_reachedFrom yX0_reachedFrom, Cond.code yX0_reachedFrom cX0_reachedFrom 6 (some .int), Cond.methodLink RL 122 yX1_suspect, Cond.instanceMethod yX1_suspect, Cond.selects RX1 yX1_suspect yX1_suspect]
def wsL_law0_r13 : List Cond := [Cond.code yX1_suspect cX1_suspect 5 (some .int), Cond.methodLink RL 125 yX3_isSame, Cond.instanceMethod yX3_isSame, Cond.selects RX3 yX3_isSame yX3_isSame, Cond.code yX3_isSame cX3_isSame 11 (some .boolean), Cond.fieldLink RX3 89 "AqueductTanksLaw$Tank" "spilled" "I", Cond.methodLink RX3 92 yX1_tank, Cond.methodLink RX3 98 yX1_pipe, Cond.methodLink RX3 101 yX3_water, Cond.instanceMethod yX3_water, Cond.selects RX3 yX3_water yX3_water, Cond.code yX3_water cX3_water 6 (some .int), Cond.methodLink RX3 104 yX3_lost, Cond.instanceMethod yX3_lost, Cond.selects RX3 yX3_lost yX3_lost, Cond.code yX3_lost cX3_lost 6 (some .int), Cond.methodLink RX3 106 yX1_count, Cond.methodLink RX3 110 yX1_suspect, Cond.methodLink RX3 113 yX1_mean, Cond.instanceMethod yX1_mean, Cond.selects RX1 yX1_mean yX1_mean, Cond.code yX1_mean cX1_mean 1 (some .double), Cond.fieldLink RX1 100 "AqueductTanks$Land" "day" "I"]
def wsL_law0 : List Cond := (wsL_law0_r1 ++ (wsL_law0_r2 ++ (wsL_law0_r3 ++ (wsL_law0_r4 ++ (wsL_law0_r5 ++ (wsL_law0_r6 ++ (wsL_law0_r7 ++ (wsL_law0_r8 ++ (wsL_law0_r9 ++ (wsL_law0_r10 ++ (wsL_law0_r11 ++ (wsL_law0_r12 ++ wsL_law0_r13)))))))))))) ++ wsX10 ++ wsX00 ++ wsX30 ++ wsX40 ++ wsX20 ++ ([] : List Cond)
abbrev vwCl : List vw_C := [(RX0, TX0, 5), (RX1, TX1, 2), (RX2, TX2, 9), (RX3, TX3, 3), (RX4, TX4, 8)]
end
section
/-! PART 02: the world of this claim: n cells at ad 0 .. ad (n-1), what each holds by ct; a state 'a' is what At says of ct -/
abbrev QZ : Type := va_G × ClassId × ClassId × (ClassId × ClassId) × Nat × (Nat → Nat)
abbrev zG (z : QZ) : va_G := z.1
abbrev zI (z : QZ) : ClassId := z.2.1
abbrev zR (z : QZ) : ClassId := z.2.2.1
abbrev zA (z : QZ) : ClassId := z.2.2.2.1.1
abbrev zB (z : QZ) : ClassId := z.2.2.2.1.2
abbrev zn (z : QZ) : Nat := z.2.2.2.2.1
abbrev za (z : QZ) : Nat → Nat := z.2.2.2.2.2
abbrev zT (z : QZ) : List (ClassId × FieldType) := [(zI z, .int), (zR z, .array .int), (zA z, .object RX4), (zB z, .object RX2)]
abbrev eA : String := "java/lang/IllegalArgumentException"
abbrev eS : String := "java/lang/IllegalStateException"
abbrev eB : String := "java/lang/IndexOutOfBoundsException"
def QE (U : State) : Prop := (va_AO RX4 U ∧ va_AO RX2 U) ∧ va_Nw (.methodLinkNest RX3 33 yX4_init RL) U ∧ va_Nw (.methodLinkNest RX3 43 yX2_init RL) U ∧ va_Nw (.methodLinkNest RL 77 yX3_init RL) U
/-- what the tables say: of the classes, of arrays of arrays, of clones, of the throws -/
def QK (z : QZ) (U : State) : Prop := va_K (zG z) vwCl (zT z) U ∧ va_Nw (.arrayOver (.array .int)) U ∧ True ∧ QE U
theorem qao_warm {u U : State} (hvm : u.vm.Alike U.vm) (h : va_Nw (.arrayOver (.array .int)) u) : va_Nw (.arrayOver (.array .int)) U := by
  obtain ⟨comp, c, k, h1, h2, h3, h4, h5⟩ := arrayOverA_spec h
  obtain ⟨k', hk', he⟩ := hvm.2.2 _ _ h3
  have hi : (U.vm.classes.findIdx? fun (x : Class) => match x.kind with | .array component _ => component == comp | _ => false) = some c := by
    rw [hvm.findIdx?_eq _ (fun _ => rfl)]
    exact h2
  have hkind : k'.kind = .array comp (.array .int) := by rw [he]; exact h4
  have f1 : U.vm.findClass (FieldType.array .int).toString = some comp := by rw [hvm.findClass]; exact h1
  have f2 : U.vm.findClass ("[" ++ (FieldType.array .int).toString) = some c := by rw [hvm.findClass]; exact h5
  unfold va_Nw Cond.before Cond.holds
  simp only [Cond.value]
  rw [f1, Option.bind_some]
  refine (congrArg (fun o : Option Nat => (o.bind (fun c => (U.vm.classes[c]?).map fun (k : Class) => match k.kind with | .array _ ty => decide (ty = FieldType.array .int) && decide (U.vm.findClass ("[" ++ (FieldType.array .int).toString) = some c) | _ => false) == some true)) hi).trans ?_
  simp [hk', hkind, f2]
theorem QE.warm {s U : State} (hW : s.WarmedH U.vm) (h : QE s) : QE U := ⟨⟨va_AO.moved hW.alike h.1.1, va_AO.moved hW.alike h.1.2⟩, va_Nw.warmM hW h.2.1, va_Nw.warmM hW h.2.2.1, va_Nw.warmM hW h.2.2.2⟩
theorem QE.same {u U : State} (hv : U.vm = u.vm) (h : QE u) : QE U := by
  have hA : u.vm.Alike U.vm := by rw [hv]; exact Vm.Alike.refl _
  exact ⟨⟨va_AO.moved hA h.1.1, va_AO.moved hA h.1.2⟩, va_Nw.same rfl hv.symm h.2.1, va_Nw.same rfl hv.symm h.2.2.1, va_Nw.same rfl hv.symm h.2.2.2⟩
theorem QK.warm {z : QZ} {s U : State} (hW : s.WarmedH U.vm) (h : QK z s) : QK z U := ⟨va_K.moved hW.alike h.1, qao_warm hW.alike h.2.1, h.2.2.1, QE.warm hW h.2.2.2⟩
theorem QK.same {z : QZ} {u U : State} (hv : U.vm = u.vm) (h : QK z u) : QK z U := by
  have hA : u.vm.Alike U.vm := by rw [hv]; exact Vm.Alike.refl _
  exact ⟨va_K.moved hA h.1, qao_warm hA h.2.1, h.2.2.1, QE.same hv h.2.2.2⟩
def wd (n : Nat) (ad : Nat → Nat) (ct : Nat → va_E) : va_W := (List.range n).map (fun k => (ad k, ct k))
theorem wd_len {n : Nat} {ad : Nat → Nat} {ct : Nat → va_E} : (wd n ad ct).length = n := by simp [wd]
theorem wd_get {n : Nat} {ad : Nat → Nat} {ct : Nat → va_E} {k : Nat} (h : k < n) : (wd n ad ct)[k]? = some (ad k, ct k) := by
  simp [wd, List.getElem?_map, List.getElem?_range h]
theorem wd_of {n : Nat} {ad : Nat → Nat} {ct : Nat → va_E} {k : Nat} {q : Nat × va_E} (h : (wd n ad ct)[k]? = some q) : k < n ∧ q = (ad k, ct k) := by
  have hk : k < n := by
    have := (List.getElem?_eq_some_iff.mp h).1
    rwa [wd_len] at this
  rw [wd_get hk] at h
  exact ⟨hk, (Option.some.inj h).symm⟩
theorem wd_set {n : Nat} {ad : Nat → Nat} {ct : Nat → va_E} {k : Nat} {e : va_E} : (wd n ad ct).set k (ad k, e) = wd n ad (va_up ct k e) := by
  apply List.ext_getElem?
  intro j
  by_cases hj : j < n
  · rw [wd_get hj]
    by_cases hk : k = j
    · subst hk
      rw [List.getElem?_set_self (by rw [wd_len]; exact hj), va_up_self]
    · rw [List.getElem?_set_ne hk, wd_get hj, va_up_ne _ _ (fun h => hk h.symm)]
  · rw [List.getElem?_eq_none (by rw [List.length_set, wd_len]; omega), List.getElem?_eq_none (by rw [wd_len]; omega)]
def qA (n : Nat) (ad : Nat → Nat) (sz : Nat) : Nat → Prop := fun q => (∃ k, k < n ∧ ad k = q) ∨ sz ≤ q
def qI (n : Nat) (ad : Nat → Nat) : Prop := ∀ i j, i < n → j < n → ad i = ad j → i = j
theorem qA_new {n : Nat} {ad : Nat → Nat} {sz q : Nat} (h : sz ≤ q) : qA n ad sz q := Or.inr h
theorem qA_sub {n : Nat} {ad : Nat → Nat} {sz sz2 : Nat} (h : sz ≤ sz2) {q : Nat} (hq : qA n ad sz2 q) : qA n ad sz q := by
  rcases hq with hq | hq
  · exact Or.inl hq
  · exact Or.inr (Nat.le_trans h hq)
theorem wd_D {n : Nat} {ad : Nat → Nat} {ct : Nat → va_E} {A : Nat → Prop} (hq : qI n ad) (hA : ∀ k, k < n → A (ad k)) : va_D A (wd n ad ct) := by
  refine ⟨fun i j p q hi hj h => ?_, fun k q hk => ?_⟩
  · obtain ⟨h1, rfl⟩ := wd_of hi
    obtain ⟨h2, rfl⟩ := wd_of hj
    exact hq i j h1 h2 h
  · obtain ⟨h1, rfl⟩ := wd_of hk
    exact hA k h1
theorem wd_DA {n : Nat} {ad : Nat → Nat} {ct : Nat → va_E} {sz : Nat} (hq : qI n ad) : va_D (qA n ad sz) (wd n ad ct) := wd_D hq (fun k hk => Or.inl ⟨k, hk, rfl⟩)
def Fr (lo hi : Nat) (c0 ct : Nat → va_E) : Prop := ∀ k, ¬ (lo ≤ k ∧ k < hi) → ct k = c0 k
theorem Fr.rf {lo hi : Nat} {c0 : Nat → va_E} : Fr lo hi c0 c0 := fun _ _ => rfl
theorem Fr.trans {lo hi : Nat} {c0 c1 c2 : Nat → va_E} (h1 : Fr lo hi c0 c1) (h2 : Fr lo hi c1 c2) : Fr lo hi c0 c2 := fun k hk => (h2 k hk).trans (h1 k hk)
theorem Fr.wider {lo hi lo2 hi2 : Nat} {c0 c1 : Nat → va_E} (h : Fr lo hi c0 c1) (h1 : lo2 ≤ lo) (h2 : hi ≤ hi2) : Fr lo2 hi2 c0 c1 := fun k hk => h k (fun q => hk ⟨Nat.le_trans h1 q.1, Nat.lt_of_lt_of_le q.2 h2⟩)
theorem Fr.up {lo hi : Nat} {c0 ct : Nat → va_E} (h : Fr lo hi c0 ct) {k : Nat} {e : va_E} (hk : lo ≤ k ∧ k < hi) : Fr lo hi c0 (va_up ct k e) := fun j hj => by
  rw [va_up_ne _ _ (fun q => hj (by rw [q]; exact hk))]
  exact h j hj
/-- the state 'a' in the heap H; since H0 nothing outside the world changed, since c0 nothing outside [lo, hi) -/
def GW (z : QZ) {α : Type} (At : α → (Nat → va_E) → Prop) (lo hi : Nat) (H0 : Heap) (c0 : Nat → va_E) (a : α) (H : Heap) (locs : List Loc) : Prop :=
  ∃ ct, va_P (zG z) vwCl (wd (zn z) (za z) ct) H ∧ va_S (qA (zn z) (za z) H0.size) H0 H locs ∧ At a ct ∧ Fr lo hi c0 ct ∧ hi ≤ zn z ∧ qI (zn z) (za z)
def Cx (p : Program) (s : State) (m : MethodId) (args : Array Value) (meth : Method) (c : Code) (cc : ByteArray) (nL : Nat) (ret : Option FieldType) (own : String) (ws : List Cond) : Prop :=
  p.tables.exec = Jvm.exec ∧ c.code = cc ∧ meth.sig.returnType = ret ∧ c.maxLocals = nL ∧ s.vm.findClass own = some m.cls ∧ (∀ w ∈ ws, w.before args s = true) ∧ meth.locks = false
/-- what a method is given: the heap's size, the world, the classes -/
def QPre (z : QZ) (ct : Nat → va_E) (sz : Nat) : State → Prop := fun U => U.heap.size = sz ∧ va_P (zG z) vwCl (wd (zn z) (za z) ct) U.heap ∧ QK z U
/-- what it leaves -/
def QJ (z : QZ) {α : Type} (At : α → (Nat → va_E) → Prop) (lo hi : Nat) (c0 : Nat → va_E) : α → State → Prop := fun u t => ∃ ct, va_P (zG z) vwCl (wd (zn z) (za z) ct) t.heap ∧ QK z t ∧ At u ct ∧ Fr lo hi c0 ct
def GI (l : Launch) (y : MethodName) (ws : List Cond) (rm : Room) (z : QZ) (av : List Value) (mc ms : Nat) {α : Type} (At : α → (Nat → va_E) → Prop) (lo hi : Nat) (a : α) (post : Int32 → α → Prop) : Prop :=
  ∀ ct sz, hi ≤ zn z → qI (zn z) (za z) → At a ct → Met l y ws rm (va_Pc av (QPre z ct sz)) (va_Qi post (QJ z At lo hi ct) (qA (zn z) (za z) sz)) mc ms (qA (zn z) (za z) sz)
def GV (l : Launch) (y : MethodName) (ws : List Cond) (rm : Room) (z : QZ) (av : List Value) (mc ms : Nat) {α : Type} (At : α → (Nat → va_E) → Prop) (lo hi : Nat) (a : α) (post : α → Prop) : Prop :=
  ∀ ct sz, hi ≤ zn z → qI (zn z) (za z) → At a ct → Met l y ws rm (va_Pc av (QPre z ct sz)) (va_Qv post (QJ z At lo hi ct) (qA (zn z) (za z) sz)) mc ms (qA (zn z) (za z) sz)
def GL (l : Launch) (y : MethodName) (ws : List Cond) (rm : Room) (z : QZ) (av : List Value) (mc ms : Nat) {α : Type} (At : α → (Nat → va_E) → Prop) (lo hi : Nat) (a : α) (post : Int64 → α → Prop) : Prop :=
  ∀ ct sz, hi ≤ zn z → qI (zn z) (za z) → At a ct → Met l y ws rm (va_Pc av (QPre z ct sz)) (va_Ql post (QJ z At lo hi ct) (qA (zn z) (za z) sz)) mc ms (qA (zn z) (za z) sz)
def GD (l : Launch) (y : MethodName) (ws : List Cond) (rm : Room) (z : QZ) (av : List Value) (mc ms : Nat) {α : Type} (At : α → (Nat → va_E) → Prop) (lo hi : Nat) (a : α) (post : UInt64 → α → Prop) : Prop :=
  ∀ ct sz, hi ≤ zn z → qI (zn z) (za z) → At a ct → Met l y ws rm (va_Pc av (QPre z ct sz)) (va_Qd post (QJ z At lo hi ct) (qA (zn z) (za z) sz)) mc ms (qA (zn z) (za z) sz)
/-- the entry of a plain method -/
theorem q_entry {l : Launch} {y : MethodName} {ws ws' : List Cond} {rm : Room} {z : QZ} {av : List Value} {mc ms : Nat} {ct : Nat → va_E} {sz : Nat} {Qc : Array Value → State → Outcome → State → Prop} {free : Addr → Prop} {cc : ByteArray} {maxL : Nat} {ret : Option FieldType} {α : Type} {At : α → (Nat → va_E) → Prop} {lo hi : Nat} {a : α}
    (hy : plainName y.cls = true) (hw : ws = Cond.code y cc maxL ret :: ws') (hlen : (lg_sl av).length ≤ maxL) (hn : hi ≤ zn z) (hq : qI (zn z) (za z)) (hat : At a ct)
    (body : ∀ p e s m below meth c ls, Cx p s m av.toArray meth c cc maxL ret y.cls ws → QK z s → sz = s.heap.size → GW z At lo hi s.heap ct a s.heap [] → lv_has ls maxL (lv_args 0 av) →
      W p l e rm s m av.toArray below meth c s.heap [] 0 0 (MQ below Qc av.toArray s mc ms free) (F0 m 0 ls [])) : Met l y ws rm (va_Pc av (QPre z ct sz)) Qc mc ms free := by
  refine Met.ofW (cc := cc) (maxL := maxL) (ret := ret) hy hw ?_
  intro p e s m args below meth c s₁ B hml hv
  obtain ⟨rfl, hsz, hP, hK⟩ := hv
  have hl := lv_entry av (n := maxL) hlen
  rw [lg_entry_eq]
  exact body p e s m below meth c _ ⟨B.exec, B.bytes, B.returns, hml, findClass_of_methodNamed B.named, atoms_spec (ws := ws) B.pre, B.notSynchronized⟩ hK hsz.symm ⟨ct, hP, va_S.rf, hat, Fr.rf, hn, hq⟩ hl
section QR
variable {p : Program} {l : Launch} {e : Env} {R : Room} {s : State} {m : MethodId} {args : Array Value} {below : List Frame} {meth : Method} {c : Code} {H : Heap} {locs : List Loc} {cells slots : Nat} {Q : State → Prop}
variable {cc : ByteArray} {nL : Nat} {ret : Option FieldType} {own : String} {ws : List Cond} {pc : Nat} {ls : Array Slot} {rest : List Value} {z : QZ} {α : Type} {At : α → (Nat → va_E) → Prop} {lo hi : Nat} {c0 : Nat → va_E} {a : α}
theorem G_iald (C0 : Cx p s m args meth c cc nL ret own ws) (hK : QK z s) (h : GW z At lo hi s.heap c0 a H locs) {k len : Nat} {f : Nat → Int32} (hk : k < hi) (hc : ∀ ct, At a ct → ct k = .inl (zI z, len, .inl f)) {i : Int32} {j : Nat} (hij : i = nI j) (hj : j < len) (hlen : len < 2147483648) (hdg : decode cc pc = .ok (.iaload, 1))
    (kk : W p l e R s m args below meth c H locs cells slots Q (F0 m (pc + 1) ls (.int (f j) :: rest))) : W p l e R s m args below meth c H locs cells slots Q (F0 m pc ls (.int i :: .ref (za z k) :: rest)) := by
  obtain ⟨ct, hP, hS, hA, hF, hn, hq⟩ := h
  subst hij
  have e1 : (nI j).toNatClampNeg = j := nI_clamp (by omega)
  refine va_iald C0.1 C0.2.1 hK.1 hP k 0 ((wd_get (Nat.lt_of_lt_of_le hk hn)).trans (by rw [hc ct hA])) rfl (vp_in_nI hj (by omega)) hdg ?_
  rw [e1]; exact kk
theorem G_iast (C0 : Cx p s m args meth c cc nL ret own ws) (hK : QK z s) (h : GW z At lo hi s.heap c0 a H locs) {k len : Nat} {f : Nat → Int32} (hk : lo ≤ k ∧ k < hi) (hc : ∀ ct, At a ct → ct k = .inl (zI z, len, .inl f)) {i x : Int32} {j : Nat} (hij : i = nI j) (hj : j < len) (hlen : len < 2147483648) {a' : α} (hu : ∀ ct, At a ct → At a' (va_up ct k (.inl (zI z, len, .inl (upd f j x))))) (hdg : decode cc pc = .ok (.iastore, 1))
    (kk : ∀ (H1 : Heap) (locs1 : List Loc), GW z At lo hi s.heap c0 a' H1 locs1 → W p l e R s m args below meth c H1 locs1 cells slots Q (F0 m (pc + 1) ls rest)) : W p l e R s m args below meth c H locs cells slots Q (F0 m pc ls (.int x :: .int i :: .ref (za z k) :: rest)) := by
  obtain ⟨ct, hP, hS, hA, hF, hn, hq⟩ := h
  subst hij
  have e1 : (nI j).toNatClampNeg = j := nI_clamp (by omega)
  refine va_iast C0.1 C0.2.1 hK.1 hP (wd_DA hq) hS k 0 ((wd_get (Nat.lt_of_lt_of_le hk.2 hn)).trans (by rw [hc ct hA])) rfl (vp_in_nI hj (by omega)) hdg (fun H1 locs1 hP1 hD1 hS1 => kk H1 locs1 ⟨_, ?_, hS1, hu ct hA, hF.up hk, hn, hq⟩)
  rw [e1, wd_set] at hP1; exact hP1
theorem G_aald (C0 : Cx p s m args meth c cc nL ret own ws) (hK : QK z s) (h : GW z At lo hi s.heap c0 a H locs) {k len r : Nat} {f : Nat → Option Nat} (hk : k < hi) (hc : ∀ ct, At a ct → ct k = .inl (zR z, len, .inr (.inr (.inr (.inr f))))) {i : Int32} {j : Nat} (hij : i = nI j) (hj : j < len) (hlen : len < 2147483648) (hr : f j = some r) (hdg : decode cc pc = .ok (.aaload, 1))
    (kk : W p l e R s m args below meth c H locs cells slots Q (F0 m (pc + 1) ls (.ref r :: rest))) : W p l e R s m args below meth c H locs cells slots Q (F0 m pc ls (.int i :: .ref (za z k) :: rest)) := by
  obtain ⟨ct, hP, hS, hA, hF, hn, hq⟩ := h
  subst hij
  have e1 : (nI j).toNatClampNeg = j := nI_clamp (by omega)
  have hv : vp_in (nI j) len := vp_in_nI hj (by omega)
  have hp := hP k _ ((wd_get (Nat.lt_of_lt_of_le hk hn)).trans (by rw [hc ct hA]))
  have hlt : (nI j).toNatClampNeg < len := by rw [e1]; exact hj
  refine W.aald (v := .ref r) (ty := .array .int) C0.1 C0.2.1 hp ((hK.1.2 1 _ rfl).1 len (fun j => va_rf (f j))) rfl (fun q => by cases q) (by show ¬ (nI j < 0 ∨ (arrV _ _ _).slots.size ≤ _); rw [arrV_size]; exact hv) (by show (arrV _ _ _).slots[_]? = _; rw [arrV_read _ _ hlt, e1, hr]; rfl) rfl rfl hdg kk
theorem G_alen (C0 : Cx p s m args meth c cc nL ret own ws) (hK : QK z s) (h : GW z At lo hi s.heap c0 a H locs) {k : Nat} {x : vp_A} (hk : k < hi) (hc : ∀ ct, At a ct → ct k = .inl (zI z, x)) (hdg : decode cc pc = .ok (.arraylength, 1))
    (kk : W p l e R s m args below meth c H locs cells slots Q (F0 m (pc + 1) ls (.int (nI x.1) :: rest))) : W p l e R s m args below meth c H locs cells slots Q (F0 m pc ls (.ref (za z k) :: rest)) := by
  obtain ⟨ct, hP, hS, hA, hF, hn, hq⟩ := h
  exact va_alen C0.1 C0.2.1 hK.1 hP k 0 ((wd_get (Nat.lt_of_lt_of_le hk hn)).trans (by rw [hc ct hA])) rfl rfl hdg kk
theorem G_get (C0 : Cx p s m args meth c cc nL ret own ws) (hK : QK z s) (h : GW z At lo hi s.heap c0 a H locs) {C : String} {T : u_T} {N : Nat} (hin : ∀ w ∈ u_ws C T N, w ∈ ws) (ci : Nat) (hcl : vwCl[ci]? = some (C, T, N)) {k : Nat} {fs : List Value} (hk : k < hi) (hc : ∀ ct, At a ct → ct k = .inr (ci, fs)) (j : Nat) (hj : j < N) {index : Nat} (hlink : Cond.fieldLink own index (T j).1 (T j).2.1 (T j).2.2.1 ∈ ws) {v : Value} (hv : fs[j]? = some v) (hdg : decode cc pc = .ok (.getfield index, 3))
    (kk : W p l e R s m args below meth c H locs cells slots Q (F0 m (pc + 3) ls (v :: rest))) : W p l e R s m args below meth c H locs cells slots Q (F0 m pc ls (.ref (za z k) :: rest)) := by
  obtain ⟨ct, hP, hS, hA, hF, hn, hq⟩ := h
  exact va_get C0.1 C0.2.1 C0.2.2.2.2.2.1 hin C0.2.2.2.2.1 hK.1 hP k ((wd_get (Nat.lt_of_lt_of_le hk hn)).trans (by rw [hc ct hA])) hcl j hj (C0.2.2.2.2.2.1 _ hlink) (fun _ h9 => h9) hv hdg kk
theorem G_put (C0 : Cx p s m args meth c cc nL ret own ws) (hK : QK z s) (h : GW z At lo hi s.heap c0 a H locs) {C : String} {T : u_T} {N : Nat} (hin : ∀ w ∈ u_ws C T N, w ∈ ws) (ci : Nat) (hcl : vwCl[ci]? = some (C, T, N)) (ty0 : Nat → FieldType) (hty : ∀ k, k < N → parseFieldDescriptor (T k).2.2.1 = some (ty0 k)) (hnm : ∀ a, a < N → ∀ b, b < N → a ≠ b → (T a).2.1 ≠ (T b).2.1) {k : Nat} {fs : List Value} (hk : lo ≤ k ∧ k < hi) (hc : ∀ ct, At a ct → ct k = .inr (ci, fs)) (j : Nat) (hj : j < N) {index : Nat} (hlink : Cond.fieldLink own index (T j).1 (T j).2.1 (T j).2.2.1 ∈ ws) (hfin : (T j).2.2.2 = false) {x : Int32} (hd : parseFieldDescriptor (T j).2.2.1 = some .int) (hl : j < fs.length) {a' : α} (hu : ∀ ct, At a ct → At a' (va_up ct k (.inr (ci, fs.set j (.int x))))) (hdg : decode cc pc = .ok (.putfield index, 3))
    (kk : ∀ (H1 : Heap) (locs1 : List Loc), GW z At lo hi s.heap c0 a' H1 locs1 → W p l e R s m args below meth c H1 locs1 cells slots Q (F0 m (pc + 3) ls rest)) : W p l e R s m args below meth c H locs cells slots Q (F0 m pc ls (.int x :: .ref (za z k) :: rest)) := by
  obtain ⟨ct, hP, hS, hA, hF, hn, hq⟩ := h
  refine va_put C0.1 C0.2.1 C0.2.2.2.2.2.1 hin ty0 hty hnm C0.2.2.2.2.1 hK.1 hP (wd_DA hq) hS k ((wd_get (Nat.lt_of_lt_of_le hk.2 hn)).trans (by rw [hc ct hA])) hcl j hj (C0.2.2.2.2.2.1 _ hlink) (fun _ h9 => h9) hfin hd rfl rfl hl hdg (fun H1 locs1 hP1 hD1 hS1 => kk H1 locs1 ⟨_, ?_, hS1, hu ct hA, hF.up hk, hn, hq⟩)
  rw [wd_set] at hP1; exact hP1
/-- ends -/
theorem G_iret (C0 : Cx p s m args meth c cc nL (some .int) own ws) (hK : QK z s) (h : GW z At lo hi s.heap c0 a H locs) {r : Int32} {post : Int32 → α → Prop} {mc ms : Nat} (hp : post r a) (h1 : cells ≤ mc) (h2 : slots ≤ ms) (hdg : decode cc pc = .ok (.ireturn, 1)) :
    W p l e R s m args below meth c H locs cells slots (MQ below (va_Qi post (QJ z At lo hi c0) (qA (zn z) (za z) s.heap.size)) args s mc ms (qA (zn z) (za z) s.heap.size)) (F0 m pc ls [.int r]) := by
  obtain ⟨ct, hP, hS, hA, hF, hn, hq⟩ := h
  refine W.widen (k := mc) (n := ms) h1 h2 ?_
  exact W.iret C0.1 C0.2.1 C0.2.2.1 (fun t ht hW => ⟨⟨r, a, rfl, hp, ct, by rw [ht]; exact hP, QK.warm hW hK, hA, hF⟩, hS.F ht⟩) hS.2.2 hdg C0.2.2.2.2.2.2
theorem G_zret (C0 : Cx p s m args meth c cc nL (some .boolean) own ws) (hK : QK z s) (h : GW z At lo hi s.heap c0 a H locs) {r : Int32} {post : Int32 → α → Prop} {mc ms : Nat} (hp : post r a) (hb : r = 0 ∨ r = 1) (h1 : cells ≤ mc) (h2 : slots ≤ ms) (hdg : decode cc pc = .ok (.ireturn, 1)) :
    W p l e R s m args below meth c H locs cells slots (MQ below (va_Qi post (QJ z At lo hi c0) (qA (zn z) (za z) s.heap.size)) args s mc ms (qA (zn z) (za z) s.heap.size)) (F0 m pc ls [.int r]) := by
  obtain ⟨ct, hP, hS, hA, hF, hn, hq⟩ := h
  refine W.widen (k := mc) (n := ms) h1 h2 ?_
  exact W.zret C0.1 C0.2.1 C0.2.2.1 (by rcases hb with rfl | rfl <;> rfl) (fun t ht hW => ⟨⟨r, a, rfl, hp, ct, by rw [ht]; exact hP, QK.warm hW hK, hA, hF⟩, hS.F ht⟩) hS.2.2 hdg C0.2.2.2.2.2.2
theorem G_lret (C0 : Cx p s m args meth c cc nL (some .long) own ws) (hK : QK z s) (h : GW z At lo hi s.heap c0 a H locs) {r : Int64} {post : Int64 → α → Prop} {mc ms : Nat} (hp : post r a) (h1 : cells ≤ mc) (h2 : slots ≤ ms) (hdg : decode cc pc = .ok (.lreturn, 1)) :
    W p l e R s m args below meth c H locs cells slots (MQ below (va_Ql post (QJ z At lo hi c0) (qA (zn z) (za z) s.heap.size)) args s mc ms (qA (zn z) (za z) s.heap.size)) (F0 m pc ls [.long r]) := by
  obtain ⟨ct, hP, hS, hA, hF, hn, hq⟩ := h
  refine W.widen (k := mc) (n := ms) h1 h2 ?_
  exact W.lret C0.1 C0.2.1 C0.2.2.1 (fun t ht hW => ⟨⟨r, a, rfl, hp, ct, by rw [ht]; exact hP, QK.warm hW hK, hA, hF⟩, hS.F ht⟩) hS.2.2 hdg C0.2.2.2.2.2.2
theorem G_dret (C0 : Cx p s m args meth c cc nL (some .double) own ws) (hK : QK z s) (h : GW z At lo hi s.heap c0 a H locs) {r : UInt64} {post : UInt64 → α → Prop} {mc ms : Nat} (hp : post r a) (h1 : cells ≤ mc) (h2 : slots ≤ ms) (hdg : decode cc pc = .ok (.dreturn, 1)) :
    W p l e R s m args below meth c H locs cells slots (MQ below (va_Qd post (QJ z At lo hi c0) (qA (zn z) (za z) s.heap.size)) args s mc ms (qA (zn z) (za z) s.heap.size)) (F0 m pc ls [.double r]) := by
  obtain ⟨ct, hP, hS, hA, hF, hn, hq⟩ := h
  refine W.widen (k := mc) (n := ms) h1 h2 ?_
  exact W.dret C0.1 C0.2.1 C0.2.2.1 (fun t ht hW => ⟨⟨r, a, rfl, hp, ct, by rw [ht]; exact hP, QK.warm hW hK, hA, hF⟩, hS.F ht⟩) hS.2.2 hdg C0.2.2.2.2.2.2
theorem G_vret (C0 : Cx p s m args meth c cc nL none own ws) (hK : QK z s) (h : GW z At lo hi s.heap c0 a H locs) {post : α → Prop} {mc ms : Nat} (hp : post a) (h1 : cells ≤ mc) (h2 : slots ≤ ms) (hdg : decode cc pc = .ok (.return_, 1)) :
    W p l e R s m args below meth c H locs cells slots (MQ below (va_Qv post (QJ z At lo hi c0) (qA (zn z) (za z) s.heap.size)) args s mc ms (qA (zn z) (za z) s.heap.size)) (F0 m pc ls []) := by
  obtain ⟨ct, hP, hS, hA, hF, hn, hq⟩ := h
  refine W.widen (k := mc) (n := ms) h1 h2 ?_
  exact W.vret C0.1 C0.2.1 C0.2.2.1 (fun t ht hW => ⟨⟨a, rfl, hp, ct, by rw [ht]; exact hP, QK.warm hW hK, hA, hF⟩, hS.F ht⟩) hS.2.2 hdg C0.2.2.2.2.2.2
/-- the state behind a call, and what a callee is given -/
theorem q_blind {z : QZ} {ct : Nat → va_E} {sz : Nat} {av : List Value} : FrameBlind (va_Pc av (QPre z ct sz)) := fun a U g mk q => by
  obtain ⟨q0, q1, qP, qK⟩ := q
  exact ⟨q0, q1, qP, QK.same rfl qK⟩
theorem q_given {z : QZ} {ct : Nat → va_E} {av : List Value} (hK : QK z s) (hP : va_P (zG z) vwCl (wd (zn z) (za z) ct) H) : ∀ U : State, U.heap = H → s.WarmedH U.vm → va_Pc av (QPre z ct H.size) av.toArray U :=
  fun U hU hW => ⟨rfl, by rw [hU], by rw [hU]; exact hP, QK.warm hW hK⟩
theorem q_recv {z : QZ} {ct : Nat → va_E} (hK : QK z s) (hP : va_P (zG z) vwCl (wd (zn z) (za z) ct) H) {k ci : Nat} {q : vw_C} {fs : List Value} (hk : k < zn z) (hc : ct k = .inr (ci, fs)) (hcl : vwCl[ci]? = some q) : ∃ cell : Cell, H[za z k]? = some cell ∧ cell.vm.isStatics = false ∧ s.vm.findClass q.1 = some cell.cls :=
  va_recv hK.1 hP hcl ((wd_get hk).trans (by rw [hc]))
end QR
end
section
/-! PART 03: calls, and the two systems' states -/
section QC
variable {p : Program} {l : Launch} {e : Env} {R : Room} {s : State} {m : MethodId} {args : Array Value} {below : List Frame} {meth : Method} {c : Code} {H : Heap} {locs : List Loc} {cells slots : Nat} {Q : State → Prop}
variable {cc : ByteArray} {nL : Nat} {ret : Option FieldType} {own : String} {ws : List Cond} {pc : Nat} {ls : Array Slot} {st0 rest : List Value} {z : QZ} {α β : Type} {At : α → (Nat → va_E) → Prop} {At2 : β → (Nat → va_E) → Prop} {lo hi lo2 hi2 : Nat} {c0 : Nat → va_E} {a : α} {b0 : β}
variable {y : MethodName} {bytes : ByteArray} {maxL mc ms n index : Nat} {ret2 : Option FieldType} {ws2 : List Cond} {rm : Room} {C : String} {As : List Value}
theorem G_callVi (C0 : Cx p s m args meth c cc nL ret own ws) (hK : QK z s) (h : GW z At lo hi s.heap c0 a H locs) {k ci : Nat} {q : vw_C} {fs : List Value} {post : Int32 → β → Prop} (hM : GI l y ws2 rm z (.ref (za z k) :: As) mc ms At2 lo2 hi2 b0 post) (hin : ∀ ct, At a ct → At2 b0 ct) (g : β → α) (hout : ∀ ct ct2 u, At a ct → At2 u ct2 → Fr lo2 hi2 ct ct2 → At (g u) ct2) (hlo : lo ≤ lo2) (hhi : hi2 ≤ hi)
    (cw : CallW R s args own C index y bytes maxL ret2 ws2 rm mc ms n) (hk : k < hi) (hc : ∀ ct, At a ct → ct k = .inr (ci, fs)) (hcl : vwCl[ci]? = some q) (hC : q.1 = C) (hlen : As.length = n) (hsz : ls.size = nL) (hst : st0 = As.reverse ++ .ref (za z k) :: rest) (hroom : (rest.map fun v => v.category).sum ≤ 8) (hf : cells + mc ≤ R.cells ∧ slots + ms ≤ R.slots) (hdg : decode cc pc = .ok (.invokevirtual index, 3))
    (kk : ∀ (r : Int32) (u : β) (H1 : Heap) (locs1 : List Loc), post r u → GW z At lo hi s.heap c0 (g u) H1 locs1 → W p l e R s m args below meth c H1 locs1 (cells + mc) (slots + ms) Q (F0 m (pc + 3) ls (.int r :: rest))) : W p l e R s m args below meth c H locs cells slots Q (F0 m pc ls st0) := by
  obtain ⟨ct, hP, hS, hA, hF, hn, hq⟩ := h
  refine va_calli (va_runV (As := As) (rest := rest) ⟨C0.1, C0.2.1, C0.2.2.2.1, C0.2.2.2.2.1, C0.2.2.2.2.2.1⟩ (hM ct H.size (Nat.le_trans hhi hn) hq (hin ct hA)) cw ⟨q_blind, by rw [← hC]; exact q_recv hK hP (Nat.lt_of_lt_of_le hk hn) (hc ct hA) hcl, q_given hK hP⟩ rfl hlen hsz hst (lv_room hroom) hdg hf) hS (fun q _ h => qA_sub hS.1 h) (fun q h => qA_sub hS.1 h) (fun r u t H1 locs1 ht hvm hp hB hz1 hk1 hS1 => ?_)
  obtain ⟨ct2, hP1, hK1, hA1, hF1⟩ := hB
  rw [ht] at hP1
  exact kk r u H1 locs1 hp ⟨ct2, hP1, hS1, hout ct ct2 u hA hA1 hF1, hF.trans (hF1.wider hlo hhi), hn, hq⟩
theorem S_callVi (C0 : Cx p s m args meth c cc nL ret own ws) (hK : QK z s) (h : GW z At lo hi s.heap c0 a H locs) {k ci : Nat} {q : vw_C} {fs : List Value} {post : Int32 → α → Prop} (hM : GI l y ws2 rm z (.ref (za z k) :: As) mc ms At lo hi a post)
    (cw : CallW R s args own C index y bytes maxL ret2 ws2 rm mc ms n) (hk : k < hi) (hc : ∀ ct, At a ct → ct k = .inr (ci, fs)) (hcl : vwCl[ci]? = some q) (hC : q.1 = C) (hlen : As.length = n) (hsz : ls.size = nL) (hst : st0 = As.reverse ++ .ref (za z k) :: rest) (hroom : (rest.map fun v => v.category).sum ≤ 8) (hf : cells + mc ≤ R.cells ∧ slots + ms ≤ R.slots) (hdg : decode cc pc = .ok (.invokevirtual index, 3))
    (kk : ∀ (r : Int32) (u : α) (H1 : Heap) (locs1 : List Loc), post r u → GW z At lo hi s.heap c0 u H1 locs1 → W p l e R s m args below meth c H1 locs1 (cells + mc) (slots + ms) Q (F0 m (pc + 3) ls (.int r :: rest))) : W p l e R s m args below meth c H locs cells slots Q (F0 m pc ls st0) :=
  G_callVi C0 hK h hM (fun _ h => h) (fun u => u) (fun _ _ _ _ h _ => h) (Nat.le_refl _) (Nat.le_refl _) cw hk hc hcl hC hlen hsz hst hroom hf hdg kk
theorem G_callSi (C0 : Cx p s m args meth c cc nL ret own ws) (hK : QK z s) (h : GW z At lo hi s.heap c0 a H locs) {post : Int32 → β → Prop} (hM : GI l y ws2 rm z As mc ms At2 lo2 hi2 b0 post) (hin : ∀ ct, At a ct → At2 b0 ct) (g : β → α) (hout : ∀ ct ct2 u, At a ct → At2 u ct2 → Fr lo2 hi2 ct ct2 → At (g u) ct2) (hlo : lo ≤ lo2) (hhi : hi2 ≤ hi)
    (cw : CallB R s args own index y bytes maxL ret2 ws2 rm mc ms n ∧ (Cond.static y).before args s = true) (hlen : As.length = n) (hsz : ls.size = nL) (hst : st0 = As.reverse ++ rest) (hroom : (rest.map fun v => v.category).sum ≤ 8) (hf : cells + mc ≤ R.cells ∧ slots + ms ≤ R.slots) (hdg : decode cc pc = .ok (.invokestatic index, 3))
    (kk : ∀ (r : Int32) (u : β) (H1 : Heap) (locs1 : List Loc), post r u → GW z At lo hi s.heap c0 (g u) H1 locs1 → W p l e R s m args below meth c H1 locs1 (cells + mc) (slots + ms) Q (F0 m (pc + 3) ls (.int r :: rest))) : W p l e R s m args below meth c H locs cells slots Q (F0 m pc ls st0) := by
  obtain ⟨ct, hP, hS, hA, hF, hn, hq⟩ := h
  refine va_calli (va_runS (As := As) (rest := rest) ⟨C0.1, C0.2.1, C0.2.2.2.1, C0.2.2.2.2.1, C0.2.2.2.2.2.1⟩ (hM ct H.size (Nat.le_trans hhi hn) hq (hin ct hA)) cw ⟨q_blind, q_given hK hP⟩ rfl hlen hsz hst (lv_room hroom) hdg hf) hS (fun q _ h => qA_sub hS.1 h) (fun q h => qA_sub hS.1 h) (fun r u t H1 locs1 ht hvm hp hB hz1 hk1 hS1 => ?_)
  obtain ⟨ct2, hP1, hK1, hA1, hF1⟩ := hB
  rw [ht] at hP1
  exact kk r u H1 locs1 hp ⟨ct2, hP1, hS1, hout ct ct2 u hA hA1 hF1, hF.trans (hF1.wider hlo hhi), hn, hq⟩
theorem S_callSi (C0 : Cx p s m args meth c cc nL ret own ws) (hK : QK z s) (h : GW z At lo hi s.heap c0 a H locs) {post : Int32 → α → Prop} (hM : GI l y ws2 rm z As mc ms At lo hi a post)
    (cw : CallB R s args own index y bytes maxL ret2 ws2 rm mc ms n ∧ (Cond.static y).before args s = true) (hlen : As.length = n) (hsz : ls.size = nL) (hst : st0 = As.reverse ++ rest) (hroom : (rest.map fun v => v.category).sum ≤ 8) (hf : cells + mc ≤ R.cells ∧ slots + ms ≤ R.slots) (hdg : decode cc pc = .ok (.invokestatic index, 3))
    (kk : ∀ (r : Int32) (u : α) (H1 : Heap) (locs1 : List Loc), post r u → GW z At lo hi s.heap c0 u H1 locs1 → W p l e R s m args below meth c H1 locs1 (cells + mc) (slots + ms) Q (F0 m (pc + 3) ls (.int r :: rest))) : W p l e R s m args below meth c H locs cells slots Q (F0 m pc ls st0) :=
  G_callSi C0 hK h hM (fun _ h => h) (fun u => u) (fun _ _ _ _ h _ => h) (Nat.le_refl _) (Nat.le_refl _) cw hlen hsz hst hroom hf hdg kk
theorem G_callVv (C0 : Cx p s m args meth c cc nL ret own ws) (hK : QK z s) (h : GW z At lo hi s.heap c0 a H locs) {k ci : Nat} {q : vw_C} {fs : List Value} {post : β → Prop} (hM : GV l y ws2 rm z (.ref (za z k) :: As) mc ms At2 lo2 hi2 b0 post) (hin : ∀ ct, At a ct → At2 b0 ct) (g : β → α) (hout : ∀ ct ct2 u, At a ct → At2 u ct2 → Fr lo2 hi2 ct ct2 → At (g u) ct2) (hlo : lo ≤ lo2) (hhi : hi2 ≤ hi)
    (cw : CallW R s args own C index y bytes maxL ret2 ws2 rm mc ms n) (hk : k < hi) (hc : ∀ ct, At a ct → ct k = .inr (ci, fs)) (hcl : vwCl[ci]? = some q) (hC : q.1 = C) (hlen : As.length = n) (hsz : ls.size = nL) (hst : st0 = As.reverse ++ .ref (za z k) :: rest) (hroom : (rest.map fun v => v.category).sum ≤ 8) (hf : cells + mc ≤ R.cells ∧ slots + ms ≤ R.slots) (hdg : decode cc pc = .ok (.invokevirtual index, 3))
    (kk : ∀ (u : β) (H1 : Heap) (locs1 : List Loc), post u → GW z At lo hi s.heap c0 (g u) H1 locs1 → W p l e R s m args below meth c H1 locs1 (cells + mc) (slots + ms) Q (F0 m (pc + 3) ls (rest))) : W p l e R s m args below meth c H locs cells slots Q (F0 m pc ls st0) := by
  obtain ⟨ct, hP, hS, hA, hF, hn, hq⟩ := h
  refine va_callv (va_runV (As := As) (rest := rest) ⟨C0.1, C0.2.1, C0.2.2.2.1, C0.2.2.2.2.1, C0.2.2.2.2.2.1⟩ (hM ct H.size (Nat.le_trans hhi hn) hq (hin ct hA)) cw ⟨q_blind, by rw [← hC]; exact q_recv hK hP (Nat.lt_of_lt_of_le hk hn) (hc ct hA) hcl, q_given hK hP⟩ rfl hlen hsz hst (lv_room hroom) hdg hf) hS (fun q _ h => qA_sub hS.1 h) (fun q h => qA_sub hS.1 h) (fun u t H1 locs1 ht hvm hp hB hz1 hk1 hS1 => ?_)
  obtain ⟨ct2, hP1, hK1, hA1, hF1⟩ := hB
  rw [ht] at hP1
  exact kk u H1 locs1 hp ⟨ct2, hP1, hS1, hout ct ct2 u hA hA1 hF1, hF.trans (hF1.wider hlo hhi), hn, hq⟩
theorem S_callVv (C0 : Cx p s m args meth c cc nL ret own ws) (hK : QK z s) (h : GW z At lo hi s.heap c0 a H locs) {k ci : Nat} {q : vw_C} {fs : List Value} {post : α → Prop} (hM : GV l y ws2 rm z (.ref (za z k) :: As) mc ms At lo hi a post)
    (cw : CallW R s args own C index y bytes maxL ret2 ws2 rm mc ms n) (hk : k < hi) (hc : ∀ ct, At a ct → ct k = .inr (ci, fs)) (hcl : vwCl[ci]? = some q) (hC : q.1 = C) (hlen : As.length = n) (hsz : ls.size = nL) (hst : st0 = As.reverse ++ .ref (za z k) :: rest) (hroom : (rest.map fun v => v.category).sum ≤ 8) (hf : cells + mc ≤ R.cells ∧ slots + ms ≤ R.slots) (hdg : decode cc pc = .ok (.invokevirtual index, 3))
    (kk : ∀ (u : α) (H1 : Heap) (locs1 : List Loc), post u → GW z At lo hi s.heap c0 u H1 locs1 → W p l e R s m args below meth c H1 locs1 (cells + mc) (slots + ms) Q (F0 m (pc + 3) ls (rest))) : W p l e R s m args below meth c H locs cells slots Q (F0 m pc ls st0) :=
  G_callVv C0 hK h hM (fun _ h => h) (fun u => u) (fun _ _ _ _ h _ => h) (Nat.le_refl _) (Nat.le_refl _) cw hk hc hcl hC hlen hsz hst hroom hf hdg kk
theorem G_callSv (C0 : Cx p s m args meth c cc nL ret own ws) (hK : QK z s) (h : GW z At lo hi s.heap c0 a H locs) {post : β → Prop} (hM : GV l y ws2 rm z As mc ms At2 lo2 hi2 b0 post) (hin : ∀ ct, At a ct → At2 b0 ct) (g : β → α) (hout : ∀ ct ct2 u, At a ct → At2 u ct2 → Fr lo2 hi2 ct ct2 → At (g u) ct2) (hlo : lo ≤ lo2) (hhi : hi2 ≤ hi)
    (cw : CallB R s args own index y bytes maxL ret2 ws2 rm mc ms n ∧ (Cond.static y).before args s = true) (hlen : As.length = n) (hsz : ls.size = nL) (hst : st0 = As.reverse ++ rest) (hroom : (rest.map fun v => v.category).sum ≤ 8) (hf : cells + mc ≤ R.cells ∧ slots + ms ≤ R.slots) (hdg : decode cc pc = .ok (.invokestatic index, 3))
    (kk : ∀ (u : β) (H1 : Heap) (locs1 : List Loc), post u → GW z At lo hi s.heap c0 (g u) H1 locs1 → W p l e R s m args below meth c H1 locs1 (cells + mc) (slots + ms) Q (F0 m (pc + 3) ls (rest))) : W p l e R s m args below meth c H locs cells slots Q (F0 m pc ls st0) := by
  obtain ⟨ct, hP, hS, hA, hF, hn, hq⟩ := h
  refine va_callv (va_runS (As := As) (rest := rest) ⟨C0.1, C0.2.1, C0.2.2.2.1, C0.2.2.2.2.1, C0.2.2.2.2.2.1⟩ (hM ct H.size (Nat.le_trans hhi hn) hq (hin ct hA)) cw ⟨q_blind, q_given hK hP⟩ rfl hlen hsz hst (lv_room hroom) hdg hf) hS (fun q _ h => qA_sub hS.1 h) (fun q h => qA_sub hS.1 h) (fun u t H1 locs1 ht hvm hp hB hz1 hk1 hS1 => ?_)
  obtain ⟨ct2, hP1, hK1, hA1, hF1⟩ := hB
  rw [ht] at hP1
  exact kk u H1 locs1 hp ⟨ct2, hP1, hS1, hout ct ct2 u hA hA1 hF1, hF.trans (hF1.wider hlo hhi), hn, hq⟩
theorem S_callSv (C0 : Cx p s m args meth c cc nL ret own ws) (hK : QK z s) (h : GW z At lo hi s.heap c0 a H locs) {post : α → Prop} (hM : GV l y ws2 rm z As mc ms At lo hi a post)
    (cw : CallB R s args own index y bytes maxL ret2 ws2 rm mc ms n ∧ (Cond.static y).before args s = true) (hlen : As.length = n) (hsz : ls.size = nL) (hst : st0 = As.reverse ++ rest) (hroom : (rest.map fun v => v.category).sum ≤ 8) (hf : cells + mc ≤ R.cells ∧ slots + ms ≤ R.slots) (hdg : decode cc pc = .ok (.invokestatic index, 3))
    (kk : ∀ (u : α) (H1 : Heap) (locs1 : List Loc), post u → GW z At lo hi s.heap c0 u H1 locs1 → W p l e R s m args below meth c H1 locs1 (cells + mc) (slots + ms) Q (F0 m (pc + 3) ls (rest))) : W p l e R s m args below meth c H locs cells slots Q (F0 m pc ls st0) :=
  G_callSv C0 hK h hM (fun _ h => h) (fun u => u) (fun _ _ _ _ h _ => h) (Nat.le_refl _) (Nat.le_refl _) cw hlen hsz hst hroom hf hdg kk
theorem G_callVl (C0 : Cx p s m args meth c cc nL ret own ws) (hK : QK z s) (h : GW z At lo hi s.heap c0 a H locs) {k ci : Nat} {q : vw_C} {fs : List Value} {post : Int64 → β → Prop} (hM : GL l y ws2 rm z (.ref (za z k) :: As) mc ms At2 lo2 hi2 b0 post) (hin : ∀ ct, At a ct → At2 b0 ct) (g : β → α) (hout : ∀ ct ct2 u, At a ct → At2 u ct2 → Fr lo2 hi2 ct ct2 → At (g u) ct2) (hlo : lo ≤ lo2) (hhi : hi2 ≤ hi)
    (cw : CallW R s args own C index y bytes maxL ret2 ws2 rm mc ms n) (hk : k < hi) (hc : ∀ ct, At a ct → ct k = .inr (ci, fs)) (hcl : vwCl[ci]? = some q) (hC : q.1 = C) (hlen : As.length = n) (hsz : ls.size = nL) (hst : st0 = As.reverse ++ .ref (za z k) :: rest) (hroom : (rest.map fun v => v.category).sum ≤ 8) (hf : cells + mc ≤ R.cells ∧ slots + ms ≤ R.slots) (hdg : decode cc pc = .ok (.invokevirtual index, 3))
    (kk : ∀ (r : Int64) (u : β) (H1 : Heap) (locs1 : List Loc), post r u → GW z At lo hi s.heap c0 (g u) H1 locs1 → W p l e R s m args below meth c H1 locs1 (cells + mc) (slots + ms) Q (F0 m (pc + 3) ls (.long r :: rest))) : W p l e R s m args below meth c H locs cells slots Q (F0 m pc ls st0) := by
  obtain ⟨ct, hP, hS, hA, hF, hn, hq⟩ := h
  refine va_calll (va_runV (As := As) (rest := rest) ⟨C0.1, C0.2.1, C0.2.2.2.1, C0.2.2.2.2.1, C0.2.2.2.2.2.1⟩ (hM ct H.size (Nat.le_trans hhi hn) hq (hin ct hA)) cw ⟨q_blind, by rw [← hC]; exact q_recv hK hP (Nat.lt_of_lt_of_le hk hn) (hc ct hA) hcl, q_given hK hP⟩ rfl hlen hsz hst (lv_room hroom) hdg hf) hS (fun q _ h => qA_sub hS.1 h) (fun q h => qA_sub hS.1 h) (fun r u t H1 locs1 ht hvm hp hB hz1 hk1 hS1 => ?_)
  obtain ⟨ct2, hP1, hK1, hA1, hF1⟩ := hB
  rw [ht] at hP1
  exact kk r u H1 locs1 hp ⟨ct2, hP1, hS1, hout ct ct2 u hA hA1 hF1, hF.trans (hF1.wider hlo hhi), hn, hq⟩
theorem S_callVl (C0 : Cx p s m args meth c cc nL ret own ws) (hK : QK z s) (h : GW z At lo hi s.heap c0 a H locs) {k ci : Nat} {q : vw_C} {fs : List Value} {post : Int64 → α → Prop} (hM : GL l y ws2 rm z (.ref (za z k) :: As) mc ms At lo hi a post)
    (cw : CallW R s args own C index y bytes maxL ret2 ws2 rm mc ms n) (hk : k < hi) (hc : ∀ ct, At a ct → ct k = .inr (ci, fs)) (hcl : vwCl[ci]? = some q) (hC : q.1 = C) (hlen : As.length = n) (hsz : ls.size = nL) (hst : st0 = As.reverse ++ .ref (za z k) :: rest) (hroom : (rest.map fun v => v.category).sum ≤ 8) (hf : cells + mc ≤ R.cells ∧ slots + ms ≤ R.slots) (hdg : decode cc pc = .ok (.invokevirtual index, 3))
    (kk : ∀ (r : Int64) (u : α) (H1 : Heap) (locs1 : List Loc), post r u → GW z At lo hi s.heap c0 u H1 locs1 → W p l e R s m args below meth c H1 locs1 (cells + mc) (slots + ms) Q (F0 m (pc + 3) ls (.long r :: rest))) : W p l e R s m args below meth c H locs cells slots Q (F0 m pc ls st0) :=
  G_callVl C0 hK h hM (fun _ h => h) (fun u => u) (fun _ _ _ _ h _ => h) (Nat.le_refl _) (Nat.le_refl _) cw hk hc hcl hC hlen hsz hst hroom hf hdg kk
theorem G_callSl (C0 : Cx p s m args meth c cc nL ret own ws) (hK : QK z s) (h : GW z At lo hi s.heap c0 a H locs) {post : Int64 → β → Prop} (hM : GL l y ws2 rm z As mc ms At2 lo2 hi2 b0 post) (hin : ∀ ct, At a ct → At2 b0 ct) (g : β → α) (hout : ∀ ct ct2 u, At a ct → At2 u ct2 → Fr lo2 hi2 ct ct2 → At (g u) ct2) (hlo : lo ≤ lo2) (hhi : hi2 ≤ hi)
    (cw : CallB R s args own index y bytes maxL ret2 ws2 rm mc ms n ∧ (Cond.static y).before args s = true) (hlen : As.length = n) (hsz : ls.size = nL) (hst : st0 = As.reverse ++ rest) (hroom : (rest.map fun v => v.category).sum ≤ 8) (hf : cells + mc ≤ R.cells ∧ slots + ms ≤ R.slots) (hdg : decode cc pc = .ok (.invokestatic index, 3))
    (kk : ∀ (r : Int64) (u : β) (H1 : Heap) (locs1 : List Loc), post r u → GW z At lo hi s.heap c0 (g u) H1 locs1 → W p l e R s m args below meth c H1 locs1 (cells + mc) (slots + ms) Q (F0 m (pc + 3) ls (.long r :: rest))) : W p l e R s m args below meth c H locs cells slots Q (F0 m pc ls st0) := by
  obtain ⟨ct, hP, hS, hA, hF, hn, hq⟩ := h
  refine va_calll (va_runS (As := As) (rest := rest) ⟨C0.1, C0.2.1, C0.2.2.2.1, C0.2.2.2.2.1, C0.2.2.2.2.2.1⟩ (hM ct H.size (Nat.le_trans hhi hn) hq (hin ct hA)) cw ⟨q_blind, q_given hK hP⟩ rfl hlen hsz hst (lv_room hroom) hdg hf) hS (fun q _ h => qA_sub hS.1 h) (fun q h => qA_sub hS.1 h) (fun r u t H1 locs1 ht hvm hp hB hz1 hk1 hS1 => ?_)
  obtain ⟨ct2, hP1, hK1, hA1, hF1⟩ := hB
  rw [ht] at hP1
  exact kk r u H1 locs1 hp ⟨ct2, hP1, hS1, hout ct ct2 u hA hA1 hF1, hF.trans (hF1.wider hlo hhi), hn, hq⟩
theorem S_callSl (C0 : Cx p s m args meth c cc nL ret own ws) (hK : QK z s) (h : GW z At lo hi s.heap c0 a H locs) {post : Int64 → α → Prop} (hM : GL l y ws2 rm z As mc ms At lo hi a post)
    (cw : CallB R s args own index y bytes maxL ret2 ws2 rm mc ms n ∧ (Cond.static y).before args s = true) (hlen : As.length = n) (hsz : ls.size = nL) (hst : st0 = As.reverse ++ rest) (hroom : (rest.map fun v => v.category).sum ≤ 8) (hf : cells + mc ≤ R.cells ∧ slots + ms ≤ R.slots) (hdg : decode cc pc = .ok (.invokestatic index, 3))
    (kk : ∀ (r : Int64) (u : α) (H1 : Heap) (locs1 : List Loc), post r u → GW z At lo hi s.heap c0 u H1 locs1 → W p l e R s m args below meth c H1 locs1 (cells + mc) (slots + ms) Q (F0 m (pc + 3) ls (.long r :: rest))) : W p l e R s m args below meth c H locs cells slots Q (F0 m pc ls st0) :=
  G_callSl C0 hK h hM (fun _ h => h) (fun u => u) (fun _ _ _ _ h _ => h) (Nat.le_refl _) (Nat.le_refl _) cw hlen hsz hst hroom hf hdg kk
theorem G_callVd (C0 : Cx p s m args meth c cc nL ret own ws) (hK : QK z s) (h : GW z At lo hi s.heap c0 a H locs) {k ci : Nat} {q : vw_C} {fs : List Value} {post : UInt64 → β → Prop} (hM : GD l y ws2 rm z (.ref (za z k) :: As) mc ms At2 lo2 hi2 b0 post) (hin : ∀ ct, At a ct → At2 b0 ct) (g : β → α) (hout : ∀ ct ct2 u, At a ct → At2 u ct2 → Fr lo2 hi2 ct ct2 → At (g u) ct2) (hlo : lo ≤ lo2) (hhi : hi2 ≤ hi)
    (cw : CallW R s args own C index y bytes maxL ret2 ws2 rm mc ms n) (hk : k < hi) (hc : ∀ ct, At a ct → ct k = .inr (ci, fs)) (hcl : vwCl[ci]? = some q) (hC : q.1 = C) (hlen : As.length = n) (hsz : ls.size = nL) (hst : st0 = As.reverse ++ .ref (za z k) :: rest) (hroom : (rest.map fun v => v.category).sum ≤ 8) (hf : cells + mc ≤ R.cells ∧ slots + ms ≤ R.slots) (hdg : decode cc pc = .ok (.invokevirtual index, 3))
    (kk : ∀ (r : UInt64) (u : β) (H1 : Heap) (locs1 : List Loc), post r u → GW z At lo hi s.heap c0 (g u) H1 locs1 → W p l e R s m args below meth c H1 locs1 (cells + mc) (slots + ms) Q (F0 m (pc + 3) ls (.double r :: rest))) : W p l e R s m args below meth c H locs cells slots Q (F0 m pc ls st0) := by
  obtain ⟨ct, hP, hS, hA, hF, hn, hq⟩ := h
  refine va_calld (va_runV (As := As) (rest := rest) ⟨C0.1, C0.2.1, C0.2.2.2.1, C0.2.2.2.2.1, C0.2.2.2.2.2.1⟩ (hM ct H.size (Nat.le_trans hhi hn) hq (hin ct hA)) cw ⟨q_blind, by rw [← hC]; exact q_recv hK hP (Nat.lt_of_lt_of_le hk hn) (hc ct hA) hcl, q_given hK hP⟩ rfl hlen hsz hst (lv_room hroom) hdg hf) hS (fun q _ h => qA_sub hS.1 h) (fun q h => qA_sub hS.1 h) (fun r u t H1 locs1 ht hvm hp hB hz1 hk1 hS1 => ?_)
  obtain ⟨ct2, hP1, hK1, hA1, hF1⟩ := hB
  rw [ht] at hP1
  exact kk r u H1 locs1 hp ⟨ct2, hP1, hS1, hout ct ct2 u hA hA1 hF1, hF.trans (hF1.wider hlo hhi), hn, hq⟩
theorem S_callVd (C0 : Cx p s m args meth c cc nL ret own ws) (hK : QK z s) (h : GW z At lo hi s.heap c0 a H locs) {k ci : Nat} {q : vw_C} {fs : List Value} {post : UInt64 → α → Prop} (hM : GD l y ws2 rm z (.ref (za z k) :: As) mc ms At lo hi a post)
    (cw : CallW R s args own C index y bytes maxL ret2 ws2 rm mc ms n) (hk : k < hi) (hc : ∀ ct, At a ct → ct k = .inr (ci, fs)) (hcl : vwCl[ci]? = some q) (hC : q.1 = C) (hlen : As.length = n) (hsz : ls.size = nL) (hst : st0 = As.reverse ++ .ref (za z k) :: rest) (hroom : (rest.map fun v => v.category).sum ≤ 8) (hf : cells + mc ≤ R.cells ∧ slots + ms ≤ R.slots) (hdg : decode cc pc = .ok (.invokevirtual index, 3))
    (kk : ∀ (r : UInt64) (u : α) (H1 : Heap) (locs1 : List Loc), post r u → GW z At lo hi s.heap c0 u H1 locs1 → W p l e R s m args below meth c H1 locs1 (cells + mc) (slots + ms) Q (F0 m (pc + 3) ls (.double r :: rest))) : W p l e R s m args below meth c H locs cells slots Q (F0 m pc ls st0) :=
  G_callVd C0 hK h hM (fun _ h => h) (fun u => u) (fun _ _ _ _ h _ => h) (Nat.le_refl _) (Nat.le_refl _) cw hk hc hcl hC hlen hsz hst hroom hf hdg kk
theorem G_callSd (C0 : Cx p s m args meth c cc nL ret own ws) (hK : QK z s) (h : GW z At lo hi s.heap c0 a H locs) {post : UInt64 → β → Prop} (hM : GD l y ws2 rm z As mc ms At2 lo2 hi2 b0 post) (hin : ∀ ct, At a ct → At2 b0 ct) (g : β → α) (hout : ∀ ct ct2 u, At a ct → At2 u ct2 → Fr lo2 hi2 ct ct2 → At (g u) ct2) (hlo : lo ≤ lo2) (hhi : hi2 ≤ hi)
    (cw : CallB R s args own index y bytes maxL ret2 ws2 rm mc ms n ∧ (Cond.static y).before args s = true) (hlen : As.length = n) (hsz : ls.size = nL) (hst : st0 = As.reverse ++ rest) (hroom : (rest.map fun v => v.category).sum ≤ 8) (hf : cells + mc ≤ R.cells ∧ slots + ms ≤ R.slots) (hdg : decode cc pc = .ok (.invokestatic index, 3))
    (kk : ∀ (r : UInt64) (u : β) (H1 : Heap) (locs1 : List Loc), post r u → GW z At lo hi s.heap c0 (g u) H1 locs1 → W p l e R s m args below meth c H1 locs1 (cells + mc) (slots + ms) Q (F0 m (pc + 3) ls (.double r :: rest))) : W p l e R s m args below meth c H locs cells slots Q (F0 m pc ls st0) := by
  obtain ⟨ct, hP, hS, hA, hF, hn, hq⟩ := h
  refine va_calld (va_runS (As := As) (rest := rest) ⟨C0.1, C0.2.1, C0.2.2.2.1, C0.2.2.2.2.1, C0.2.2.2.2.2.1⟩ (hM ct H.size (Nat.le_trans hhi hn) hq (hin ct hA)) cw ⟨q_blind, q_given hK hP⟩ rfl hlen hsz hst (lv_room hroom) hdg hf) hS (fun q _ h => qA_sub hS.1 h) (fun q h => qA_sub hS.1 h) (fun r u t H1 locs1 ht hvm hp hB hz1 hk1 hS1 => ?_)
  obtain ⟨ct2, hP1, hK1, hA1, hF1⟩ := hB
  rw [ht] at hP1
  exact kk r u H1 locs1 hp ⟨ct2, hP1, hS1, hout ct ct2 u hA hA1 hF1, hF.trans (hF1.wider hlo hhi), hn, hq⟩
theorem S_callSd (C0 : Cx p s m args meth c cc nL ret own ws) (hK : QK z s) (h : GW z At lo hi s.heap c0 a H locs) {post : UInt64 → α → Prop} (hM : GD l y ws2 rm z As mc ms At lo hi a post)
    (cw : CallB R s args own index y bytes maxL ret2 ws2 rm mc ms n ∧ (Cond.static y).before args s = true) (hlen : As.length = n) (hsz : ls.size = nL) (hst : st0 = As.reverse ++ rest) (hroom : (rest.map fun v => v.category).sum ≤ 8) (hf : cells + mc ≤ R.cells ∧ slots + ms ≤ R.slots) (hdg : decode cc pc = .ok (.invokestatic index, 3))
    (kk : ∀ (r : UInt64) (u : α) (H1 : Heap) (locs1 : List Loc), post r u → GW z At lo hi s.heap c0 u H1 locs1 → W p l e R s m args below meth c H1 locs1 (cells + mc) (slots + ms) Q (F0 m (pc + 3) ls (.double r :: rest))) : W p l e R s m args below meth c H locs cells slots Q (F0 m pc ls st0) :=
  G_callSd C0 hK h hM (fun _ h => h) (fun u => u) (fun _ _ _ _ h _ => h) (Nat.le_refl _) (Nat.le_refl _) cw hlen hsz hst hroom hf hdg kk
end QC
abbrev QLs : Type := (Nat → Nat → Int32) × (Nat → Nat → Int32) × Nat × Nat × Int32
abbrev qT (S : QLs) : Nat → Nat → Int32 := S.1
abbrev qP (S : QLs) : Nat → Nat → Int32 := S.2.1
abbrev qt (S : QLs) : Nat := S.2.2.1
abbrev qp (S : QLs) : Nat := S.2.2.2.1
abbrev qD (S : QLs) : Int32 := S.2.2.2.2
def sT (S : QLs) (i : Nat) (r : Nat → Int32) : QLs := (va_up S.1 i r, S.2)
def sP (S : QLs) (i : Nat) (r : Nat → Int32) : QLs := (S.1, va_up S.2.1 i r, S.2.2)
def st_ (S : QLs) (n : Nat) : QLs := (S.1, S.2.1, n, S.2.2.2)
def sp_ (S : QLs) (n : Nat) : QLs := (S.1, S.2.1, S.2.2.1, n, S.2.2.2.2)
def sD (S : QLs) (d : Int32) : QLs := (S.1, S.2.1, S.2.2.1, S.2.2.2.1, d)
/-- a land at the place B: the object, the two outer arrays, ten rows of tanks, fourteen of pipes -/
def LandAt (z : QZ) (B : Nat) (S : QLs) (ct : Nat → va_E) : Prop :=
  ct B = .inr (0, [.ref (za z (B + 1)), .ref (za z (B + 2)), .int (nI (qt S)), .int (nI (qp S)), .int (qD S)]) ∧
  ct (B + 1) = .inl (zR z, 10, .inr (.inr (.inr (.inr (fun i => if i < 10 then some (za z (B + (3 + i))) else none))))) ∧
  ct (B + 2) = .inl (zR z, 14, .inr (.inr (.inr (.inr (fun i => if i < 14 then some (za z (B + (13 + i))) else none))))) ∧
  (∀ i, i < 10 → ct (B + (3 + i)) = .inl (zI z, 8, .inl (qT S i))) ∧ (∀ i, i < 14 → ct (B + (13 + i)) = .inl (zI z, 10, .inl (qP S i)))
theorem LandAt.off {z : QZ} {B : Nat} {S : QLs} {ct ct2 : Nat → va_E} (h : LandAt z B S ct) (hk : ∀ k, B ≤ k → k < B + 27 → ct2 k = ct k) : LandAt z B S ct2 := by
  obtain ⟨h1, h2, h3, h4, h5⟩ := h
  refine ⟨?_, ?_, ?_, fun i hi => ?_, fun i hi => ?_⟩
  · rw [hk _ (by omega) (by omega)]; exact h1
  · rw [hk _ (by omega) (by omega)]; exact h2
  · rw [hk _ (by omega) (by omega)]; exact h3
  · rw [hk _ (by omega) (by omega)]; exact h4 i hi
  · rw [hk _ (by omega) (by omega)]; exact h5 i hi
theorem LandAt.setT {z : QZ} {B : Nat} {S : QLs} {ct : Nat → va_E} (h : LandAt z B S ct) {i : Nat} (hi : i < 10) (r : Nat → Int32) : LandAt z B (sT S i r) (va_up ct (B + (3 + i)) (.inl (zI z, 8, .inl r))) := by
  obtain ⟨h1, h2, h3, h4, h5⟩ := h
  refine ⟨?_, ?_, ?_, fun j hj => ?_, fun j hj => ?_⟩
  · rw [va_up_ne _ _ (by omega)]; exact h1
  · rw [va_up_ne _ _ (by omega)]; exact h2
  · rw [va_up_ne _ _ (by omega)]; exact h3
  · by_cases e : j = i
    · subst e
      rw [va_up_self]; simp [sT, qT, va_up_self]
    · rw [va_up_ne _ _ (by omega), h4 j hj]; simp [sT, qT, va_up_ne _ _ e]
  · rw [va_up_ne _ _ (by omega)]; exact h5 j hj
theorem LandAt.setP {z : QZ} {B : Nat} {S : QLs} {ct : Nat → va_E} (h : LandAt z B S ct) {i : Nat} (hi : i < 14) (r : Nat → Int32) : LandAt z B (sP S i r) (va_up ct (B + (13 + i)) (.inl (zI z, 10, .inl r))) := by
  obtain ⟨h1, h2, h3, h4, h5⟩ := h
  refine ⟨?_, ?_, ?_, fun j hj => ?_, fun j hj => ?_⟩
  · rw [va_up_ne _ _ (by omega)]; exact h1
  · rw [va_up_ne _ _ (by omega)]; exact h2
  · rw [va_up_ne _ _ (by omega)]; exact h3
  · rw [va_up_ne _ _ (by omega)]; exact h4 j hj
  · by_cases e : j = i
    · subst e
      rw [va_up_self]; simp [sP, qP, va_up_self]
    · rw [va_up_ne _ _ (by omega), h5 j hj]; simp [sP, qP, va_up_ne _ _ e]
theorem LandAt.setO {z : QZ} {B : Nat} {S S2 : QLs} {ct : Nat → va_E} (h : LandAt z B S ct) (hT : qT S2 = qT S) (hP : qP S2 = qP S) : LandAt z B S2 (va_up ct B (.inr (0, [.ref (za z (B + 1)), .ref (za z (B + 2)), .int (nI (qt S2)), .int (nI (qp S2)), .int (qD S2)]))) := by
  obtain ⟨h1, h2, h3, h4, h5⟩ := h
  refine ⟨va_up_self _ _ _, ?_, ?_, fun j hj => ?_, fun j hj => ?_⟩
  · rw [va_up_ne _ _ (by omega)]; exact h2
  · rw [va_up_ne _ _ (by omega)]; exact h3
  · rw [va_up_ne _ _ (by omega), hT]; exact h4 j hj
  · rw [va_up_ne _ _ (by omega), hP]; exact h5 j hj
/-- the class: its object, and two lands -/
def XAt (z : QZ) (σ : Nat → QLs) (ct : Nat → va_E) : Prop := ct 0 = .inr (1, [.ref (za z (1 + 27 * 0)), .ref (za z (1 + 27 * 1))]) ∧ ∀ b, b < 2 → LandAt z (1 + 27 * b) (σ b) ct
theorem XAt.up {z : QZ} {σ : Nat → QLs} {ct : Nat → va_E} (h : XAt z σ ct) {b k : Nat} {e : va_E} {S : QLs} (hb : b < 2) (hk : 1 + 27 * b ≤ k ∧ k < 1 + 27 * b + 27) (hl : LandAt z (1 + 27 * b) S (va_up ct k e)) : XAt z (va_up σ b S) (va_up ct k e) := by
  refine ⟨by rw [va_up_ne _ _ (by omega)]; exact h.1, fun b2 hb2 => ?_⟩
  by_cases e2 : b2 = b
  · subst e2; rw [va_up_self]; exact hl
  · rw [va_up_ne _ _ e2]
    exact (h.2 b2 hb2).off (fun k2 h1 h2 => va_up_ne _ _ (by omega))
theorem XAt.T {z : QZ} {σ : Nat → QLs} {ct : Nat → va_E} (h : XAt z σ ct) {b i : Nat} (hb : b < 2) (hi : i < 10) (r : Nat → Int32) : XAt z (va_up σ b (sT (σ b) i r)) (va_up ct (1 + 27 * b + (3 + i)) (.inl (zI z, 8, .inl r))) := h.up hb (by omega) ((h.2 b hb).setT hi r)
theorem XAt.P {z : QZ} {σ : Nat → QLs} {ct : Nat → va_E} (h : XAt z σ ct) {b i : Nat} (hb : b < 2) (hi : i < 14) (r : Nat → Int32) : XAt z (va_up σ b (sP (σ b) i r)) (va_up ct (1 + 27 * b + (13 + i)) (.inl (zI z, 10, .inl r))) := h.up hb (by omega) ((h.2 b hb).setP hi r)
theorem XAt.O {z : QZ} {σ : Nat → QLs} {ct : Nat → va_E} (h : XAt z σ ct) {b : Nat} {S2 : QLs} (hb : b < 2) (hT : qT S2 = qT (σ b)) (hP : qP S2 = qP (σ b)) : XAt z (va_up σ b S2) (va_up ct (1 + 27 * b) (.inr (0, [.ref (za z (1 + 27 * b + 1)), .ref (za z (1 + 27 * b + 2)), .int (nI (qt S2)), .int (nI (qp S2)), .int (qD S2)]))) := h.up hb (by omega) ((h.2 b hb).setO hT hP)
/-- the reference: its object, tanks, pipes, the day -/
abbrev QMs : Type := Int32 × Nat × Nat × (Nat → Int32) × (Nat → Int32) × (Nat → Int32)
abbrev mH (M : QMs) : Int32 := M.1
abbrev mt_ (M : QMs) : Nat := M.2.1
abbrev mp_ (M : QMs) : Nat := M.2.2.1
abbrev mA (M : QMs) : Nat → Int32 := M.2.2.2.1
abbrev mB (M : QMs) : Nat → Int32 := M.2.2.2.2.1
abbrev mY (M : QMs) : Nat → Int32 := M.2.2.2.2.2
def uh (M : QMs) (x : Int32) : QMs := (x, M.2)
def ut (M : QMs) (n : Nat) : QMs := (M.1, n, M.2.2)
def up_ (M : QMs) (n : Nat) : QMs := (M.1, M.2.1, n, M.2.2.2)
def uA (M : QMs) (f : Nat → Int32) : QMs := (M.1, M.2.1, M.2.2.1, f, M.2.2.2.2)
def uB (M : QMs) (f : Nat → Int32) : QMs := (M.1, M.2.1, M.2.2.1, M.2.2.2.1, f, M.2.2.2.2.2)
def uY (M : QMs) (f : Nat → Int32) : QMs := (M.1, M.2.1, M.2.2.1, M.2.2.2.1, M.2.2.2.2.1, f)
section QX
variable {p : Program} {l : Launch} {e : Env} {R : Room} {s : State} {m : MethodId} {args : Array Value} {below : List Frame} {meth : Method} {c : Code} {H : Heap} {locs : List Loc} {cells slots : Nat} {Q : State → Prop}
variable {cc : ByteArray} {nL : Nat} {ret : Option FieldType} {own : String} {ws : List Cond} {pc : Nat} {ls : Array Slot} {rest : List Value} {z : QZ} {c0 : Nat → va_E} {σ : Nat → QLs} {M : QMs}
theorem X_ldT (C0 : Cx p s m args meth c cc nL ret own ws) (hK : QK z s) (h : GW z (XAt z) 0 55 s.heap c0 σ H locs) {b i k : Nat} (hb : b < 2) (hi : i < 10) {x : Int32} (hx : x = nI k) (hk : k < 8) (hdg : decode cc pc = .ok (.iaload, 1)) (kk : W p l e R s m args below meth c H locs cells slots Q (F0 m (pc + 1) ls (.int (qT (σ b) i k) :: rest))) : W p l e R s m args below meth c H locs cells slots Q (F0 m pc ls (.int x :: .ref (za z (1 + 27 * b + (3 + i))) :: rest)) :=
  G_iald C0 hK h (by omega) (fun ct hA => (hA.2 b hb).2.2.2.1 i hi) hx hk (by omega) hdg kk
theorem X_stT (C0 : Cx p s m args meth c cc nL ret own ws) (hK : QK z s) (h : GW z (XAt z) 0 55 s.heap c0 σ H locs) {b i k : Nat} (hb : b < 2) (hi : i < 10) {x v : Int32} (hx : x = nI k) (hk : k < 8) (hdg : decode cc pc = .ok (.iastore, 1)) (kk : ∀ (H1 : Heap) (locs1 : List Loc), GW z (XAt z) 0 55 s.heap c0 (va_up σ b (sT (σ b) i (upd (qT (σ b) i) k v))) H1 locs1 → W p l e R s m args below meth c H1 locs1 cells slots Q (F0 m (pc + 1) ls rest)) : W p l e R s m args below meth c H locs cells slots Q (F0 m pc ls (.int v :: .int x :: .ref (za z (1 + 27 * b + (3 + i))) :: rest)) :=
  G_iast C0 hK h (by omega) (fun ct hA => (hA.2 b hb).2.2.2.1 i hi) hx hk (by omega) (fun ct hA => hA.T hb hi _) hdg kk
theorem X_aT (C0 : Cx p s m args meth c cc nL ret own ws) (hK : QK z s) (h : GW z (XAt z) 0 55 s.heap c0 σ H locs) {b i : Nat} (hb : b < 2) {x : Int32} (hx : x = nI i) (hi : i < 10) (hdg : decode cc pc = .ok (.aaload, 1)) (kk : W p l e R s m args below meth c H locs cells slots Q (F0 m (pc + 1) ls (.ref (za z (1 + 27 * b + (3 + i))) :: rest))) : W p l e R s m args below meth c H locs cells slots Q (F0 m pc ls (.int x :: .ref (za z (1 + 27 * b + 1)) :: rest)) :=
  G_aald C0 hK h (by omega) (fun ct hA => (hA.2 b hb).2.1) hx hi (by omega) (if_pos hi) hdg kk
theorem X_ldP (C0 : Cx p s m args meth c cc nL ret own ws) (hK : QK z s) (h : GW z (XAt z) 0 55 s.heap c0 σ H locs) {b i k : Nat} (hb : b < 2) (hi : i < 14) {x : Int32} (hx : x = nI k) (hk : k < 10) (hdg : decode cc pc = .ok (.iaload, 1)) (kk : W p l e R s m args below meth c H locs cells slots Q (F0 m (pc + 1) ls (.int (qP (σ b) i k) :: rest))) : W p l e R s m args below meth c H locs cells slots Q (F0 m pc ls (.int x :: .ref (za z (1 + 27 * b + (13 + i))) :: rest)) :=
  G_iald C0 hK h (by omega) (fun ct hA => (hA.2 b hb).2.2.2.2 i hi) hx hk (by omega) hdg kk
theorem X_stP (C0 : Cx p s m args meth c cc nL ret own ws) (hK : QK z s) (h : GW z (XAt z) 0 55 s.heap c0 σ H locs) {b i k : Nat} (hb : b < 2) (hi : i < 14) {x v : Int32} (hx : x = nI k) (hk : k < 10) (hdg : decode cc pc = .ok (.iastore, 1)) (kk : ∀ (H1 : Heap) (locs1 : List Loc), GW z (XAt z) 0 55 s.heap c0 (va_up σ b (sP (σ b) i (upd (qP (σ b) i) k v))) H1 locs1 → W p l e R s m args below meth c H1 locs1 cells slots Q (F0 m (pc + 1) ls rest)) : W p l e R s m args below meth c H locs cells slots Q (F0 m pc ls (.int v :: .int x :: .ref (za z (1 + 27 * b + (13 + i))) :: rest)) :=
  G_iast C0 hK h (by omega) (fun ct hA => (hA.2 b hb).2.2.2.2 i hi) hx hk (by omega) (fun ct hA => hA.P hb hi _) hdg kk
theorem X_aP (C0 : Cx p s m args meth c cc nL ret own ws) (hK : QK z s) (h : GW z (XAt z) 0 55 s.heap c0 σ H locs) {b i : Nat} (hb : b < 2) {x : Int32} (hx : x = nI i) (hi : i < 14) (hdg : decode cc pc = .ok (.aaload, 1)) (kk : W p l e R s m args below meth c H locs cells slots Q (F0 m (pc + 1) ls (.ref (za z (1 + 27 * b + (13 + i))) :: rest))) : W p l e R s m args below meth c H locs cells slots Q (F0 m pc ls (.int x :: .ref (za z (1 + 27 * b + 2)) :: rest)) :=
  G_aald C0 hK h (by omega) (fun ct hA => (hA.2 b hb).2.2.1) hx hi (by omega) (if_pos hi) hdg kk
theorem X_gL (C0 : Cx p s m args meth c cc nL ret own ws) (hK : QK z s) (h : GW z (XAt z) 0 55 s.heap c0 σ H locs) {b : Nat} (hb : b < 2) (hin : ∀ w ∈ u_ws RX0 TX0 5, w ∈ ws) (j : Nat) (hj : j < 5) {index : Nat} (hlink : Cond.fieldLink own index (TX0 j).1 (TX0 j).2.1 (TX0 j).2.2.1 ∈ ws) {v : Value} (hv : [Value.ref (za z (1 + 27 * b + 1)), .ref (za z (1 + 27 * b + 2)), .int (nI (qt (σ b))), .int (nI (qp (σ b))), .int (qD (σ b))][j]? = some v) (hdg : decode cc pc = .ok (.getfield index, 3)) (kk : W p l e R s m args below meth c H locs cells slots Q (F0 m (pc + 3) ls (v :: rest))) : W p l e R s m args below meth c H locs cells slots Q (F0 m pc ls (.ref (za z (1 + 27 * b)) :: rest)) :=
  G_get C0 hK h hin 0 rfl (by omega) (fun ct hA => (hA.2 b hb).1) j hj hlink hv hdg kk
theorem X_gO (C0 : Cx p s m args meth c cc nL ret own ws) (hK : QK z s) (h : GW z (XAt z) 0 55 s.heap c0 σ H locs) (hin : ∀ w ∈ u_ws RX1 TX1 2, w ∈ ws) (j : Nat) (hj : j < 2) {index : Nat} (hlink : Cond.fieldLink own index (TX1 j).1 (TX1 j).2.1 (TX1 j).2.2.1 ∈ ws) (hdg : decode cc pc = .ok (.getfield index, 3)) (kk : W p l e R s m args below meth c H locs cells slots Q (F0 m (pc + 3) ls (.ref (za z (1 + 27 * j)) :: rest))) : W p l e R s m args below meth c H locs cells slots Q (F0 m pc ls (.ref (za z 0) :: rest)) :=
  G_get C0 hK h hin 1 rfl (by omega) (fun ct hA => hA.1) j hj hlink (by rcases (show j = 0 ∨ j = 1 by omega) with rfl | rfl <;> rfl) hdg kk
theorem X_pt (C0 : Cx p s m args meth c cc nL ret own ws) (hK : QK z s) (h : GW z (XAt z) 0 55 s.heap c0 σ H locs) {b : Nat} (hb : b < 2) (hin : ∀ w ∈ u_ws RX0 TX0 5, w ∈ ws) {index : Nat} (hlink : Cond.fieldLink own index (TX0 2).1 (TX0 2).2.1 (TX0 2).2.2.1 ∈ ws) {x : Int32} {n : Nat} (hx : x = nI n) (hdg : decode cc pc = .ok (.putfield index, 3)) (kk : ∀ (H1 : Heap) (locs1 : List Loc), GW z (XAt z) 0 55 s.heap c0 (va_up σ b (st_ (σ b) n)) H1 locs1 → W p l e R s m args below meth c H1 locs1 cells slots Q (F0 m (pc + 3) ls rest)) : W p l e R s m args below meth c H locs cells slots Q (F0 m pc ls (.int x :: .ref (za z (1 + 27 * b)) :: rest)) := by
  subst hx
  exact G_put C0 hK h hin 0 rfl tyX0 tyX0_ok nmX0 (by omega) (fun ct hA => (hA.2 b hb).1) 2 (by omega) hlink rfl rfl (show 2 < 5 by omega) (fun ct hA => hA.O (S2 := st_ (σ b) n) hb rfl rfl) hdg kk
theorem X_pp (C0 : Cx p s m args meth c cc nL ret own ws) (hK : QK z s) (h : GW z (XAt z) 0 55 s.heap c0 σ H locs) {b : Nat} (hb : b < 2) (hin : ∀ w ∈ u_ws RX0 TX0 5, w ∈ ws) {index : Nat} (hlink : Cond.fieldLink own index (TX0 3).1 (TX0 3).2.1 (TX0 3).2.2.1 ∈ ws) {x : Int32} {n : Nat} (hx : x = nI n) (hdg : decode cc pc = .ok (.putfield index, 3)) (kk : ∀ (H1 : Heap) (locs1 : List Loc), GW z (XAt z) 0 55 s.heap c0 (va_up σ b (sp_ (σ b) n)) H1 locs1 → W p l e R s m args below meth c H1 locs1 cells slots Q (F0 m (pc + 3) ls rest)) : W p l e R s m args below meth c H locs cells slots Q (F0 m pc ls (.int x :: .ref (za z (1 + 27 * b)) :: rest)) := by
  subst hx
  exact G_put C0 hK h hin 0 rfl tyX0 tyX0_ok nmX0 (by omega) (fun ct hA => (hA.2 b hb).1) 3 (by omega) hlink rfl rfl (show 3 < 5 by omega) (fun ct hA => hA.O (S2 := sp_ (σ b) n) hb rfl rfl) hdg kk
theorem X_pd (C0 : Cx p s m args meth c cc nL ret own ws) (hK : QK z s) (h : GW z (XAt z) 0 55 s.heap c0 σ H locs) {b : Nat} (hb : b < 2) (hin : ∀ w ∈ u_ws RX0 TX0 5, w ∈ ws) {index : Nat} (hlink : Cond.fieldLink own index (TX0 4).1 (TX0 4).2.1 (TX0 4).2.2.1 ∈ ws) {x : Int32} (hdg : decode cc pc = .ok (.putfield index, 3)) (kk : ∀ (H1 : Heap) (locs1 : List Loc), GW z (XAt z) 0 55 s.heap c0 (va_up σ b (sD (σ b) x)) H1 locs1 → W p l e R s m args below meth c H1 locs1 cells slots Q (F0 m (pc + 3) ls rest)) : W p l e R s m args below meth c H locs cells slots Q (F0 m pc ls (.int x :: .ref (za z (1 + 27 * b)) :: rest)) := by
  exact G_put C0 hK h hin 0 rfl tyX0 tyX0_ok nmX0 (by omega) (fun ct hA => (hA.2 b hb).1) 4 (by omega) hlink rfl rfl (show 4 < 5 by omega) (fun ct hA => hA.O (S2 := sD (σ b) x) hb rfl rfl) hdg kk
end QX
end
section
theorem dX0_init_0 : decode cX0_init 0 = .ok (.aload_n 0, 1) := by decide +kernel
theorem dX0_init_1 : decode cX0_init 1 = .ok (.invokespecial 3, 3) := by decide +kernel
theorem dX0_init_4 : decode cX0_init 4 = .ok (.aload_n 0, 1) := by decide +kernel
theorem dX0_init_5 : decode cX0_init 5 = .ok (.bipush 10, 2) := by decide +kernel
theorem dX0_init_7 : decode cX0_init 7 = .ok (.bipush 8, 2) := by decide +kernel
theorem dX0_init_9 : decode cX0_init 9 = .ok (.multianewarray 11 2, 4) := by decide +kernel
theorem dX0_init_13 : decode cX0_init 13 = .ok (.putfield 13, 3) := by decide +kernel
theorem dX0_init_16 : decode cX0_init 16 = .ok (.aload_n 0, 1) := by decide +kernel
theorem dX0_init_17 : decode cX0_init 17 = .ok (.bipush 14, 2) := by decide +kernel
theorem dX0_init_19 : decode cX0_init 19 = .ok (.bipush 10, 2) := by decide +kernel
theorem dX0_init_21 : decode cX0_init 21 = .ok (.multianewarray 11 2, 4) := by decide +kernel
theorem dX0_init_25 : decode cX0_init 25 = .ok (.putfield 16, 3) := by decide +kernel
theorem dX0_init_28 : decode cX0_init 28 = .ok (.return_, 1) := by decide +kernel
theorem dX0_addTank_0 : decode cX0_addTank 0 = .ok (.aload_n 0, 1) := by decide +kernel
theorem dX0_addTank_1 : decode cX0_addTank 1 = .ok (.getfield 19, 3) := by decide +kernel
theorem dX0_addTank_4 : decode cX0_addTank 4 = .ok (.bipush 10, 2) := by decide +kernel
theorem dX0_addTank_6 : decode cX0_addTank 6 = .ok (.if_icmp .lt 5, 3) := by decide +kernel
theorem dX0_addTank_9 : decode cX0_addTank 9 = .ok (.iconst (-1), 1) := by decide +kernel
theorem dX0_addTank_10 : decode cX0_addTank 10 = .ok (.ireturn, 1) := by decide +kernel
theorem dX0_addTank_11 : decode cX0_addTank 11 = .ok (.aload_n 0, 1) := by decide +kernel
theorem dX0_addTank_12 : decode cX0_addTank 12 = .ok (.getfield 13, 3) := by decide +kernel
theorem dX0_addTank_15 : decode cX0_addTank 15 = .ok (.aload_n 0, 1) := by decide +kernel
theorem dX0_addTank_16 : decode cX0_addTank 16 = .ok (.getfield 19, 3) := by decide +kernel
theorem dX0_addTank_19 : decode cX0_addTank 19 = .ok (.aaload, 1) := by decide +kernel
theorem dX0_addTank_20 : decode cX0_addTank 20 = .ok (.astore 4, 2) := by decide +kernel
theorem dX0_addTank_22 : decode cX0_addTank 22 = .ok (.aload 4, 2) := by decide +kernel
theorem dX0_addTank_24 : decode cX0_addTank 24 = .ok (.iconst 0, 1) := by decide +kernel
theorem dX0_addTank_25 : decode cX0_addTank 25 = .ok (.iload_n 1, 1) := by decide +kernel
theorem dX0_addTank_26 : decode cX0_addTank 26 = .ok (.iastore, 1) := by decide +kernel
theorem dX0_addTank_27 : decode cX0_addTank 27 = .ok (.aload 4, 2) := by decide +kernel
theorem dX0_addTank_29 : decode cX0_addTank 29 = .ok (.iconst 1, 1) := by decide +kernel
theorem dX0_addTank_30 : decode cX0_addTank 30 = .ok (.iload_n 2, 1) := by decide +kernel
theorem dX0_addTank_31 : decode cX0_addTank 31 = .ok (.iastore, 1) := by decide +kernel
theorem dX0_addTank_32 : decode cX0_addTank 32 = .ok (.aload 4, 2) := by decide +kernel
theorem dX0_addTank_34 : decode cX0_addTank 34 = .ok (.iconst 2, 1) := by decide +kernel
theorem dX0_addTank_35 : decode cX0_addTank 35 = .ok (.iload_n 3, 1) := by decide +kernel
theorem dX0_addTank_36 : decode cX0_addTank 36 = .ok (.iastore, 1) := by decide +kernel
theorem dX0_addTank_37 : decode cX0_addTank 37 = .ok (.aload_n 0, 1) := by decide +kernel
theorem dX0_addTank_38 : decode cX0_addTank 38 = .ok (.dup, 1) := by decide +kernel
theorem dX0_addTank_39 : decode cX0_addTank 39 = .ok (.getfield 19, 3) := by decide +kernel
theorem dX0_addTank_42 : decode cX0_addTank 42 = .ok (.iconst 1, 1) := by decide +kernel
theorem dX0_addTank_43 : decode cX0_addTank 43 = .ok (.iadd, 1) := by decide +kernel
theorem dX0_addTank_44 : decode cX0_addTank 44 = .ok (.putfield 19, 3) := by decide +kernel
theorem dX0_addTank_47 : decode cX0_addTank 47 = .ok (.aload_n 0, 1) := by decide +kernel
theorem dX0_addTank_48 : decode cX0_addTank 48 = .ok (.getfield 19, 3) := by decide +kernel
theorem dX0_addTank_51 : decode cX0_addTank 51 = .ok (.iconst 1, 1) := by decide +kernel
theorem dX0_addTank_52 : decode cX0_addTank 52 = .ok (.isub, 1) := by decide +kernel
theorem dX0_addTank_53 : decode cX0_addTank 53 = .ok (.ireturn, 1) := by decide +kernel
theorem dX0_addPipe_0 : decode cX0_addPipe 0 = .ok (.aload_n 0, 1) := by decide +kernel
theorem dX0_addPipe_1 : decode cX0_addPipe 1 = .ok (.getfield 23, 3) := by decide +kernel
theorem dX0_addPipe_4 : decode cX0_addPipe 4 = .ok (.bipush 14, 2) := by decide +kernel
theorem dX0_addPipe_6 : decode cX0_addPipe 6 = .ok (.if_icmp .lt 5, 3) := by decide +kernel
theorem dX0_addPipe_9 : decode cX0_addPipe 9 = .ok (.iconst (-1), 1) := by decide +kernel
theorem dX0_addPipe_10 : decode cX0_addPipe 10 = .ok (.ireturn, 1) := by decide +kernel
theorem dX0_addPipe_11 : decode cX0_addPipe 11 = .ok (.aload_n 0, 1) := by decide +kernel
theorem dX0_addPipe_12 : decode cX0_addPipe 12 = .ok (.getfield 16, 3) := by decide +kernel
theorem dX0_addPipe_15 : decode cX0_addPipe 15 = .ok (.aload_n 0, 1) := by decide +kernel
theorem dX0_addPipe_16 : decode cX0_addPipe 16 = .ok (.getfield 23, 3) := by decide +kernel
theorem dX0_addPipe_19 : decode cX0_addPipe 19 = .ok (.aaload, 1) := by decide +kernel
theorem dX0_addPipe_20 : decode cX0_addPipe 20 = .ok (.astore 5, 2) := by decide +kernel
theorem dX0_addPipe_22 : decode cX0_addPipe 22 = .ok (.aload 5, 2) := by decide +kernel
theorem dX0_addPipe_24 : decode cX0_addPipe 24 = .ok (.iconst 0, 1) := by decide +kernel
theorem dX0_addPipe_25 : decode cX0_addPipe 25 = .ok (.iload_n 1, 1) := by decide +kernel
theorem dX0_addPipe_26 : decode cX0_addPipe 26 = .ok (.iastore, 1) := by decide +kernel
theorem dX0_addPipe_27 : decode cX0_addPipe 27 = .ok (.aload 5, 2) := by decide +kernel
theorem dX0_addPipe_29 : decode cX0_addPipe 29 = .ok (.iconst 1, 1) := by decide +kernel
theorem dX0_addPipe_30 : decode cX0_addPipe 30 = .ok (.iload_n 2, 1) := by decide +kernel
theorem dX0_addPipe_31 : decode cX0_addPipe 31 = .ok (.iastore, 1) := by decide +kernel
theorem dX0_addPipe_32 : decode cX0_addPipe 32 = .ok (.aload 5, 2) := by decide +kernel
theorem dX0_addPipe_34 : decode cX0_addPipe 34 = .ok (.iconst 2, 1) := by decide +kernel
theorem dX0_addPipe_35 : decode cX0_addPipe 35 = .ok (.iload_n 3, 1) := by decide +kernel
theorem dX0_addPipe_36 : decode cX0_addPipe 36 = .ok (.iastore, 1) := by decide +kernel
theorem dX0_addPipe_37 : decode cX0_addPipe 37 = .ok (.aload 5, 2) := by decide +kernel
theorem dX0_addPipe_39 : decode cX0_addPipe 39 = .ok (.iconst 3, 1) := by decide +kernel
theorem dX0_addPipe_40 : decode cX0_addPipe 40 = .ok (.iload 4, 2) := by decide +kernel
theorem dX0_addPipe_42 : decode cX0_addPipe 42 = .ok (.iastore, 1) := by decide +kernel
theorem dX0_addPipe_43 : decode cX0_addPipe 43 = .ok (.aload_n 0, 1) := by decide +kernel
theorem dX0_addPipe_44 : decode cX0_addPipe 44 = .ok (.dup, 1) := by decide +kernel
theorem dX0_addPipe_45 : decode cX0_addPipe 45 = .ok (.getfield 23, 3) := by decide +kernel
theorem dX0_addPipe_48 : decode cX0_addPipe 48 = .ok (.iconst 1, 1) := by decide +kernel
theorem dX0_addPipe_49 : decode cX0_addPipe 49 = .ok (.iadd, 1) := by decide +kernel
theorem dX0_addPipe_50 : decode cX0_addPipe 50 = .ok (.putfield 23, 3) := by decide +kernel
theorem dX0_addPipe_53 : decode cX0_addPipe 53 = .ok (.aload_n 0, 1) := by decide +kernel
theorem dX0_addPipe_54 : decode cX0_addPipe 54 = .ok (.getfield 23, 3) := by decide +kernel
theorem dX0_addPipe_57 : decode cX0_addPipe 57 = .ok (.iconst 1, 1) := by decide +kernel
theorem dX0_addPipe_58 : decode cX0_addPipe 58 = .ok (.isub, 1) := by decide +kernel
theorem dX0_addPipe_59 : decode cX0_addPipe 59 = .ok (.ireturn, 1) := by decide +kernel
theorem dX0_copyFrom_0 : decode cX0_copyFrom 0 = .ok (.aload_n 0, 1) := by decide +kernel
theorem dX0_copyFrom_1 : decode cX0_copyFrom 1 = .ok (.aload_n 1, 1) := by decide +kernel
theorem dX0_copyFrom_2 : decode cX0_copyFrom 2 = .ok (.getfield 26, 3) := by decide +kernel
theorem dX0_copyFrom_5 : decode cX0_copyFrom 5 = .ok (.putfield 26, 3) := by decide +kernel
theorem dX0_copyFrom_8 : decode cX0_copyFrom 8 = .ok (.aload_n 0, 1) := by decide +kernel
theorem dX0_copyFrom_9 : decode cX0_copyFrom 9 = .ok (.aload_n 1, 1) := by decide +kernel
theorem dX0_copyFrom_10 : decode cX0_copyFrom 10 = .ok (.getfield 19, 3) := by decide +kernel
theorem dX0_copyFrom_13 : decode cX0_copyFrom 13 = .ok (.putfield 19, 3) := by decide +kernel
theorem dX0_copyFrom_16 : decode cX0_copyFrom 16 = .ok (.aload_n 0, 1) := by decide +kernel
theorem dX0_copyFrom_17 : decode cX0_copyFrom 17 = .ok (.aload_n 1, 1) := by decide +kernel
theorem dX0_copyFrom_18 : decode cX0_copyFrom 18 = .ok (.getfield 23, 3) := by decide +kernel
theorem dX0_copyFrom_21 : decode cX0_copyFrom 21 = .ok (.putfield 23, 3) := by decide +kernel
theorem dX0_copyFrom_24 : decode cX0_copyFrom 24 = .ok (.iconst 0, 1) := by decide +kernel
theorem dX0_copyFrom_25 : decode cX0_copyFrom 25 = .ok (.istore_n 2, 1) := by decide +kernel
theorem dX0_copyFrom_26 : decode cX0_copyFrom 26 = .ok (.iload_n 2, 1) := by decide +kernel
theorem dX0_copyFrom_27 : decode cX0_copyFrom 27 = .ok (.aload_n 0, 1) := by decide +kernel
theorem dX0_copyFrom_28 : decode cX0_copyFrom 28 = .ok (.getfield 19, 3) := by decide +kernel
theorem dX0_copyFrom_31 : decode cX0_copyFrom 31 = .ok (.if_icmp .ge 28, 3) := by decide +kernel
theorem dX0_copyFrom_34 : decode cX0_copyFrom 34 = .ok (.aload_n 1, 1) := by decide +kernel
theorem dX0_copyFrom_35 : decode cX0_copyFrom 35 = .ok (.getfield 13, 3) := by decide +kernel
theorem dX0_copyFrom_38 : decode cX0_copyFrom 38 = .ok (.iload_n 2, 1) := by decide +kernel
theorem dX0_copyFrom_39 : decode cX0_copyFrom 39 = .ok (.aaload, 1) := by decide +kernel
theorem dX0_copyFrom_40 : decode cX0_copyFrom 40 = .ok (.iconst 0, 1) := by decide +kernel
theorem dX0_copyFrom_41 : decode cX0_copyFrom 41 = .ok (.aload_n 0, 1) := by decide +kernel
theorem dX0_copyFrom_42 : decode cX0_copyFrom 42 = .ok (.getfield 13, 3) := by decide +kernel
theorem dX0_copyFrom_45 : decode cX0_copyFrom 45 = .ok (.iload_n 2, 1) := by decide +kernel
theorem dX0_copyFrom_46 : decode cX0_copyFrom 46 = .ok (.aaload, 1) := by decide +kernel
theorem dX0_copyFrom_47 : decode cX0_copyFrom 47 = .ok (.iconst 0, 1) := by decide +kernel
theorem dX0_copyFrom_48 : decode cX0_copyFrom 48 = .ok (.bipush 8, 2) := by decide +kernel
theorem dX0_copyFrom_50 : decode cX0_copyFrom 50 = .ok (.invokestatic 29, 3) := by decide +kernel
theorem dX0_copyFrom_53 : decode cX0_copyFrom 53 = .ok (.iinc 2 1, 3) := by decide +kernel
theorem dX0_copyFrom_56 : decode cX0_copyFrom 56 = .ok (.goto (-30), 3) := by decide +kernel
theorem dX0_copyFrom_59 : decode cX0_copyFrom 59 = .ok (.iconst 0, 1) := by decide +kernel
theorem dX0_copyFrom_60 : decode cX0_copyFrom 60 = .ok (.istore_n 2, 1) := by decide +kernel
theorem dX0_copyFrom_61 : decode cX0_copyFrom 61 = .ok (.iload_n 2, 1) := by decide +kernel
theorem dX0_copyFrom_62 : decode cX0_copyFrom 62 = .ok (.aload_n 0, 1) := by decide +kernel
theorem dX0_copyFrom_63 : decode cX0_copyFrom 63 = .ok (.getfield 23, 3) := by decide +kernel
theorem dX0_copyFrom_66 : decode cX0_copyFrom 66 = .ok (.if_icmp .ge 28, 3) := by decide +kernel
theorem dX0_copyFrom_69 : decode cX0_copyFrom 69 = .ok (.aload_n 1, 1) := by decide +kernel
theorem dX0_copyFrom_70 : decode cX0_copyFrom 70 = .ok (.getfield 16, 3) := by decide +kernel
theorem dX0_copyFrom_73 : decode cX0_copyFrom 73 = .ok (.iload_n 2, 1) := by decide +kernel
theorem dX0_copyFrom_74 : decode cX0_copyFrom 74 = .ok (.aaload, 1) := by decide +kernel
theorem dX0_copyFrom_75 : decode cX0_copyFrom 75 = .ok (.iconst 0, 1) := by decide +kernel
theorem dX0_copyFrom_76 : decode cX0_copyFrom 76 = .ok (.aload_n 0, 1) := by decide +kernel
theorem dX0_copyFrom_77 : decode cX0_copyFrom 77 = .ok (.getfield 16, 3) := by decide +kernel
theorem dX0_copyFrom_80 : decode cX0_copyFrom 80 = .ok (.iload_n 2, 1) := by decide +kernel
theorem dX0_copyFrom_81 : decode cX0_copyFrom 81 = .ok (.aaload, 1) := by decide +kernel
theorem dX0_copyFrom_82 : decode cX0_copyFrom 82 = .ok (.iconst 0, 1) := by decide +kernel
theorem dX0_copyFrom_83 : decode cX0_copyFrom 83 = .ok (.bipush 10, 2) := by decide +kernel
theorem dX0_copyFrom_85 : decode cX0_copyFrom 85 = .ok (.invokestatic 29, 3) := by decide +kernel
theorem dX0_copyFrom_88 : decode cX0_copyFrom 88 = .ok (.iinc 2 1, 3) := by decide +kernel
theorem dX0_copyFrom_91 : decode cX0_copyFrom 91 = .ok (.goto (-30), 3) := by decide +kernel
theorem dX0_copyFrom_94 : decode cX0_copyFrom 94 = .ok (.return_, 1) := by decide +kernel
set_option maxRecDepth 20000 in
theorem ggX0_ofPipe_X0_whatCanFlow : GoodIn wsX0_ofPipe wsX0_whatCanFlow := goodIn_r _ [6, 1, 7, 8, 9, 10, 11, 12, 13, 14, 15, 16, 5, 17, 18, 19, 20, 21, 22] (by decide +kernel) (by decide +kernel)
set_option maxRecDepth 20000 in
theorem gX0_ofPipe_X0_whatCanFlow : GoodIn wsX0_ofPipe (wsV RX0 35 RX0 yX0_whatCanFlow wsX0_whatCanFlow) := goodIn_app (goodIn_of _ (by decide +kernel)) ggX0_ofPipe_X0_whatCanFlow
theorem dX0_ofPipe_0 : decode cX0_ofPipe 0 = .ok (.iload_n 2, 1) := by decide +kernel
theorem dX0_ofPipe_1 : decode cX0_ofPipe 1 = .ok (.bipush 8, 2) := by decide +kernel
theorem dX0_ofPipe_3 : decode cX0_ofPipe 3 = .ok (.if_icmp .ne 11, 3) := by decide +kernel
theorem dX0_ofPipe_6 : decode cX0_ofPipe 6 = .ok (.aload_n 0, 1) := by decide +kernel
theorem dX0_ofPipe_7 : decode cX0_ofPipe 7 = .ok (.iload_n 1, 1) := by decide +kernel
theorem dX0_ofPipe_8 : decode cX0_ofPipe 8 = .ok (.invokevirtual 35, 3) := by decide +kernel
theorem dX0_ofPipe_11 : decode cX0_ofPipe 11 = .ok (.goto 11, 3) := by decide +kernel
theorem dX0_ofPipe_14 : decode cX0_ofPipe 14 = .ok (.aload_n 0, 1) := by decide +kernel
theorem dX0_ofPipe_15 : decode cX0_ofPipe 15 = .ok (.getfield 16, 3) := by decide +kernel
theorem dX0_ofPipe_18 : decode cX0_ofPipe 18 = .ok (.iload_n 1, 1) := by decide +kernel
theorem dX0_ofPipe_19 : decode cX0_ofPipe 19 = .ok (.aaload, 1) := by decide +kernel
theorem dX0_ofPipe_20 : decode cX0_ofPipe 20 = .ok (.iload_n 2, 1) := by decide +kernel
theorem dX0_ofPipe_21 : decode cX0_ofPipe 21 = .ok (.iaload, 1) := by decide +kernel
theorem dX0_ofPipe_22 : decode cX0_ofPipe 22 = .ok (.ireturn, 1) := by decide +kernel
set_option maxRecDepth 20000 in
theorem ggX0_ofAll_X0_sumOfTanks : GoodIn wsX0_ofAll wsX0_sumOfTanks := goodIn_r _ [8, 2, 9, 23, 24, 25, 26, 27] (by decide +kernel) (by decide +kernel)
set_option maxRecDepth 20000 in
theorem gX0_ofAll_X0_sumOfTanks : GoodIn wsX0_ofAll (wsV RX0 39 RX0 yX0_sumOfTanks wsX0_sumOfTanks) := goodIn_app (goodIn_of _ (by decide +kernel)) ggX0_ofAll_X0_sumOfTanks
set_option maxRecDepth 20000 in
theorem ggX0_ofAll_X0_sumOfPipes : GoodIn wsX0_ofAll wsX0_sumOfPipes := goodIn_r _ [13, 3, 14, 23, 24, 25, 26, 27] (by decide +kernel) (by decide +kernel)
set_option maxRecDepth 20000 in
theorem gX0_ofAll_X0_sumOfPipes : GoodIn wsX0_ofAll (wsV RX0 42 RX0 yX0_sumOfPipes wsX0_sumOfPipes) := goodIn_app (goodIn_of _ (by decide +kernel)) ggX0_ofAll_X0_sumOfPipes
set_option maxRecDepth 20000 in
theorem ggX0_ofAll_X0_thirstyTanks : GoodIn wsX0_ofAll wsX0_thirstyTanks := goodIn_r _ [18, 2, 19, 20, 21, 7, 22, 9, 23, 24, 25, 26, 27] (by decide +kernel) (by decide +kernel)
set_option maxRecDepth 20000 in
theorem gX0_ofAll_X0_thirstyTanks : GoodIn wsX0_ofAll (wsV RX0 45 RX0 yX0_thirstyTanks wsX0_thirstyTanks) := goodIn_app (goodIn_of _ (by decide +kernel)) ggX0_ofAll_X0_thirstyTanks
theorem dX0_ofAll_0 : decode cX0_ofAll 0 = .ok (.iload_n 1, 1) := by decide +kernel
theorem dX0_ofAll_1 : decode cX0_ofAll 1 = .ok (.tableswitch 95 0 7 #[47, 52, 57, 62, 68, 74, 81, 88], 47) := by decide +kernel
theorem dX0_ofAll_48 : decode cX0_ofAll 48 = .ok (.aload_n 0, 1) := by decide +kernel
theorem dX0_ofAll_49 : decode cX0_ofAll 49 = .ok (.getfield 26, 3) := by decide +kernel
theorem dX0_ofAll_52 : decode cX0_ofAll 52 = .ok (.ireturn, 1) := by decide +kernel
theorem dX0_ofAll_53 : decode cX0_ofAll 53 = .ok (.aload_n 0, 1) := by decide +kernel
theorem dX0_ofAll_54 : decode cX0_ofAll 54 = .ok (.getfield 19, 3) := by decide +kernel
theorem dX0_ofAll_57 : decode cX0_ofAll 57 = .ok (.ireturn, 1) := by decide +kernel
theorem dX0_ofAll_58 : decode cX0_ofAll 58 = .ok (.aload_n 0, 1) := by decide +kernel
theorem dX0_ofAll_59 : decode cX0_ofAll 59 = .ok (.getfield 23, 3) := by decide +kernel
theorem dX0_ofAll_62 : decode cX0_ofAll 62 = .ok (.ireturn, 1) := by decide +kernel
theorem dX0_ofAll_63 : decode cX0_ofAll 63 = .ok (.aload_n 0, 1) := by decide +kernel
theorem dX0_ofAll_64 : decode cX0_ofAll 64 = .ok (.iconst 3, 1) := by decide +kernel
theorem dX0_ofAll_65 : decode cX0_ofAll 65 = .ok (.invokevirtual 39, 3) := by decide +kernel
theorem dX0_ofAll_68 : decode cX0_ofAll 68 = .ok (.ireturn, 1) := by decide +kernel
theorem dX0_ofAll_69 : decode cX0_ofAll 69 = .ok (.aload_n 0, 1) := by decide +kernel
theorem dX0_ofAll_70 : decode cX0_ofAll 70 = .ok (.iconst 4, 1) := by decide +kernel
theorem dX0_ofAll_71 : decode cX0_ofAll 71 = .ok (.invokevirtual 39, 3) := by decide +kernel
theorem dX0_ofAll_74 : decode cX0_ofAll 74 = .ok (.ireturn, 1) := by decide +kernel
theorem dX0_ofAll_75 : decode cX0_ofAll 75 = .ok (.aload_n 0, 1) := by decide +kernel
theorem dX0_ofAll_76 : decode cX0_ofAll 76 = .ok (.bipush 6, 2) := by decide +kernel
theorem dX0_ofAll_78 : decode cX0_ofAll 78 = .ok (.invokevirtual 39, 3) := by decide +kernel
theorem dX0_ofAll_81 : decode cX0_ofAll 81 = .ok (.ireturn, 1) := by decide +kernel
theorem dX0_ofAll_82 : decode cX0_ofAll 82 = .ok (.aload_n 0, 1) := by decide +kernel
theorem dX0_ofAll_83 : decode cX0_ofAll 83 = .ok (.bipush 7, 2) := by decide +kernel
theorem dX0_ofAll_85 : decode cX0_ofAll 85 = .ok (.invokevirtual 42, 3) := by decide +kernel
theorem dX0_ofAll_88 : decode cX0_ofAll 88 = .ok (.ireturn, 1) := by decide +kernel
theorem dX0_ofAll_89 : decode cX0_ofAll 89 = .ok (.aload_n 0, 1) := by decide +kernel
theorem dX0_ofAll_90 : decode cX0_ofAll 90 = .ok (.bipush 7, 2) := by decide +kernel
theorem dX0_ofAll_92 : decode cX0_ofAll 92 = .ok (.invokevirtual 39, 3) := by decide +kernel
theorem dX0_ofAll_95 : decode cX0_ofAll 95 = .ok (.ireturn, 1) := by decide +kernel
theorem dX0_ofAll_96 : decode cX0_ofAll 96 = .ok (.aload_n 0, 1) := by decide +kernel
theorem dX0_ofAll_97 : decode cX0_ofAll 97 = .ok (.invokevirtual 45, 3) := by decide +kernel
theorem dX0_ofAll_100 : decode cX0_ofAll 100 = .ok (.ireturn, 1) := by decide +kernel
theorem dX0_sumOfTanks_0 : decode cX0_sumOfTanks 0 = .ok (.iconst 0, 1) := by decide +kernel
theorem dX0_sumOfTanks_1 : decode cX0_sumOfTanks 1 = .ok (.istore_n 2, 1) := by decide +kernel
theorem dX0_sumOfTanks_2 : decode cX0_sumOfTanks 2 = .ok (.iconst 0, 1) := by decide +kernel
theorem dX0_sumOfTanks_3 : decode cX0_sumOfTanks 3 = .ok (.istore_n 3, 1) := by decide +kernel
theorem dX0_sumOfTanks_4 : decode cX0_sumOfTanks 4 = .ok (.iload_n 3, 1) := by decide +kernel
theorem dX0_sumOfTanks_5 : decode cX0_sumOfTanks 5 = .ok (.aload_n 0, 1) := by decide +kernel
theorem dX0_sumOfTanks_6 : decode cX0_sumOfTanks 6 = .ok (.getfield 19, 3) := by decide +kernel
theorem dX0_sumOfTanks_9 : decode cX0_sumOfTanks 9 = .ok (.if_icmp .ge 20, 3) := by decide +kernel
theorem dX0_sumOfTanks_12 : decode cX0_sumOfTanks 12 = .ok (.iload_n 2, 1) := by decide +kernel
theorem dX0_sumOfTanks_13 : decode cX0_sumOfTanks 13 = .ok (.aload_n 0, 1) := by decide +kernel
theorem dX0_sumOfTanks_14 : decode cX0_sumOfTanks 14 = .ok (.getfield 13, 3) := by decide +kernel
theorem dX0_sumOfTanks_17 : decode cX0_sumOfTanks 17 = .ok (.iload_n 3, 1) := by decide +kernel
theorem dX0_sumOfTanks_18 : decode cX0_sumOfTanks 18 = .ok (.aaload, 1) := by decide +kernel
theorem dX0_sumOfTanks_19 : decode cX0_sumOfTanks 19 = .ok (.iload_n 1, 1) := by decide +kernel
theorem dX0_sumOfTanks_20 : decode cX0_sumOfTanks 20 = .ok (.iaload, 1) := by decide +kernel
theorem dX0_sumOfTanks_21 : decode cX0_sumOfTanks 21 = .ok (.iadd, 1) := by decide +kernel
theorem dX0_sumOfTanks_22 : decode cX0_sumOfTanks 22 = .ok (.istore_n 2, 1) := by decide +kernel
theorem dX0_sumOfTanks_23 : decode cX0_sumOfTanks 23 = .ok (.iinc 3 1, 3) := by decide +kernel
theorem dX0_sumOfTanks_26 : decode cX0_sumOfTanks 26 = .ok (.goto (-22), 3) := by decide +kernel
theorem dX0_sumOfTanks_29 : decode cX0_sumOfTanks 29 = .ok (.iload_n 2, 1) := by decide +kernel
theorem dX0_sumOfTanks_30 : decode cX0_sumOfTanks 30 = .ok (.ireturn, 1) := by decide +kernel
theorem dX0_sumOfPipes_0 : decode cX0_sumOfPipes 0 = .ok (.iconst 0, 1) := by decide +kernel
theorem dX0_sumOfPipes_1 : decode cX0_sumOfPipes 1 = .ok (.istore_n 2, 1) := by decide +kernel
theorem dX0_sumOfPipes_2 : decode cX0_sumOfPipes 2 = .ok (.iconst 0, 1) := by decide +kernel
theorem dX0_sumOfPipes_3 : decode cX0_sumOfPipes 3 = .ok (.istore_n 3, 1) := by decide +kernel
theorem dX0_sumOfPipes_4 : decode cX0_sumOfPipes 4 = .ok (.iload_n 3, 1) := by decide +kernel
theorem dX0_sumOfPipes_5 : decode cX0_sumOfPipes 5 = .ok (.aload_n 0, 1) := by decide +kernel
theorem dX0_sumOfPipes_6 : decode cX0_sumOfPipes 6 = .ok (.getfield 23, 3) := by decide +kernel
theorem dX0_sumOfPipes_9 : decode cX0_sumOfPipes 9 = .ok (.if_icmp .ge 20, 3) := by decide +kernel
theorem dX0_sumOfPipes_12 : decode cX0_sumOfPipes 12 = .ok (.iload_n 2, 1) := by decide +kernel
theorem dX0_sumOfPipes_13 : decode cX0_sumOfPipes 13 = .ok (.aload_n 0, 1) := by decide +kernel
theorem dX0_sumOfPipes_14 : decode cX0_sumOfPipes 14 = .ok (.getfield 16, 3) := by decide +kernel
theorem dX0_sumOfPipes_17 : decode cX0_sumOfPipes 17 = .ok (.iload_n 3, 1) := by decide +kernel
theorem dX0_sumOfPipes_18 : decode cX0_sumOfPipes 18 = .ok (.aaload, 1) := by decide +kernel
theorem dX0_sumOfPipes_19 : decode cX0_sumOfPipes 19 = .ok (.iload_n 1, 1) := by decide +kernel
theorem dX0_sumOfPipes_20 : decode cX0_sumOfPipes 20 = .ok (.iaload, 1) := by decide +kernel
theorem dX0_sumOfPipes_21 : decode cX0_sumOfPipes 21 = .ok (.iadd, 1) := by decide +kernel
theorem dX0_sumOfPipes_22 : decode cX0_sumOfPipes 22 = .ok (.istore_n 2, 1) := by decide +kernel
theorem dX0_sumOfPipes_23 : decode cX0_sumOfPipes 23 = .ok (.iinc 3 1, 3) := by decide +kernel
theorem dX0_sumOfPipes_26 : decode cX0_sumOfPipes 26 = .ok (.goto (-22), 3) := by decide +kernel
theorem dX0_sumOfPipes_29 : decode cX0_sumOfPipes 29 = .ok (.iload_n 2, 1) := by decide +kernel
theorem dX0_sumOfPipes_30 : decode cX0_sumOfPipes 30 = .ok (.ireturn, 1) := by decide +kernel
theorem dX0_isThirsty_0 : decode cX0_isThirsty 0 = .ok (.aload_n 0, 1) := by decide +kernel
theorem dX0_isThirsty_1 : decode cX0_isThirsty 1 = .ok (.getfield 13, 3) := by decide +kernel
theorem dX0_isThirsty_4 : decode cX0_isThirsty 4 = .ok (.iload_n 1, 1) := by decide +kernel
theorem dX0_isThirsty_5 : decode cX0_isThirsty 5 = .ok (.aaload, 1) := by decide +kernel
theorem dX0_isThirsty_6 : decode cX0_isThirsty 6 = .ok (.iconst 5, 1) := by decide +kernel
theorem dX0_isThirsty_7 : decode cX0_isThirsty 7 = .ok (.iaload, 1) := by decide +kernel
theorem dX0_isThirsty_8 : decode cX0_isThirsty 8 = .ok (.aload_n 0, 1) := by decide +kernel
theorem dX0_isThirsty_9 : decode cX0_isThirsty 9 = .ok (.getfield 13, 3) := by decide +kernel
theorem dX0_isThirsty_12 : decode cX0_isThirsty 12 = .ok (.iload_n 1, 1) := by decide +kernel
theorem dX0_isThirsty_13 : decode cX0_isThirsty 13 = .ok (.aaload, 1) := by decide +kernel
theorem dX0_isThirsty_14 : decode cX0_isThirsty 14 = .ok (.iconst 2, 1) := by decide +kernel
theorem dX0_isThirsty_15 : decode cX0_isThirsty 15 = .ok (.iaload, 1) := by decide +kernel
theorem dX0_isThirsty_16 : decode cX0_isThirsty 16 = .ok (.if_icmp .ge 7, 3) := by decide +kernel
theorem dX0_isThirsty_19 : decode cX0_isThirsty 19 = .ok (.iconst 1, 1) := by decide +kernel
theorem dX0_isThirsty_20 : decode cX0_isThirsty 20 = .ok (.goto 4, 3) := by decide +kernel
theorem dX0_isThirsty_23 : decode cX0_isThirsty 23 = .ok (.iconst 0, 1) := by decide +kernel
theorem dX0_isThirsty_24 : decode cX0_isThirsty 24 = .ok (.ireturn, 1) := by decide +kernel
set_option maxRecDepth 20000 in
theorem ggX0_thirstyTanks_X0_isThirsty : GoodIn wsX0_thirstyTanks wsX0_isThirsty := goodIn_r _ [6, 7, 8, 9, 10, 11, 12] (by decide +kernel) (by decide +kernel)
set_option maxRecDepth 20000 in
theorem gX0_thirstyTanks_X0_isThirsty : GoodIn wsX0_thirstyTanks (wsV RX0 49 RX0 yX0_isThirsty wsX0_isThirsty) := goodIn_app (goodIn_of _ (by decide +kernel)) ggX0_thirstyTanks_X0_isThirsty
theorem dX0_thirstyTanks_0 : decode cX0_thirstyTanks 0 = .ok (.iconst 0, 1) := by decide +kernel
theorem dX0_thirstyTanks_1 : decode cX0_thirstyTanks 1 = .ok (.istore_n 1, 1) := by decide +kernel
theorem dX0_thirstyTanks_2 : decode cX0_thirstyTanks 2 = .ok (.iconst 0, 1) := by decide +kernel
theorem dX0_thirstyTanks_3 : decode cX0_thirstyTanks 3 = .ok (.istore_n 2, 1) := by decide +kernel
theorem dX0_thirstyTanks_4 : decode cX0_thirstyTanks 4 = .ok (.iload_n 2, 1) := by decide +kernel
theorem dX0_thirstyTanks_5 : decode cX0_thirstyTanks 5 = .ok (.aload_n 0, 1) := by decide +kernel
theorem dX0_thirstyTanks_6 : decode cX0_thirstyTanks 6 = .ok (.getfield 19, 3) := by decide +kernel
theorem dX0_thirstyTanks_9 : decode cX0_thirstyTanks 9 = .ok (.if_icmp .ge 20, 3) := by decide +kernel
theorem dX0_thirstyTanks_12 : decode cX0_thirstyTanks 12 = .ok (.aload_n 0, 1) := by decide +kernel
theorem dX0_thirstyTanks_13 : decode cX0_thirstyTanks 13 = .ok (.iload_n 2, 1) := by decide +kernel
theorem dX0_thirstyTanks_14 : decode cX0_thirstyTanks 14 = .ok (.invokevirtual 49, 3) := by decide +kernel
theorem dX0_thirstyTanks_17 : decode cX0_thirstyTanks 17 = .ok (.ifCond .eq 6, 3) := by decide +kernel
theorem dX0_thirstyTanks_20 : decode cX0_thirstyTanks 20 = .ok (.iinc 1 1, 3) := by decide +kernel
theorem dX0_thirstyTanks_23 : decode cX0_thirstyTanks 23 = .ok (.iinc 2 1, 3) := by decide +kernel
theorem dX0_thirstyTanks_26 : decode cX0_thirstyTanks 26 = .ok (.goto (-22), 3) := by decide +kernel
theorem dX0_thirstyTanks_29 : decode cX0_thirstyTanks 29 = .ok (.iload_n 1, 1) := by decide +kernel
theorem dX0_thirstyTanks_30 : decode cX0_thirstyTanks 30 = .ok (.ireturn, 1) := by decide +kernel
theorem dX0_reachedFrom_0 : decode cX0_reachedFrom 0 = .ok (.iconst 0, 1) := by decide +kernel
theorem dX0_reachedFrom_1 : decode cX0_reachedFrom 1 = .ok (.istore_n 2, 1) := by decide +kernel
theorem dX0_reachedFrom_2 : decode cX0_reachedFrom 2 = .ok (.iconst 0, 1) := by decide +kernel
theorem dX0_reachedFrom_3 : decode cX0_reachedFrom 3 = .ok (.istore_n 3, 1) := by decide +kernel
theorem dX0_reachedFrom_4 : decode cX0_reachedFrom 4 = .ok (.iload_n 3, 1) := by decide +kernel
theorem dX0_reachedFrom_5 : decode cX0_reachedFrom 5 = .ok (.aload_n 0, 1) := by decide +kernel
theorem dX0_reachedFrom_6 : decode cX0_reachedFrom 6 = .ok (.getfield 19, 3) := by decide +kernel
theorem dX0_reachedFrom_9 : decode cX0_reachedFrom 9 = .ok (.if_icmp .ge 67, 3) := by decide +kernel
theorem dX0_reachedFrom_12 : decode cX0_reachedFrom 12 = .ok (.iconst 0, 1) := by decide +kernel
theorem dX0_reachedFrom_13 : decode cX0_reachedFrom 13 = .ok (.istore 4, 2) := by decide +kernel
theorem dX0_reachedFrom_15 : decode cX0_reachedFrom 15 = .ok (.iload 4, 2) := by decide +kernel
theorem dX0_reachedFrom_17 : decode cX0_reachedFrom 17 = .ok (.aload_n 0, 1) := by decide +kernel
theorem dX0_reachedFrom_18 : decode cX0_reachedFrom 18 = .ok (.getfield 23, 3) := by decide +kernel
theorem dX0_reachedFrom_21 : decode cX0_reachedFrom 21 = .ok (.if_icmp .ge 49, 3) := by decide +kernel
theorem dX0_reachedFrom_24 : decode cX0_reachedFrom 24 = .ok (.aload_n 0, 1) := by decide +kernel
theorem dX0_reachedFrom_25 : decode cX0_reachedFrom 25 = .ok (.getfield 16, 3) := by decide +kernel
theorem dX0_reachedFrom_28 : decode cX0_reachedFrom 28 = .ok (.iload 4, 2) := by decide +kernel
theorem dX0_reachedFrom_30 : decode cX0_reachedFrom 30 = .ok (.aaload, 1) := by decide +kernel
theorem dX0_reachedFrom_31 : decode cX0_reachedFrom 31 = .ok (.iconst 0, 1) := by decide +kernel
theorem dX0_reachedFrom_32 : decode cX0_reachedFrom 32 = .ok (.iaload, 1) := by decide +kernel
theorem dX0_reachedFrom_33 : decode cX0_reachedFrom 33 = .ok (.istore 5, 2) := by decide +kernel
theorem dX0_reachedFrom_35 : decode cX0_reachedFrom 35 = .ok (.iload 5, 2) := by decide +kernel
theorem dX0_reachedFrom_37 : decode cX0_reachedFrom 37 = .ok (.iload_n 1, 1) := by decide +kernel
theorem dX0_reachedFrom_38 : decode cX0_reachedFrom 38 = .ok (.if_icmp .eq 12, 3) := by decide +kernel
theorem dX0_reachedFrom_41 : decode cX0_reachedFrom 41 = .ok (.iload_n 2, 1) := by decide +kernel
theorem dX0_reachedFrom_42 : decode cX0_reachedFrom 42 = .ok (.iconst 1, 1) := by decide +kernel
theorem dX0_reachedFrom_43 : decode cX0_reachedFrom 43 = .ok (.iload 5, 2) := by decide +kernel
theorem dX0_reachedFrom_45 : decode cX0_reachedFrom 45 = .ok (.ishl, 1) := by decide +kernel
theorem dX0_reachedFrom_46 : decode cX0_reachedFrom 46 = .ok (.iand, 1) := by decide +kernel
theorem dX0_reachedFrom_47 : decode cX0_reachedFrom 47 = .ok (.ifCond .eq 17, 3) := by decide +kernel
theorem dX0_reachedFrom_50 : decode cX0_reachedFrom 50 = .ok (.iload_n 2, 1) := by decide +kernel
theorem dX0_reachedFrom_51 : decode cX0_reachedFrom 51 = .ok (.iconst 1, 1) := by decide +kernel
theorem dX0_reachedFrom_52 : decode cX0_reachedFrom 52 = .ok (.aload_n 0, 1) := by decide +kernel
theorem dX0_reachedFrom_53 : decode cX0_reachedFrom 53 = .ok (.getfield 16, 3) := by decide +kernel
theorem dX0_reachedFrom_56 : decode cX0_reachedFrom 56 = .ok (.iload 4, 2) := by decide +kernel
theorem dX0_reachedFrom_58 : decode cX0_reachedFrom 58 = .ok (.aaload, 1) := by decide +kernel
theorem dX0_reachedFrom_59 : decode cX0_reachedFrom 59 = .ok (.iconst 1, 1) := by decide +kernel
theorem dX0_reachedFrom_60 : decode cX0_reachedFrom 60 = .ok (.iaload, 1) := by decide +kernel
theorem dX0_reachedFrom_61 : decode cX0_reachedFrom 61 = .ok (.ishl, 1) := by decide +kernel
theorem dX0_reachedFrom_62 : decode cX0_reachedFrom 62 = .ok (.ior, 1) := by decide +kernel
theorem dX0_reachedFrom_63 : decode cX0_reachedFrom 63 = .ok (.istore_n 2, 1) := by decide +kernel
theorem dX0_reachedFrom_64 : decode cX0_reachedFrom 64 = .ok (.iinc 4 1, 3) := by decide +kernel
theorem dX0_reachedFrom_67 : decode cX0_reachedFrom 67 = .ok (.goto (-52), 3) := by decide +kernel
theorem dX0_reachedFrom_70 : decode cX0_reachedFrom 70 = .ok (.iinc 3 1, 3) := by decide +kernel
theorem dX0_reachedFrom_73 : decode cX0_reachedFrom 73 = .ok (.goto (-69), 3) := by decide +kernel
theorem dX0_reachedFrom_76 : decode cX0_reachedFrom 76 = .ok (.iload_n 2, 1) := by decide +kernel
theorem dX0_reachedFrom_77 : decode cX0_reachedFrom 77 = .ok (.ireturn, 1) := by decide +kernel
set_option maxRecDepth 20000 in
theorem ggX0_whatCanFlow_X0_head : GoodIn wsX0_whatCanFlow wsX0_head := goodIn_r _ [13] (by decide +kernel) (by decide +kernel)
set_option maxRecDepth 20000 in
theorem gX0_whatCanFlow_X0_head : GoodIn wsX0_whatCanFlow (va_wsS RX0 53 yX0_head wsX0_head) := goodIn_app (goodIn_of _ (by decide +kernel)) ggX0_whatCanFlow_X0_head
theorem dX0_whatCanFlow_0 : decode cX0_whatCanFlow 0 = .ok (.aload_n 0, 1) := by decide +kernel
theorem dX0_whatCanFlow_1 : decode cX0_whatCanFlow 1 = .ok (.getfield 16, 3) := by decide +kernel
theorem dX0_whatCanFlow_4 : decode cX0_whatCanFlow 4 = .ok (.iload_n 1, 1) := by decide +kernel
theorem dX0_whatCanFlow_5 : decode cX0_whatCanFlow 5 = .ok (.aaload, 1) := by decide +kernel
theorem dX0_whatCanFlow_6 : decode cX0_whatCanFlow 6 = .ok (.astore_n 2, 1) := by decide +kernel
theorem dX0_whatCanFlow_7 : decode cX0_whatCanFlow 7 = .ok (.aload_n 0, 1) := by decide +kernel
theorem dX0_whatCanFlow_8 : decode cX0_whatCanFlow 8 = .ok (.getfield 13, 3) := by decide +kernel
theorem dX0_whatCanFlow_11 : decode cX0_whatCanFlow 11 = .ok (.aload_n 2, 1) := by decide +kernel
theorem dX0_whatCanFlow_12 : decode cX0_whatCanFlow 12 = .ok (.iconst 0, 1) := by decide +kernel
theorem dX0_whatCanFlow_13 : decode cX0_whatCanFlow 13 = .ok (.iaload, 1) := by decide +kernel
theorem dX0_whatCanFlow_14 : decode cX0_whatCanFlow 14 = .ok (.aaload, 1) := by decide +kernel
theorem dX0_whatCanFlow_15 : decode cX0_whatCanFlow 15 = .ok (.astore_n 3, 1) := by decide +kernel
theorem dX0_whatCanFlow_16 : decode cX0_whatCanFlow 16 = .ok (.aload_n 3, 1) := by decide +kernel
theorem dX0_whatCanFlow_17 : decode cX0_whatCanFlow 17 = .ok (.invokestatic 53, 3) := by decide +kernel
theorem dX0_whatCanFlow_20 : decode cX0_whatCanFlow 20 = .ok (.aload_n 0, 1) := by decide +kernel
theorem dX0_whatCanFlow_21 : decode cX0_whatCanFlow 21 = .ok (.getfield 13, 3) := by decide +kernel
theorem dX0_whatCanFlow_24 : decode cX0_whatCanFlow 24 = .ok (.aload_n 2, 1) := by decide +kernel
theorem dX0_whatCanFlow_25 : decode cX0_whatCanFlow 25 = .ok (.iconst 1, 1) := by decide +kernel
theorem dX0_whatCanFlow_26 : decode cX0_whatCanFlow 26 = .ok (.iaload, 1) := by decide +kernel
theorem dX0_whatCanFlow_27 : decode cX0_whatCanFlow 27 = .ok (.aaload, 1) := by decide +kernel
theorem dX0_whatCanFlow_28 : decode cX0_whatCanFlow 28 = .ok (.invokestatic 53, 3) := by decide +kernel
theorem dX0_whatCanFlow_31 : decode cX0_whatCanFlow 31 = .ok (.isub, 1) := by decide +kernel
theorem dX0_whatCanFlow_32 : decode cX0_whatCanFlow 32 = .ok (.istore 4, 2) := by decide +kernel
theorem dX0_whatCanFlow_34 : decode cX0_whatCanFlow 34 = .ok (.iload 4, 2) := by decide +kernel
theorem dX0_whatCanFlow_36 : decode cX0_whatCanFlow 36 = .ok (.ifCond .le 11, 3) := by decide +kernel
theorem dX0_whatCanFlow_39 : decode cX0_whatCanFlow 39 = .ok (.iload 4, 2) := by decide +kernel
theorem dX0_whatCanFlow_41 : decode cX0_whatCanFlow 41 = .ok (.aload_n 2, 1) := by decide +kernel
theorem dX0_whatCanFlow_42 : decode cX0_whatCanFlow 42 = .ok (.iconst 3, 1) := by decide +kernel
theorem dX0_whatCanFlow_43 : decode cX0_whatCanFlow 43 = .ok (.iaload, 1) := by decide +kernel
theorem dX0_whatCanFlow_44 : decode cX0_whatCanFlow 44 = .ok (.if_icmp .ge 5, 3) := by decide +kernel
theorem dX0_whatCanFlow_47 : decode cX0_whatCanFlow 47 = .ok (.iconst 0, 1) := by decide +kernel
theorem dX0_whatCanFlow_48 : decode cX0_whatCanFlow 48 = .ok (.ireturn, 1) := by decide +kernel
theorem dX0_whatCanFlow_49 : decode cX0_whatCanFlow 49 = .ok (.iconst 0, 1) := by decide +kernel
theorem dX0_whatCanFlow_50 : decode cX0_whatCanFlow 50 = .ok (.aload_n 2, 1) := by decide +kernel
theorem dX0_whatCanFlow_51 : decode cX0_whatCanFlow 51 = .ok (.iconst 2, 1) := by decide +kernel
theorem dX0_whatCanFlow_52 : decode cX0_whatCanFlow 52 = .ok (.iaload, 1) := by decide +kernel
theorem dX0_whatCanFlow_53 : decode cX0_whatCanFlow 53 = .ok (.aload_n 2, 1) := by decide +kernel
theorem dX0_whatCanFlow_54 : decode cX0_whatCanFlow 54 = .ok (.iconst 4, 1) := by decide +kernel
theorem dX0_whatCanFlow_55 : decode cX0_whatCanFlow 55 = .ok (.iaload, 1) := by decide +kernel
theorem dX0_whatCanFlow_56 : decode cX0_whatCanFlow 56 = .ok (.isub, 1) := by decide +kernel
theorem dX0_whatCanFlow_57 : decode cX0_whatCanFlow 57 = .ok (.invokestatic 57, 3) := by decide +kernel
theorem dX0_whatCanFlow_60 : decode cX0_whatCanFlow 60 = .ok (.istore 5, 2) := by decide +kernel
theorem dX0_whatCanFlow_62 : decode cX0_whatCanFlow 62 = .ok (.iload 4, 2) := by decide +kernel
theorem dX0_whatCanFlow_64 : decode cX0_whatCanFlow 64 = .ok (.bipush 10, 2) := by decide +kernel
theorem dX0_whatCanFlow_66 : decode cX0_whatCanFlow 66 = .ok (.idiv, 1) := by decide +kernel
theorem dX0_whatCanFlow_67 : decode cX0_whatCanFlow 67 = .ok (.iconst 1, 1) := by decide +kernel
theorem dX0_whatCanFlow_68 : decode cX0_whatCanFlow 68 = .ok (.iadd, 1) := by decide +kernel
theorem dX0_whatCanFlow_69 : decode cX0_whatCanFlow 69 = .ok (.istore 6, 2) := by decide +kernel
theorem dX0_whatCanFlow_71 : decode cX0_whatCanFlow 71 = .ok (.iload 5, 2) := by decide +kernel
theorem dX0_whatCanFlow_73 : decode cX0_whatCanFlow 73 = .ok (.iload 6, 2) := by decide +kernel
theorem dX0_whatCanFlow_75 : decode cX0_whatCanFlow 75 = .ok (.invokestatic 63, 3) := by decide +kernel
theorem dX0_whatCanFlow_78 : decode cX0_whatCanFlow 78 = .ok (.aload_n 3, 1) := by decide +kernel
theorem dX0_whatCanFlow_79 : decode cX0_whatCanFlow 79 = .ok (.iconst 3, 1) := by decide +kernel
theorem dX0_whatCanFlow_80 : decode cX0_whatCanFlow 80 = .ok (.iaload, 1) := by decide +kernel
theorem dX0_whatCanFlow_81 : decode cX0_whatCanFlow 81 = .ok (.invokestatic 63, 3) := by decide +kernel
theorem dX0_whatCanFlow_84 : decode cX0_whatCanFlow 84 = .ok (.ireturn, 1) := by decide +kernel
theorem dX0_head_0 : decode cX0_head 0 = .ok (.bipush 10, 2) := by decide +kernel
theorem dX0_head_2 : decode cX0_head 2 = .ok (.aload_n 0, 1) := by decide +kernel
theorem dX0_head_3 : decode cX0_head 3 = .ok (.iconst 0, 1) := by decide +kernel
theorem dX0_head_4 : decode cX0_head 4 = .ok (.iaload, 1) := by decide +kernel
theorem dX0_head_5 : decode cX0_head 5 = .ok (.imul, 1) := by decide +kernel
theorem dX0_head_6 : decode cX0_head 6 = .ok (.aload_n 0, 1) := by decide +kernel
theorem dX0_head_7 : decode cX0_head 7 = .ok (.iconst 3, 1) := by decide +kernel
theorem dX0_head_8 : decode cX0_head 8 = .ok (.iaload, 1) := by decide +kernel
theorem dX0_head_9 : decode cX0_head 9 = .ok (.iadd, 1) := by decide +kernel
theorem dX0_head_10 : decode cX0_head 10 = .ok (.ireturn, 1) := by decide +kernel
set_option maxRecDepth 20000 in
theorem ggX0_drunkIn_X0_sumOfTanks : GoodIn wsX0_drunkIn wsX0_sumOfTanks := goodIn_r _ [5, 6, 7, 52, 53, 54, 55, 56] (by decide +kernel) (by decide +kernel)
set_option maxRecDepth 20000 in
theorem gX0_drunkIn_X0_sumOfTanks : GoodIn wsX0_drunkIn (wsV RX0 39 RX0 yX0_sumOfTanks wsX0_sumOfTanks) := goodIn_app (goodIn_of _ (by decide +kernel)) ggX0_drunkIn_X0_sumOfTanks
set_option maxRecDepth 20000 in
theorem ggX0_drunkIn_X0_goThroughDay : GoodIn wsX0_drunkIn wsX0_goThroughDay := goodIn_r _ [11, 6, 7, 12, 13, 14, 15, 4, 16, 17, 18, 19, 20, 21, 22, 23, 24, 25, 26, 27, 28, 29, 30, 31, 32, 33, 34, 35, 36, 37, 38, 39, 40, 41, 42, 43, 44, 45, 46, 47, 48, 49, 50, 51, 52, 53, 54, 55, 56] (by decide +kernel) (by decide +kernel)
set_option maxRecDepth 20000 in
theorem gX0_drunkIn_X0_goThroughDay : GoodIn wsX0_drunkIn (wsV RX0 66 RX0 yX0_goThroughDay wsX0_goThroughDay) := goodIn_app (goodIn_of _ (by decide +kernel)) ggX0_drunkIn_X0_goThroughDay
theorem dX0_drunkIn_0 : decode cX0_drunkIn 0 = .ok (.aload_n 0, 1) := by decide +kernel
theorem dX0_drunkIn_1 : decode cX0_drunkIn 1 = .ok (.bipush 6, 2) := by decide +kernel
theorem dX0_drunkIn_3 : decode cX0_drunkIn 3 = .ok (.invokevirtual 39, 3) := by decide +kernel
theorem dX0_drunkIn_6 : decode cX0_drunkIn 6 = .ok (.istore_n 2, 1) := by decide +kernel
theorem dX0_drunkIn_7 : decode cX0_drunkIn 7 = .ok (.iconst 0, 1) := by decide +kernel
theorem dX0_drunkIn_8 : decode cX0_drunkIn 8 = .ok (.istore_n 3, 1) := by decide +kernel
theorem dX0_drunkIn_9 : decode cX0_drunkIn 9 = .ok (.iload_n 3, 1) := by decide +kernel
theorem dX0_drunkIn_10 : decode cX0_drunkIn 10 = .ok (.iload_n 1, 1) := by decide +kernel
theorem dX0_drunkIn_11 : decode cX0_drunkIn 11 = .ok (.if_icmp .ge 13, 3) := by decide +kernel
theorem dX0_drunkIn_14 : decode cX0_drunkIn 14 = .ok (.aload_n 0, 1) := by decide +kernel
theorem dX0_drunkIn_15 : decode cX0_drunkIn 15 = .ok (.invokevirtual 66, 3) := by decide +kernel
theorem dX0_drunkIn_18 : decode cX0_drunkIn 18 = .ok (.iinc 3 1, 3) := by decide +kernel
theorem dX0_drunkIn_21 : decode cX0_drunkIn 21 = .ok (.goto (-12), 3) := by decide +kernel
theorem dX0_drunkIn_24 : decode cX0_drunkIn 24 = .ok (.aload_n 0, 1) := by decide +kernel
theorem dX0_drunkIn_25 : decode cX0_drunkIn 25 = .ok (.bipush 6, 2) := by decide +kernel
theorem dX0_drunkIn_27 : decode cX0_drunkIn 27 = .ok (.invokevirtual 39, 3) := by decide +kernel
theorem dX0_drunkIn_30 : decode cX0_drunkIn 30 = .ok (.iload_n 2, 1) := by decide +kernel
theorem dX0_drunkIn_31 : decode cX0_drunkIn 31 = .ok (.isub, 1) := by decide +kernel
theorem dX0_drunkIn_32 : decode cX0_drunkIn 32 = .ok (.ireturn, 1) := by decide +kernel
set_option maxRecDepth 20000 in
theorem ggX0_goThroughDay_X0_feed : GoodIn wsX0_goThroughDay wsX0_feed := goodIn_r _ [8, 9, 10, 7, 11, 12, 13, 14, 15, 16, 17, 18, 19, 20, 21] (by decide +kernel) (by decide +kernel)
set_option maxRecDepth 20000 in
theorem gX0_goThroughDay_X0_feed : GoodIn wsX0_goThroughDay (va_wsS RX0 69 yX0_feed wsX0_feed) := goodIn_app (goodIn_of _ (by decide +kernel)) ggX0_goThroughDay_X0_feed
set_option maxRecDepth 20000 in
theorem ggX0_goThroughDay_X0_flowThrough : GoodIn wsX0_goThroughDay wsX0_flowThrough := goodIn_r _ [25, 26, 2, 19, 20, 14, 21, 27, 28, 29, 7, 30, 12, 13, 15, 31, 32, 33, 34, 35, 36, 16, 17, 18, 9, 10, 11, 44, 45, 46, 47, 48] (by decide +kernel) (by decide +kernel)
set_option maxRecDepth 20000 in
theorem gX0_goThroughDay_X0_flowThrough : GoodIn wsX0_goThroughDay (wsV RX0 73 RX0 yX0_flowThrough wsX0_flowThrough) := goodIn_app (goodIn_of _ (by decide +kernel)) ggX0_goThroughDay_X0_flowThrough
set_option maxRecDepth 20000 in
theorem ggX0_goThroughDay_X0_growCrusts : GoodIn wsX0_goThroughDay wsX0_growCrusts := goodIn_r _ [40, 3, 26, 19, 20, 14, 21, 44, 45, 46, 47, 48] (by decide +kernel) (by decide +kernel)
set_option maxRecDepth 20000 in
theorem gX0_goThroughDay_X0_growCrusts : GoodIn wsX0_goThroughDay (wsV RX0 77 RX0 yX0_growCrusts wsX0_growCrusts) := goodIn_app (goodIn_of _ (by decide +kernel)) ggX0_goThroughDay_X0_growCrusts
set_option maxRecDepth 20000 in
theorem ggX0_goThroughDay_X0_drinkFrom : GoodIn wsX0_goThroughDay wsX0_drinkFrom := goodIn_r _ [43, 19, 20, 14, 21] (by decide +kernel) (by decide +kernel)
set_option maxRecDepth 20000 in
theorem gX0_goThroughDay_X0_drinkFrom : GoodIn wsX0_goThroughDay (va_wsS RX0 80 yX0_drinkFrom wsX0_drinkFrom) := goodIn_app (goodIn_of _ (by decide +kernel)) ggX0_goThroughDay_X0_drinkFrom
theorem dX0_goThroughDay_0 : decode cX0_goThroughDay 0 = .ok (.iconst 0, 1) := by decide +kernel
theorem dX0_goThroughDay_1 : decode cX0_goThroughDay 1 = .ok (.istore_n 1, 1) := by decide +kernel
theorem dX0_goThroughDay_2 : decode cX0_goThroughDay 2 = .ok (.iload_n 1, 1) := by decide +kernel
theorem dX0_goThroughDay_3 : decode cX0_goThroughDay 3 = .ok (.aload_n 0, 1) := by decide +kernel
theorem dX0_goThroughDay_4 : decode cX0_goThroughDay 4 = .ok (.getfield 19, 3) := by decide +kernel
theorem dX0_goThroughDay_7 : decode cX0_goThroughDay 7 = .ok (.if_icmp .ge 18, 3) := by decide +kernel
theorem dX0_goThroughDay_10 : decode cX0_goThroughDay 10 = .ok (.aload_n 0, 1) := by decide +kernel
theorem dX0_goThroughDay_11 : decode cX0_goThroughDay 11 = .ok (.getfield 13, 3) := by decide +kernel
theorem dX0_goThroughDay_14 : decode cX0_goThroughDay 14 = .ok (.iload_n 1, 1) := by decide +kernel
theorem dX0_goThroughDay_15 : decode cX0_goThroughDay 15 = .ok (.aaload, 1) := by decide +kernel
theorem dX0_goThroughDay_16 : decode cX0_goThroughDay 16 = .ok (.invokestatic 69, 3) := by decide +kernel
theorem dX0_goThroughDay_19 : decode cX0_goThroughDay 19 = .ok (.iinc 1 1, 3) := by decide +kernel
theorem dX0_goThroughDay_22 : decode cX0_goThroughDay 22 = .ok (.goto (-20), 3) := by decide +kernel
theorem dX0_goThroughDay_25 : decode cX0_goThroughDay 25 = .ok (.iconst 0, 1) := by decide +kernel
theorem dX0_goThroughDay_26 : decode cX0_goThroughDay 26 = .ok (.istore_n 1, 1) := by decide +kernel
theorem dX0_goThroughDay_27 : decode cX0_goThroughDay 27 = .ok (.iload_n 1, 1) := by decide +kernel
theorem dX0_goThroughDay_28 : decode cX0_goThroughDay 28 = .ok (.aload_n 0, 1) := by decide +kernel
theorem dX0_goThroughDay_29 : decode cX0_goThroughDay 29 = .ok (.getfield 23, 3) := by decide +kernel
theorem dX0_goThroughDay_32 : decode cX0_goThroughDay 32 = .ok (.if_icmp .ge 14, 3) := by decide +kernel
theorem dX0_goThroughDay_35 : decode cX0_goThroughDay 35 = .ok (.aload_n 0, 1) := by decide +kernel
theorem dX0_goThroughDay_36 : decode cX0_goThroughDay 36 = .ok (.iload_n 1, 1) := by decide +kernel
theorem dX0_goThroughDay_37 : decode cX0_goThroughDay 37 = .ok (.invokevirtual 73, 3) := by decide +kernel
theorem dX0_goThroughDay_40 : decode cX0_goThroughDay 40 = .ok (.iinc 1 1, 3) := by decide +kernel
theorem dX0_goThroughDay_43 : decode cX0_goThroughDay 43 = .ok (.goto (-16), 3) := by decide +kernel
theorem dX0_goThroughDay_46 : decode cX0_goThroughDay 46 = .ok (.aload_n 0, 1) := by decide +kernel
theorem dX0_goThroughDay_47 : decode cX0_goThroughDay 47 = .ok (.getfield 26, 3) := by decide +kernel
theorem dX0_goThroughDay_50 : decode cX0_goThroughDay 50 = .ok (.iconst 4, 1) := by decide +kernel
theorem dX0_goThroughDay_51 : decode cX0_goThroughDay 51 = .ok (.irem, 1) := by decide +kernel
theorem dX0_goThroughDay_52 : decode cX0_goThroughDay 52 = .ok (.ifCond .ne 7, 3) := by decide +kernel
theorem dX0_goThroughDay_55 : decode cX0_goThroughDay 55 = .ok (.aload_n 0, 1) := by decide +kernel
theorem dX0_goThroughDay_56 : decode cX0_goThroughDay 56 = .ok (.invokevirtual 77, 3) := by decide +kernel
theorem dX0_goThroughDay_59 : decode cX0_goThroughDay 59 = .ok (.iconst 0, 1) := by decide +kernel
theorem dX0_goThroughDay_60 : decode cX0_goThroughDay 60 = .ok (.istore_n 1, 1) := by decide +kernel
theorem dX0_goThroughDay_61 : decode cX0_goThroughDay 61 = .ok (.iload_n 1, 1) := by decide +kernel
theorem dX0_goThroughDay_62 : decode cX0_goThroughDay 62 = .ok (.aload_n 0, 1) := by decide +kernel
theorem dX0_goThroughDay_63 : decode cX0_goThroughDay 63 = .ok (.getfield 19, 3) := by decide +kernel
theorem dX0_goThroughDay_66 : decode cX0_goThroughDay 66 = .ok (.if_icmp .ge 18, 3) := by decide +kernel
theorem dX0_goThroughDay_69 : decode cX0_goThroughDay 69 = .ok (.aload_n 0, 1) := by decide +kernel
theorem dX0_goThroughDay_70 : decode cX0_goThroughDay 70 = .ok (.getfield 13, 3) := by decide +kernel
theorem dX0_goThroughDay_73 : decode cX0_goThroughDay 73 = .ok (.iload_n 1, 1) := by decide +kernel
theorem dX0_goThroughDay_74 : decode cX0_goThroughDay 74 = .ok (.aaload, 1) := by decide +kernel
theorem dX0_goThroughDay_75 : decode cX0_goThroughDay 75 = .ok (.invokestatic 80, 3) := by decide +kernel
theorem dX0_goThroughDay_78 : decode cX0_goThroughDay 78 = .ok (.iinc 1 1, 3) := by decide +kernel
theorem dX0_goThroughDay_81 : decode cX0_goThroughDay 81 = .ok (.goto (-20), 3) := by decide +kernel
theorem dX0_goThroughDay_84 : decode cX0_goThroughDay 84 = .ok (.aload_n 0, 1) := by decide +kernel
theorem dX0_goThroughDay_85 : decode cX0_goThroughDay 85 = .ok (.dup, 1) := by decide +kernel
theorem dX0_goThroughDay_86 : decode cX0_goThroughDay 86 = .ok (.getfield 26, 3) := by decide +kernel
theorem dX0_goThroughDay_89 : decode cX0_goThroughDay 89 = .ok (.iconst 1, 1) := by decide +kernel
theorem dX0_goThroughDay_90 : decode cX0_goThroughDay 90 = .ok (.iadd, 1) := by decide +kernel
theorem dX0_goThroughDay_91 : decode cX0_goThroughDay 91 = .ok (.putfield 26, 3) := by decide +kernel
theorem dX0_goThroughDay_94 : decode cX0_goThroughDay 94 = .ok (.return_, 1) := by decide +kernel
set_option maxRecDepth 20000 in
theorem ggX0_feed_X0_takeInWater : GoodIn wsX0_feed wsX0_takeInWater := goodIn_r _ [4, 5, 6, 7, 8] (by decide +kernel) (by decide +kernel)
set_option maxRecDepth 20000 in
theorem gX0_feed_X0_takeInWater : GoodIn wsX0_feed (va_wsS RX0 83 yX0_takeInWater wsX0_takeInWater) := goodIn_app (goodIn_of _ (by decide +kernel)) ggX0_feed_X0_takeInWater
set_option maxRecDepth 20000 in
theorem ggX0_feed_X0_takeInMud : GoodIn wsX0_feed wsX0_takeInMud := goodIn_r _ [11, 12, 13, 7, 14] (by decide +kernel) (by decide +kernel)
set_option maxRecDepth 20000 in
theorem gX0_feed_X0_takeInMud : GoodIn wsX0_feed (va_wsS RX0 87 yX0_takeInMud wsX0_takeInMud) := goodIn_app (goodIn_of _ (by decide +kernel)) ggX0_feed_X0_takeInMud
theorem dX0_feed_0 : decode cX0_feed 0 = .ok (.aload_n 0, 1) := by decide +kernel
theorem dX0_feed_1 : decode cX0_feed 1 = .ok (.aload_n 0, 1) := by decide +kernel
theorem dX0_feed_2 : decode cX0_feed 2 = .ok (.iconst 1, 1) := by decide +kernel
theorem dX0_feed_3 : decode cX0_feed 3 = .ok (.iaload, 1) := by decide +kernel
theorem dX0_feed_4 : decode cX0_feed 4 = .ok (.invokestatic 83, 3) := by decide +kernel
theorem dX0_feed_7 : decode cX0_feed 7 = .ok (.aload_n 0, 1) := by decide +kernel
theorem dX0_feed_8 : decode cX0_feed 8 = .ok (.aload_n 0, 1) := by decide +kernel
theorem dX0_feed_9 : decode cX0_feed 9 = .ok (.iconst 1, 1) := by decide +kernel
theorem dX0_feed_10 : decode cX0_feed 10 = .ok (.iaload, 1) := by decide +kernel
theorem dX0_feed_11 : decode cX0_feed 11 = .ok (.iconst 4, 1) := by decide +kernel
theorem dX0_feed_12 : decode cX0_feed 12 = .ok (.idiv, 1) := by decide +kernel
theorem dX0_feed_13 : decode cX0_feed 13 = .ok (.invokestatic 87, 3) := by decide +kernel
theorem dX0_feed_16 : decode cX0_feed 16 = .ok (.return_, 1) := by decide +kernel
set_option maxRecDepth 20000 in
theorem ggX0_flowThrough_X0_whatCanFlow : GoodIn wsX0_flowThrough wsX0_whatCanFlow := goodIn_r _ [11, 1, 2, 12, 13, 5, 14, 3, 4, 6, 15, 16, 10, 17, 27, 28, 29, 30, 31] (by decide +kernel) (by decide +kernel)
set_option maxRecDepth 20000 in
theorem gX0_flowThrough_X0_whatCanFlow : GoodIn wsX0_flowThrough (wsV RX0 35 RX0 yX0_whatCanFlow wsX0_whatCanFlow) := goodIn_app (goodIn_of _ (by decide +kernel)) ggX0_flowThrough_X0_whatCanFlow
set_option maxRecDepth 20000 in
theorem ggX0_flowThrough_X0_wanderMud : GoodIn wsX0_flowThrough wsX0_wanderMud := goodIn_r _ [20, 21, 22, 10, 23, 3, 4, 5, 6] (by decide +kernel) (by decide +kernel)
set_option maxRecDepth 20000 in
theorem gX0_flowThrough_X0_wanderMud : GoodIn wsX0_flowThrough (va_wsS RX0 90 yX0_wanderMud wsX0_wanderMud) := goodIn_app (goodIn_of _ (by decide +kernel)) ggX0_flowThrough_X0_wanderMud
set_option maxRecDepth 20000 in
theorem ggX0_flowThrough_X0_takeInWater : GoodIn wsX0_flowThrough wsX0_takeInWater := goodIn_r _ [26, 12, 13, 5, 14] (by decide +kernel) (by decide +kernel)
set_option maxRecDepth 20000 in
theorem gX0_flowThrough_X0_takeInWater : GoodIn wsX0_flowThrough (va_wsS RX0 83 yX0_takeInWater wsX0_takeInWater) := goodIn_app (goodIn_of _ (by decide +kernel)) ggX0_flowThrough_X0_takeInWater
theorem dX0_flowThrough_0 : decode cX0_flowThrough 0 = .ok (.aload_n 0, 1) := by decide +kernel
theorem dX0_flowThrough_1 : decode cX0_flowThrough 1 = .ok (.getfield 16, 3) := by decide +kernel
theorem dX0_flowThrough_4 : decode cX0_flowThrough 4 = .ok (.iload_n 1, 1) := by decide +kernel
theorem dX0_flowThrough_5 : decode cX0_flowThrough 5 = .ok (.aaload, 1) := by decide +kernel
theorem dX0_flowThrough_6 : decode cX0_flowThrough 6 = .ok (.astore_n 2, 1) := by decide +kernel
theorem dX0_flowThrough_7 : decode cX0_flowThrough 7 = .ok (.aload_n 0, 1) := by decide +kernel
theorem dX0_flowThrough_8 : decode cX0_flowThrough 8 = .ok (.getfield 13, 3) := by decide +kernel
theorem dX0_flowThrough_11 : decode cX0_flowThrough 11 = .ok (.aload_n 2, 1) := by decide +kernel
theorem dX0_flowThrough_12 : decode cX0_flowThrough 12 = .ok (.iconst 0, 1) := by decide +kernel
theorem dX0_flowThrough_13 : decode cX0_flowThrough 13 = .ok (.iaload, 1) := by decide +kernel
theorem dX0_flowThrough_14 : decode cX0_flowThrough 14 = .ok (.aaload, 1) := by decide +kernel
theorem dX0_flowThrough_15 : decode cX0_flowThrough 15 = .ok (.astore_n 3, 1) := by decide +kernel
theorem dX0_flowThrough_16 : decode cX0_flowThrough 16 = .ok (.aload_n 0, 1) := by decide +kernel
theorem dX0_flowThrough_17 : decode cX0_flowThrough 17 = .ok (.getfield 13, 3) := by decide +kernel
theorem dX0_flowThrough_20 : decode cX0_flowThrough 20 = .ok (.aload_n 2, 1) := by decide +kernel
theorem dX0_flowThrough_21 : decode cX0_flowThrough 21 = .ok (.iconst 1, 1) := by decide +kernel
theorem dX0_flowThrough_22 : decode cX0_flowThrough 22 = .ok (.iaload, 1) := by decide +kernel
theorem dX0_flowThrough_23 : decode cX0_flowThrough 23 = .ok (.aaload, 1) := by decide +kernel
theorem dX0_flowThrough_24 : decode cX0_flowThrough 24 = .ok (.astore 4, 2) := by decide +kernel
theorem dX0_flowThrough_26 : decode cX0_flowThrough 26 = .ok (.aload_n 0, 1) := by decide +kernel
theorem dX0_flowThrough_27 : decode cX0_flowThrough 27 = .ok (.iload_n 1, 1) := by decide +kernel
theorem dX0_flowThrough_28 : decode cX0_flowThrough 28 = .ok (.invokevirtual 35, 3) := by decide +kernel
theorem dX0_flowThrough_31 : decode cX0_flowThrough 31 = .ok (.istore 5, 2) := by decide +kernel
theorem dX0_flowThrough_33 : decode cX0_flowThrough 33 = .ok (.aload_n 2, 1) := by decide +kernel
theorem dX0_flowThrough_34 : decode cX0_flowThrough 34 = .ok (.bipush 9, 2) := by decide +kernel
theorem dX0_flowThrough_36 : decode cX0_flowThrough 36 = .ok (.iaload, 1) := by decide +kernel
theorem dX0_flowThrough_37 : decode cX0_flowThrough 37 = .ok (.iload 5, 2) := by decide +kernel
theorem dX0_flowThrough_39 : decode cX0_flowThrough 39 = .ok (.invokestatic 63, 3) := by decide +kernel
theorem dX0_flowThrough_42 : decode cX0_flowThrough 42 = .ok (.istore 6, 2) := by decide +kernel
theorem dX0_flowThrough_44 : decode cX0_flowThrough 44 = .ok (.aload_n 3, 1) := by decide +kernel
theorem dX0_flowThrough_45 : decode cX0_flowThrough 45 = .ok (.aload 4, 2) := by decide +kernel
theorem dX0_flowThrough_47 : decode cX0_flowThrough 47 = .ok (.iload 5, 2) := by decide +kernel
theorem dX0_flowThrough_49 : decode cX0_flowThrough 49 = .ok (.invokestatic 90, 3) := by decide +kernel
theorem dX0_flowThrough_52 : decode cX0_flowThrough 52 = .ok (.aload_n 3, 1) := by decide +kernel
theorem dX0_flowThrough_53 : decode cX0_flowThrough 53 = .ok (.iconst 3, 1) := by decide +kernel
theorem dX0_flowThrough_54 : decode cX0_flowThrough 54 = .ok (.dup2, 1) := by decide +kernel
theorem dX0_flowThrough_55 : decode cX0_flowThrough 55 = .ok (.iaload, 1) := by decide +kernel
theorem dX0_flowThrough_56 : decode cX0_flowThrough 56 = .ok (.iload 5, 2) := by decide +kernel
theorem dX0_flowThrough_58 : decode cX0_flowThrough 58 = .ok (.isub, 1) := by decide +kernel
theorem dX0_flowThrough_59 : decode cX0_flowThrough 59 = .ok (.iastore, 1) := by decide +kernel
theorem dX0_flowThrough_60 : decode cX0_flowThrough 60 = .ok (.aload 4, 2) := by decide +kernel
theorem dX0_flowThrough_62 : decode cX0_flowThrough 62 = .ok (.iload 5, 2) := by decide +kernel
theorem dX0_flowThrough_64 : decode cX0_flowThrough 64 = .ok (.iload 6, 2) := by decide +kernel
theorem dX0_flowThrough_66 : decode cX0_flowThrough 66 = .ok (.isub, 1) := by decide +kernel
theorem dX0_flowThrough_67 : decode cX0_flowThrough 67 = .ok (.invokestatic 83, 3) := by decide +kernel
theorem dX0_flowThrough_70 : decode cX0_flowThrough 70 = .ok (.aload_n 2, 1) := by decide +kernel
theorem dX0_flowThrough_71 : decode cX0_flowThrough 71 = .ok (.iconst 5, 1) := by decide +kernel
theorem dX0_flowThrough_72 : decode cX0_flowThrough 72 = .ok (.iload 5, 2) := by decide +kernel
theorem dX0_flowThrough_74 : decode cX0_flowThrough 74 = .ok (.iastore, 1) := by decide +kernel
theorem dX0_flowThrough_75 : decode cX0_flowThrough 75 = .ok (.aload_n 2, 1) := by decide +kernel
theorem dX0_flowThrough_76 : decode cX0_flowThrough 76 = .ok (.bipush 6, 2) := by decide +kernel
theorem dX0_flowThrough_78 : decode cX0_flowThrough 78 = .ok (.iload 6, 2) := by decide +kernel
theorem dX0_flowThrough_80 : decode cX0_flowThrough 80 = .ok (.iastore, 1) := by decide +kernel
theorem dX0_flowThrough_81 : decode cX0_flowThrough 81 = .ok (.aload_n 2, 1) := by decide +kernel
theorem dX0_flowThrough_82 : decode cX0_flowThrough 82 = .ok (.bipush 7, 2) := by decide +kernel
theorem dX0_flowThrough_84 : decode cX0_flowThrough 84 = .ok (.dup2, 1) := by decide +kernel
theorem dX0_flowThrough_85 : decode cX0_flowThrough 85 = .ok (.iaload, 1) := by decide +kernel
theorem dX0_flowThrough_86 : decode cX0_flowThrough 86 = .ok (.iload 6, 2) := by decide +kernel
theorem dX0_flowThrough_88 : decode cX0_flowThrough 88 = .ok (.iadd, 1) := by decide +kernel
theorem dX0_flowThrough_89 : decode cX0_flowThrough 89 = .ok (.iastore, 1) := by decide +kernel
theorem dX0_flowThrough_90 : decode cX0_flowThrough 90 = .ok (.return_, 1) := by decide +kernel
set_option maxRecDepth 20000 in
theorem ggX0_wanderMud_X0_takeInMud : GoodIn wsX0_wanderMud wsX0_takeInMud := goodIn_r _ [4, 5, 6, 7, 8] (by decide +kernel) (by decide +kernel)
set_option maxRecDepth 20000 in
theorem gX0_wanderMud_X0_takeInMud : GoodIn wsX0_wanderMud (va_wsS RX0 87 yX0_takeInMud wsX0_takeInMud) := goodIn_app (goodIn_of _ (by decide +kernel)) ggX0_wanderMud_X0_takeInMud
theorem dX0_wanderMud_0 : decode cX0_wanderMud 0 = .ok (.aload_n 0, 1) := by decide +kernel
theorem dX0_wanderMud_1 : decode cX0_wanderMud 1 = .ok (.iconst 3, 1) := by decide +kernel
theorem dX0_wanderMud_2 : decode cX0_wanderMud 2 = .ok (.iaload, 1) := by decide +kernel
theorem dX0_wanderMud_3 : decode cX0_wanderMud 3 = .ok (.ifCond .gt 4, 3) := by decide +kernel
theorem dX0_wanderMud_6 : decode cX0_wanderMud 6 = .ok (.return_, 1) := by decide +kernel
theorem dX0_wanderMud_7 : decode cX0_wanderMud 7 = .ok (.aload_n 0, 1) := by decide +kernel
theorem dX0_wanderMud_8 : decode cX0_wanderMud 8 = .ok (.iconst 4, 1) := by decide +kernel
theorem dX0_wanderMud_9 : decode cX0_wanderMud 9 = .ok (.iaload, 1) := by decide +kernel
theorem dX0_wanderMud_10 : decode cX0_wanderMud 10 = .ok (.iload_n 2, 1) := by decide +kernel
theorem dX0_wanderMud_11 : decode cX0_wanderMud 11 = .ok (.imul, 1) := by decide +kernel
theorem dX0_wanderMud_12 : decode cX0_wanderMud 12 = .ok (.aload_n 0, 1) := by decide +kernel
theorem dX0_wanderMud_13 : decode cX0_wanderMud 13 = .ok (.iconst 3, 1) := by decide +kernel
theorem dX0_wanderMud_14 : decode cX0_wanderMud 14 = .ok (.iaload, 1) := by decide +kernel
theorem dX0_wanderMud_15 : decode cX0_wanderMud 15 = .ok (.idiv, 1) := by decide +kernel
theorem dX0_wanderMud_16 : decode cX0_wanderMud 16 = .ok (.istore_n 3, 1) := by decide +kernel
theorem dX0_wanderMud_17 : decode cX0_wanderMud 17 = .ok (.aload_n 0, 1) := by decide +kernel
theorem dX0_wanderMud_18 : decode cX0_wanderMud 18 = .ok (.iconst 4, 1) := by decide +kernel
theorem dX0_wanderMud_19 : decode cX0_wanderMud 19 = .ok (.dup2, 1) := by decide +kernel
theorem dX0_wanderMud_20 : decode cX0_wanderMud 20 = .ok (.iaload, 1) := by decide +kernel
theorem dX0_wanderMud_21 : decode cX0_wanderMud 21 = .ok (.iload_n 3, 1) := by decide +kernel
theorem dX0_wanderMud_22 : decode cX0_wanderMud 22 = .ok (.isub, 1) := by decide +kernel
theorem dX0_wanderMud_23 : decode cX0_wanderMud 23 = .ok (.iastore, 1) := by decide +kernel
theorem dX0_wanderMud_24 : decode cX0_wanderMud 24 = .ok (.aload_n 1, 1) := by decide +kernel
theorem dX0_wanderMud_25 : decode cX0_wanderMud 25 = .ok (.iload_n 3, 1) := by decide +kernel
theorem dX0_wanderMud_26 : decode cX0_wanderMud 26 = .ok (.invokestatic 87, 3) := by decide +kernel
theorem dX0_wanderMud_29 : decode cX0_wanderMud 29 = .ok (.return_, 1) := by decide +kernel
theorem dX0_takeInWater_0 : decode cX0_takeInWater 0 = .ok (.aload_n 0, 1) := by decide +kernel
theorem dX0_takeInWater_1 : decode cX0_takeInWater 1 = .ok (.iconst 3, 1) := by decide +kernel
theorem dX0_takeInWater_2 : decode cX0_takeInWater 2 = .ok (.iaload, 1) := by decide +kernel
theorem dX0_takeInWater_3 : decode cX0_takeInWater 3 = .ok (.iload_n 1, 1) := by decide +kernel
theorem dX0_takeInWater_4 : decode cX0_takeInWater 4 = .ok (.iadd, 1) := by decide +kernel
theorem dX0_takeInWater_5 : decode cX0_takeInWater 5 = .ok (.istore_n 2, 1) := by decide +kernel
theorem dX0_takeInWater_6 : decode cX0_takeInWater 6 = .ok (.iconst 0, 1) := by decide +kernel
theorem dX0_takeInWater_7 : decode cX0_takeInWater 7 = .ok (.iload_n 2, 1) := by decide +kernel
theorem dX0_takeInWater_8 : decode cX0_takeInWater 8 = .ok (.sipush 200, 3) := by decide +kernel
theorem dX0_takeInWater_11 : decode cX0_takeInWater 11 = .ok (.isub, 1) := by decide +kernel
theorem dX0_takeInWater_12 : decode cX0_takeInWater 12 = .ok (.invokestatic 57, 3) := by decide +kernel
theorem dX0_takeInWater_15 : decode cX0_takeInWater 15 = .ok (.istore_n 3, 1) := by decide +kernel
theorem dX0_takeInWater_16 : decode cX0_takeInWater 16 = .ok (.aload_n 0, 1) := by decide +kernel
theorem dX0_takeInWater_17 : decode cX0_takeInWater 17 = .ok (.iconst 3, 1) := by decide +kernel
theorem dX0_takeInWater_18 : decode cX0_takeInWater 18 = .ok (.iload_n 2, 1) := by decide +kernel
theorem dX0_takeInWater_19 : decode cX0_takeInWater 19 = .ok (.iload_n 3, 1) := by decide +kernel
theorem dX0_takeInWater_20 : decode cX0_takeInWater 20 = .ok (.isub, 1) := by decide +kernel
theorem dX0_takeInWater_21 : decode cX0_takeInWater 21 = .ok (.iastore, 1) := by decide +kernel
theorem dX0_takeInWater_22 : decode cX0_takeInWater 22 = .ok (.aload_n 0, 1) := by decide +kernel
theorem dX0_takeInWater_23 : decode cX0_takeInWater 23 = .ok (.bipush 7, 2) := by decide +kernel
theorem dX0_takeInWater_25 : decode cX0_takeInWater 25 = .ok (.dup2, 1) := by decide +kernel
theorem dX0_takeInWater_26 : decode cX0_takeInWater 26 = .ok (.iaload, 1) := by decide +kernel
theorem dX0_takeInWater_27 : decode cX0_takeInWater 27 = .ok (.iload_n 3, 1) := by decide +kernel
theorem dX0_takeInWater_28 : decode cX0_takeInWater 28 = .ok (.iadd, 1) := by decide +kernel
theorem dX0_takeInWater_29 : decode cX0_takeInWater 29 = .ok (.iastore, 1) := by decide +kernel
theorem dX0_takeInWater_30 : decode cX0_takeInWater 30 = .ok (.return_, 1) := by decide +kernel
theorem dX0_takeInMud_0 : decode cX0_takeInMud 0 = .ok (.aload_n 0, 1) := by decide +kernel
theorem dX0_takeInMud_1 : decode cX0_takeInMud 1 = .ok (.iconst 4, 1) := by decide +kernel
theorem dX0_takeInMud_2 : decode cX0_takeInMud 2 = .ok (.bipush 99, 2) := by decide +kernel
theorem dX0_takeInMud_4 : decode cX0_takeInMud 4 = .ok (.aload_n 0, 1) := by decide +kernel
theorem dX0_takeInMud_5 : decode cX0_takeInMud 5 = .ok (.iconst 4, 1) := by decide +kernel
theorem dX0_takeInMud_6 : decode cX0_takeInMud 6 = .ok (.iaload, 1) := by decide +kernel
theorem dX0_takeInMud_7 : decode cX0_takeInMud 7 = .ok (.iload_n 1, 1) := by decide +kernel
theorem dX0_takeInMud_8 : decode cX0_takeInMud 8 = .ok (.iadd, 1) := by decide +kernel
theorem dX0_takeInMud_9 : decode cX0_takeInMud 9 = .ok (.invokestatic 63, 3) := by decide +kernel
theorem dX0_takeInMud_12 : decode cX0_takeInMud 12 = .ok (.iastore, 1) := by decide +kernel
theorem dX0_takeInMud_13 : decode cX0_takeInMud 13 = .ok (.return_, 1) := by decide +kernel
theorem dX0_growCrusts_0 : decode cX0_growCrusts 0 = .ok (.iconst 0, 1) := by decide +kernel
theorem dX0_growCrusts_1 : decode cX0_growCrusts 1 = .ok (.istore_n 1, 1) := by decide +kernel
theorem dX0_growCrusts_2 : decode cX0_growCrusts 2 = .ok (.iload_n 1, 1) := by decide +kernel
theorem dX0_growCrusts_3 : decode cX0_growCrusts 3 = .ok (.aload_n 0, 1) := by decide +kernel
theorem dX0_growCrusts_4 : decode cX0_growCrusts 4 = .ok (.getfield 23, 3) := by decide +kernel
theorem dX0_growCrusts_7 : decode cX0_growCrusts 7 = .ok (.if_icmp .ge 35, 3) := by decide +kernel
theorem dX0_growCrusts_10 : decode cX0_growCrusts 10 = .ok (.aload_n 0, 1) := by decide +kernel
theorem dX0_growCrusts_11 : decode cX0_growCrusts 11 = .ok (.getfield 16, 3) := by decide +kernel
theorem dX0_growCrusts_14 : decode cX0_growCrusts 14 = .ok (.iload_n 1, 1) := by decide +kernel
theorem dX0_growCrusts_15 : decode cX0_growCrusts 15 = .ok (.aaload, 1) := by decide +kernel
theorem dX0_growCrusts_16 : decode cX0_growCrusts 16 = .ok (.astore_n 2, 1) := by decide +kernel
theorem dX0_growCrusts_17 : decode cX0_growCrusts 17 = .ok (.aload_n 2, 1) := by decide +kernel
theorem dX0_growCrusts_18 : decode cX0_growCrusts 18 = .ok (.iconst 5, 1) := by decide +kernel
theorem dX0_growCrusts_19 : decode cX0_growCrusts 19 = .ok (.iaload, 1) := by decide +kernel
theorem dX0_growCrusts_20 : decode cX0_growCrusts 20 = .ok (.ifCond .le 16, 3) := by decide +kernel
theorem dX0_growCrusts_23 : decode cX0_growCrusts 23 = .ok (.aload_n 2, 1) := by decide +kernel
theorem dX0_growCrusts_24 : decode cX0_growCrusts 24 = .ok (.iconst 4, 1) := by decide +kernel
theorem dX0_growCrusts_25 : decode cX0_growCrusts 25 = .ok (.bipush 20, 2) := by decide +kernel
theorem dX0_growCrusts_27 : decode cX0_growCrusts 27 = .ok (.aload_n 2, 1) := by decide +kernel
theorem dX0_growCrusts_28 : decode cX0_growCrusts 28 = .ok (.iconst 4, 1) := by decide +kernel
theorem dX0_growCrusts_29 : decode cX0_growCrusts 29 = .ok (.iaload, 1) := by decide +kernel
theorem dX0_growCrusts_30 : decode cX0_growCrusts 30 = .ok (.iconst 1, 1) := by decide +kernel
theorem dX0_growCrusts_31 : decode cX0_growCrusts 31 = .ok (.iadd, 1) := by decide +kernel
theorem dX0_growCrusts_32 : decode cX0_growCrusts 32 = .ok (.invokestatic 63, 3) := by decide +kernel
theorem dX0_growCrusts_35 : decode cX0_growCrusts 35 = .ok (.iastore, 1) := by decide +kernel
theorem dX0_growCrusts_36 : decode cX0_growCrusts 36 = .ok (.iinc 1 1, 3) := by decide +kernel
theorem dX0_growCrusts_39 : decode cX0_growCrusts 39 = .ok (.goto (-37), 3) := by decide +kernel
theorem dX0_growCrusts_42 : decode cX0_growCrusts 42 = .ok (.return_, 1) := by decide +kernel
theorem dX0_drinkFrom_0 : decode cX0_drinkFrom 0 = .ok (.aload_n 0, 1) := by decide +kernel
theorem dX0_drinkFrom_1 : decode cX0_drinkFrom 1 = .ok (.iconst 4, 1) := by decide +kernel
theorem dX0_drinkFrom_2 : decode cX0_drinkFrom 2 = .ok (.iaload, 1) := by decide +kernel
theorem dX0_drinkFrom_3 : decode cX0_drinkFrom 3 = .ok (.bipush 50, 2) := by decide +kernel
theorem dX0_drinkFrom_5 : decode cX0_drinkFrom 5 = .ok (.if_icmp .lt 11, 3) := by decide +kernel
theorem dX0_drinkFrom_8 : decode cX0_drinkFrom 8 = .ok (.aload_n 0, 1) := by decide +kernel
theorem dX0_drinkFrom_9 : decode cX0_drinkFrom 9 = .ok (.iconst 2, 1) := by decide +kernel
theorem dX0_drinkFrom_10 : decode cX0_drinkFrom 10 = .ok (.iaload, 1) := by decide +kernel
theorem dX0_drinkFrom_11 : decode cX0_drinkFrom 11 = .ok (.iconst 2, 1) := by decide +kernel
theorem dX0_drinkFrom_12 : decode cX0_drinkFrom 12 = .ok (.idiv, 1) := by decide +kernel
theorem dX0_drinkFrom_13 : decode cX0_drinkFrom 13 = .ok (.goto 6, 3) := by decide +kernel
theorem dX0_drinkFrom_16 : decode cX0_drinkFrom 16 = .ok (.aload_n 0, 1) := by decide +kernel
theorem dX0_drinkFrom_17 : decode cX0_drinkFrom 17 = .ok (.iconst 2, 1) := by decide +kernel
theorem dX0_drinkFrom_18 : decode cX0_drinkFrom 18 = .ok (.iaload, 1) := by decide +kernel
theorem dX0_drinkFrom_19 : decode cX0_drinkFrom 19 = .ok (.istore_n 1, 1) := by decide +kernel
theorem dX0_drinkFrom_20 : decode cX0_drinkFrom 20 = .ok (.iload_n 1, 1) := by decide +kernel
theorem dX0_drinkFrom_21 : decode cX0_drinkFrom 21 = .ok (.aload_n 0, 1) := by decide +kernel
theorem dX0_drinkFrom_22 : decode cX0_drinkFrom 22 = .ok (.iconst 3, 1) := by decide +kernel
theorem dX0_drinkFrom_23 : decode cX0_drinkFrom 23 = .ok (.iaload, 1) := by decide +kernel
theorem dX0_drinkFrom_24 : decode cX0_drinkFrom 24 = .ok (.invokestatic 63, 3) := by decide +kernel
theorem dX0_drinkFrom_27 : decode cX0_drinkFrom 27 = .ok (.istore_n 2, 1) := by decide +kernel
theorem dX0_drinkFrom_28 : decode cX0_drinkFrom 28 = .ok (.aload_n 0, 1) := by decide +kernel
theorem dX0_drinkFrom_29 : decode cX0_drinkFrom 29 = .ok (.iconst 3, 1) := by decide +kernel
theorem dX0_drinkFrom_30 : decode cX0_drinkFrom 30 = .ok (.dup2, 1) := by decide +kernel
theorem dX0_drinkFrom_31 : decode cX0_drinkFrom 31 = .ok (.iaload, 1) := by decide +kernel
theorem dX0_drinkFrom_32 : decode cX0_drinkFrom 32 = .ok (.iload_n 2, 1) := by decide +kernel
theorem dX0_drinkFrom_33 : decode cX0_drinkFrom 33 = .ok (.isub, 1) := by decide +kernel
theorem dX0_drinkFrom_34 : decode cX0_drinkFrom 34 = .ok (.iastore, 1) := by decide +kernel
theorem dX0_drinkFrom_35 : decode cX0_drinkFrom 35 = .ok (.aload_n 0, 1) := by decide +kernel
theorem dX0_drinkFrom_36 : decode cX0_drinkFrom 36 = .ok (.iconst 5, 1) := by decide +kernel
theorem dX0_drinkFrom_37 : decode cX0_drinkFrom 37 = .ok (.iload_n 2, 1) := by decide +kernel
theorem dX0_drinkFrom_38 : decode cX0_drinkFrom 38 = .ok (.iastore, 1) := by decide +kernel
theorem dX0_drinkFrom_39 : decode cX0_drinkFrom 39 = .ok (.aload_n 0, 1) := by decide +kernel
theorem dX0_drinkFrom_40 : decode cX0_drinkFrom 40 = .ok (.bipush 6, 2) := by decide +kernel
theorem dX0_drinkFrom_42 : decode cX0_drinkFrom 42 = .ok (.dup2, 1) := by decide +kernel
theorem dX0_drinkFrom_43 : decode cX0_drinkFrom 43 = .ok (.iaload, 1) := by decide +kernel
theorem dX0_drinkFrom_44 : decode cX0_drinkFrom 44 = .ok (.iload_n 2, 1) := by decide +kernel
theorem dX0_drinkFrom_45 : decode cX0_drinkFrom 45 = .ok (.iadd, 1) := by decide +kernel
theorem dX0_drinkFrom_46 : decode cX0_drinkFrom 46 = .ok (.iastore, 1) := by decide +kernel
theorem dX0_drinkFrom_47 : decode cX0_drinkFrom 47 = .ok (.return_, 1) := by decide +kernel
set_option maxRecDepth 20000 in
theorem ggX1_init_X0_init : GoodIn wsX1_init wsX0_init := goodIn_r _ [11, 12, 2, 3, 13, 14, 15, 16, 17, 18, 19, 20, 21] (by decide +kernel) (by decide +kernel)
set_option maxRecDepth 20000 in
theorem gX1_init_X0_init : GoodIn wsX1_init (wsX0_init) := ggX1_init_X0_init
end
section
/-! PART 06: rows over one land's state S, the other kept; the reference's rows with a name for the new state -/
abbrev qmax (x y : Int32) : Int32 := if x < y then y else x
abbrev qmin (x y : Int32) : Int32 := if y < x then y else x
abbrev EV (z : QZ) {α : Type} (At : α → (Nat → va_E) → Prop) (lo hi : Nat) (ct : Nat → va_E) (s : State) (below : List Frame) (av : List Value) (mc ms : Nat) (post : α → Prop) : State → Prop := MQ below (va_Qv post (QJ z At lo hi ct) (qA (zn z) (za z) s.heap.size)) av.toArray s mc ms (qA (zn z) (za z) s.heap.size)
abbrev EI (z : QZ) {α : Type} (At : α → (Nat → va_E) → Prop) (lo hi : Nat) (ct : Nat → va_E) (s : State) (below : List Frame) (av : List Value) (mc ms : Nat) (post : Int32 → α → Prop) : State → Prop := MQ below (va_Qi post (QJ z At lo hi ct) (qA (zn z) (za z) s.heap.size)) av.toArray s mc ms (qA (zn z) (za z) s.heap.size)
abbrev EL (z : QZ) {α : Type} (At : α → (Nat → va_E) → Prop) (lo hi : Nat) (ct : Nat → va_E) (s : State) (below : List Frame) (av : List Value) (mc ms : Nat) (post : Int64 → α → Prop) : State → Prop := MQ below (va_Ql post (QJ z At lo hi ct) (qA (zn z) (za z) s.heap.size)) av.toArray s mc ms (qA (zn z) (za z) s.heap.size)
section QL
variable {p : Program} {l : Launch} {e : Env} {R : Room} {s : State} {m : MethodId} {args : Array Value} {below : List Frame} {meth : Method} {c : Code} {H : Heap} {locs : List Loc} {cells slots : Nat} {Q : State → Prop}
variable {cc : ByteArray} {nL : Nat} {ret : Option FieldType} {own : String} {ws : List Cond} {pc : Nat} {ls : Array Slot} {rest : List Value} {z : QZ} {c0 : Nat → va_E} {σ : Nat → QLs} {b : Nat} {S : QLs} {M : QMs}
theorem L_ldT (C0 : Cx p s m args meth c cc nL ret own ws) (hK : QK z s) (h : GW z (XAt z) 0 55 s.heap c0 (va_up σ b S) H locs) {i k : Nat} (hb : b < 2) (hi : i < 10) {x : Int32} (hx : x = nI k) (hk : k < 8) (hdg : decode cc pc = .ok (.iaload, 1)) (kk : W p l e R s m args below meth c H locs cells slots Q (F0 m (pc + 1) ls (.int (qT S i k) :: rest))) : W p l e R s m args below meth c H locs cells slots Q (F0 m pc ls (.int x :: .ref (za z (1 + 27 * b + (3 + i))) :: rest)) := by
  refine X_ldT C0 hK h hb hi hx hk hdg ?_
  rw [va_up_self]; exact kk
theorem L_stT (C0 : Cx p s m args meth c cc nL ret own ws) (hK : QK z s) (h : GW z (XAt z) 0 55 s.heap c0 (va_up σ b S) H locs) {i k : Nat} (hb : b < 2) (hi : i < 10) {x v : Int32} (hx : x = nI k) (hk : k < 8) (hdg : decode cc pc = .ok (.iastore, 1)) (kk : ∀ (H1 : Heap) (locs1 : List Loc) (S1 : QLs), S1 = sT S i (upd (qT S i) k v) → GW z (XAt z) 0 55 s.heap c0 (va_up σ b S1) H1 locs1 → W p l e R s m args below meth c H1 locs1 cells slots Q (F0 m (pc + 1) ls rest)) : W p l e R s m args below meth c H locs cells slots Q (F0 m pc ls (.int v :: .int x :: .ref (za z (1 + 27 * b + (3 + i))) :: rest)) := by
  refine X_stT C0 hK h hb hi hx hk hdg (fun H1 locs1 h1 => kk H1 locs1 _ rfl ?_)
  rw [va_up_self, bx_uu] at h1; exact h1
theorem L_ldP (C0 : Cx p s m args meth c cc nL ret own ws) (hK : QK z s) (h : GW z (XAt z) 0 55 s.heap c0 (va_up σ b S) H locs) {i k : Nat} (hb : b < 2) (hi : i < 14) {x : Int32} (hx : x = nI k) (hk : k < 10) (hdg : decode cc pc = .ok (.iaload, 1)) (kk : W p l e R s m args below meth c H locs cells slots Q (F0 m (pc + 1) ls (.int (qP S i k) :: rest))) : W p l e R s m args below meth c H locs cells slots Q (F0 m pc ls (.int x :: .ref (za z (1 + 27 * b + (13 + i))) :: rest)) := by
  refine X_ldP C0 hK h hb hi hx hk hdg ?_
  rw [va_up_self]; exact kk
theorem L_stP (C0 : Cx p s m args meth c cc nL ret own ws) (hK : QK z s) (h : GW z (XAt z) 0 55 s.heap c0 (va_up σ b S) H locs) {i k : Nat} (hb : b < 2) (hi : i < 14) {x v : Int32} (hx : x = nI k) (hk : k < 10) (hdg : decode cc pc = .ok (.iastore, 1)) (kk : ∀ (H1 : Heap) (locs1 : List Loc) (S1 : QLs), S1 = sP S i (upd (qP S i) k v) → GW z (XAt z) 0 55 s.heap c0 (va_up σ b S1) H1 locs1 → W p l e R s m args below meth c H1 locs1 cells slots Q (F0 m (pc + 1) ls rest)) : W p l e R s m args below meth c H locs cells slots Q (F0 m pc ls (.int v :: .int x :: .ref (za z (1 + 27 * b + (13 + i))) :: rest)) := by
  refine X_stP C0 hK h hb hi hx hk hdg (fun H1 locs1 h1 => kk H1 locs1 _ rfl ?_)
  rw [va_up_self, bx_uu] at h1; exact h1
theorem L_gL (C0 : Cx p s m args meth c cc nL ret own ws) (hK : QK z s) (h : GW z (XAt z) 0 55 s.heap c0 (va_up σ b S) H locs) (hb : b < 2) (hin : ∀ w ∈ u_ws RX0 TX0 5, w ∈ ws) (j : Nat) (hj : j < 5) {index : Nat} (hlink : Cond.fieldLink own index (TX0 j).1 (TX0 j).2.1 (TX0 j).2.2.1 ∈ ws) {v : Value} (hv : [Value.ref (za z (1 + 27 * b + 1)), .ref (za z (1 + 27 * b + 2)), .int (nI (qt S)), .int (nI (qp S)), .int (qD S)][j]? = some v) (hdg : decode cc pc = .ok (.getfield index, 3)) (kk : W p l e R s m args below meth c H locs cells slots Q (F0 m (pc + 3) ls (v :: rest))) : W p l e R s m args below meth c H locs cells slots Q (F0 m pc ls (.ref (za z (1 + 27 * b)) :: rest)) :=
  X_gL C0 hK h hb hin j hj hlink (by rw [va_up_self]; exact hv) hdg kk
theorem L_pt (C0 : Cx p s m args meth c cc nL ret own ws) (hK : QK z s) (h : GW z (XAt z) 0 55 s.heap c0 (va_up σ b S) H locs) (hb : b < 2) (hin : ∀ w ∈ u_ws RX0 TX0 5, w ∈ ws) {index : Nat} (hlink : Cond.fieldLink own index (TX0 2).1 (TX0 2).2.1 (TX0 2).2.2.1 ∈ ws) {x : Int32} {n : Nat} (hx : x = nI n) (hdg : decode cc pc = .ok (.putfield index, 3)) (kk : ∀ (H1 : Heap) (locs1 : List Loc) (S1 : QLs), S1 = st_ S n → GW z (XAt z) 0 55 s.heap c0 (va_up σ b S1) H1 locs1 → W p l e R s m args below meth c H1 locs1 cells slots Q (F0 m (pc + 3) ls rest)) : W p l e R s m args below meth c H locs cells slots Q (F0 m pc ls (.int x :: .ref (za z (1 + 27 * b)) :: rest)) := by
  refine X_pt C0 hK h hb hin hlink hx hdg (fun H1 locs1 h1 => kk H1 locs1 _ rfl ?_)
  rw [va_up_self, bx_uu] at h1; exact h1
theorem L_pp (C0 : Cx p s m args meth c cc nL ret own ws) (hK : QK z s) (h : GW z (XAt z) 0 55 s.heap c0 (va_up σ b S) H locs) (hb : b < 2) (hin : ∀ w ∈ u_ws RX0 TX0 5, w ∈ ws) {index : Nat} (hlink : Cond.fieldLink own index (TX0 3).1 (TX0 3).2.1 (TX0 3).2.2.1 ∈ ws) {x : Int32} {n : Nat} (hx : x = nI n) (hdg : decode cc pc = .ok (.putfield index, 3)) (kk : ∀ (H1 : Heap) (locs1 : List Loc) (S1 : QLs), S1 = sp_ S n → GW z (XAt z) 0 55 s.heap c0 (va_up σ b S1) H1 locs1 → W p l e R s m args below meth c H1 locs1 cells slots Q (F0 m (pc + 3) ls rest)) : W p l e R s m args below meth c H locs cells slots Q (F0 m pc ls (.int x :: .ref (za z (1 + 27 * b)) :: rest)) := by
  refine X_pp C0 hK h hb hin hlink hx hdg (fun H1 locs1 h1 => kk H1 locs1 _ rfl ?_)
  rw [va_up_self, bx_uu] at h1; exact h1
theorem L_pd (C0 : Cx p s m args meth c cc nL ret own ws) (hK : QK z s) (h : GW z (XAt z) 0 55 s.heap c0 (va_up σ b S) H locs) (hb : b < 2) (hin : ∀ w ∈ u_ws RX0 TX0 5, w ∈ ws) {index : Nat} (hlink : Cond.fieldLink own index (TX0 4).1 (TX0 4).2.1 (TX0 4).2.2.1 ∈ ws) {x : Int32} (hdg : decode cc pc = .ok (.putfield index, 3)) (kk : ∀ (H1 : Heap) (locs1 : List Loc) (S1 : QLs), S1 = sD S x → GW z (XAt z) 0 55 s.heap c0 (va_up σ b S1) H1 locs1 → W p l e R s m args below meth c H1 locs1 cells slots Q (F0 m (pc + 3) ls rest)) : W p l e R s m args below meth c H locs cells slots Q (F0 m pc ls (.int x :: .ref (za z (1 + 27 * b)) :: rest)) := by
  refine X_pd C0 hK h hb hin hlink hdg (fun H1 locs1 h1 => kk H1 locs1 _ rfl ?_)
  rw [va_up_self, bx_uu] at h1; exact h1
theorem G_mmax (C0 : Cx p s m args meth c cc nL ret own ws) (hsz : ls.size = nL) {index : Nat} (h1 : Cond.methodLink own index Lib.Math.max.name ∈ ws) (h2 : Cond.static Lib.Math.max.name ∈ ws) (h3 : Cond.initialized "java/lang/Math" ∈ ws) (h4 : Cond.code Lib.Math.max.name Lib.Math.max.code 2 (some .int) ∈ ws) (hr : 1 ≤ R.frames ∧ (rest.map fun v => v.category).sum + 13 ≤ R.locals ∧ cells ≤ R.cells ∧ slots ≤ R.slots) {x y : Int32} (hdg : decode cc pc = .ok (.invokestatic index, 3)) (kk : W p l e R s m args below meth c H locs cells slots Q (F0 m (pc + 3) ls (.int (qmax x y) :: rest))) : W p l e R s m args below meth c H locs cells slots Q (F0 m pc ls (.int y :: .int x :: rest)) :=
  va_mmax C0.1 C0.2.1 (C0.2.2.2.1.trans hsz.symm) C0.2.2.2.2.1 (C0.2.2.2.2.2.1 _ h1) (C0.2.2.2.2.2.1 _ h2) (C0.2.2.2.2.2.1 _ h3) (C0.2.2.2.2.2.1 _ h4) hr.1 hr.2.1 hr.2.2.1 hr.2.2.2 hdg kk
theorem G_mmin (C0 : Cx p s m args meth c cc nL ret own ws) (hsz : ls.size = nL) {index : Nat} (h1 : Cond.methodLink own index Lib.Math.min.name ∈ ws) (h2 : Cond.static Lib.Math.min.name ∈ ws) (h3 : Cond.initialized "java/lang/Math" ∈ ws) (h4 : Cond.code Lib.Math.min.name Lib.Math.min.code 2 (some .int) ∈ ws) (hr : 1 ≤ R.frames ∧ (rest.map fun v => v.category).sum + 13 ≤ R.locals ∧ cells ≤ R.cells ∧ slots ≤ R.slots) {x y : Int32} (hdg : decode cc pc = .ok (.invokestatic index, 3)) (kk : W p l e R s m args below meth c H locs cells slots Q (F0 m (pc + 3) ls (.int (qmin x y) :: rest))) : W p l e R s m args below meth c H locs cells slots Q (F0 m pc ls (.int y :: .int x :: rest)) :=
  va_mmin C0.1 C0.2.1 (C0.2.2.2.1.trans hsz.symm) C0.2.2.2.2.1 (C0.2.2.2.2.2.1 _ h1) (C0.2.2.2.2.2.1 _ h2) (C0.2.2.2.2.2.1 _ h3) (C0.2.2.2.2.2.1 _ h4) hr.1 hr.2.1 hr.2.2.1 hr.2.2.2 hdg kk
end QL
theorem q_bool {c : Prop} {r : Int32} {B : Prop} (d : Decidable c) (h : r = (if c then 1 else 0) ∧ B) : (c ∧ r = 1 ∧ B) ∨ (¬ c ∧ r = 0 ∧ B) := by
  by_cases hc : c
  · exact Or.inl ⟨hc, by rw [h.1, if_pos hc], h.2⟩
  · exact Or.inr ⟨hc, by rw [h.1, if_neg hc], h.2⟩
theorem qT_sT (S : QLs) (i : Nat) (r : Nat → Int32) : qT (sT S i r) i = r := va_up_self _ _ _
theorem qT_sTn (S : QLs) {i j : Nat} (r : Nat → Int32) (h : j ≠ i) : qT (sT S i r) j = qT S j := va_up_ne _ _ h
theorem qP_sP (S : QLs) (i : Nat) (r : Nat → Int32) : qP (sP S i r) i = r := va_up_self _ _ _
theorem qP_sPn (S : QLs) {i j : Nat} (r : Nat → Int32) (h : j ≠ i) : qP (sP S i r) j = qP S j := va_up_ne _ _ h
theorem sT_sT (S : QLs) (i : Nat) (r r2 : Nat → Int32) : sT (sT S i r) i r2 = sT S i r2 := by unfold sT; rw [bx_uu]
theorem sP_sP (S : QLs) (i : Nat) (r r2 : Nat → Int32) : sP (sP S i r) i r2 = sP S i r2 := by unfold sP; rw [bx_uu]
theorem qP_sT (S : QLs) (i : Nat) (r : Nat → Int32) : qP (sT S i r) = qP S := rfl
theorem qT_sP (S : QLs) (i : Nat) (r : Nat → Int32) : qT (sP S i r) = qT S := rfl
end
section
/-! PART 07: what the class's methods do, as functions -/
theorem q_inc (i k : Nat) : nI i + Int32.ofInt (k : Int) = nI (i + k) := by
  have h : Int32.ofInt (k : Int) = nI k := by
    unfold nI
    rfl
  rw [h]; exact nI_add i k
def itN {α : Type} (f : Nat → α → α) : Nat → α → α
  | 0, a => a
  | n + 1, a => f n (itN f n a)
def qsum (f : Nat → Int32) : Nat → Int32
  | 0 => 0
  | n + 1 => qsum f n + f n
def takeW (r : Nat → Int32) (x : Int32) : Nat → Int32 := upd (upd r 3 (r 3 + x - qmax 0 (r 3 + x - 200))) 7 (upd r 3 (r 3 + x - qmax 0 (r 3 + x - 200)) 7 + qmax 0 (r 3 + x - 200))
def takeM (r : Nat → Int32) (x : Int32) : Nat → Int32 := upd r 4 (qmin 99 (r 4 + x))
def feedR (r : Nat → Int32) : Nat → Int32 := takeM (takeW r (r 1)) (takeW r (r 1) 1 / 4)
def drinkR (r : Nat → Int32) : Nat → Int32 :=
  let k : Int32 := if r 4 < 50 then r 2 else r 2 / 2
  let x : Int32 := qmin k (r 3)
  let r1 := upd r 3 (r 3 - x)
  let r2 := upd r1 5 x
  upd r2 6 (r2 6 + x)
def headR (r : Nat → Int32) : Int32 := 10 * r 0 + r 3
def wander (S : QLs) (f t : Nat) (x : Int32) : QLs :=
  if 0 < qT S f 3 then
    let y : Int32 := qT S f 4 * x / qT S f 3
    let S1 := sT S f (upd (qT S f) 4 (qT S f 4 - y))
    sT S1 t (takeM (qT S1 t) y)
  else S
theorem q_add {x y : Int32} {a b : Nat} (hx : x = nI a) (hy : y = nI b) : x + y = nI (a + b) := by rw [hx, hy]; exact nI_add a b
theorem q_mul {x y : Int32} {a b : Nat} (hx : x = nI a) (hy : y = nI b) : x * y = nI (a * b) := by rw [hx, hy]; exact pk_mul a b
def qf (S : QLs) (k : Nat) : Nat := (qP S k 0).toNatClampNeg
def qo (S : QLs) (k : Nat) : Nat := (qP S k 1).toNatClampNeg
/-- the land is in order: its pipes lead from tank to another tank -/
def LOk (S : QLs) : Prop := qt S ≤ 10 ∧ qp S ≤ 14 ∧ ∀ k, k < qp S → qf S k < qt S ∧ qo S k < qt S ∧ qf S k ≠ qo S k ∧ qP S k 0 = nI (qf S k) ∧ qP S k 1 = nI (qo S k)
def canF (S : QLs) (k : Nat) : Int32 :=
  let d := headR (qT S (qf S k)) - headR (qT S (qo S k))
  if d ≤ 0 then 0 else if qP S k 3 ≤ d then qmin (qmin (qmax 0 (qP S k 2 - qP S k 4)) (d / 10 + 1)) (qT S (qf S k) 3) else 0
def ofPipeL (S : QLs) (k w : Nat) : Int32 := if w = 8 then canF S k else qP S k w
def flowL (S : QLs) (k : Nat) : QLs :=
  let x := canF S k
  let y := qmin (qP S k 9) x
  let S1 := wander S (qf S k) (qo S k) x
  let S2 := sT S1 (qf S k) (upd (qT S1 (qf S k)) 3 (qT S1 (qf S k) 3 - x))
  let S3 := sT S2 (qo S k) (takeW (qT S2 (qo S k)) (x - y))
  let S4 := sP S3 k (upd (qP S3 k) 5 x)
  let S5 := sP S4 k (upd (qP S4 k) 6 y)
  sP S5 k (upd (qP S5 k) 7 (qP S5 k 7 + y))
def crustL (S : QLs) (k : Nat) : QLs := if qP S k 5 ≤ 0 then S else sP S k (upd (qP S k) 4 (qmin 20 (qP S k 4 + 1)))
abbrev feedF : Nat → QLs → QLs := fun i X => sT X i (feedR (qT X i))
abbrev flowF : Nat → QLs → QLs := fun k X => flowL X k
abbrev crustF : Nat → QLs → QLs := fun k X => crustL X k
abbrev drinkF : Nat → QLs → QLs := fun i X => sT X i (drinkR (qT X i))
def crustAll (S : QLs) : QLs := itN crustF (qp S) S
def dayL (S : QLs) : QLs :=
  let S1 := itN feedF (qt S) S
  let S2 := itN flowF (qp S1) S1
  let S3 := if qD S2 - qD S2 / 4 * 4 = 0 then crustAll S2 else S2
  let S4 := itN drinkF (qt S3) S3
  sD S4 (qD S4 + 1)
abbrev dayF : Nat → QLs → QLs := fun _ X => dayL X
def sumT (S : QLs) (k : Nat) : Int32 := qsum (fun j => qT S j k) (qt S)
def sumP (S : QLs) (k : Nat) : Int32 := qsum (fun j => qP S j k) (qp S)
def qthc (S : QLs) : Nat → Int32
  | 0 => 0
  | n + 1 => if qT S n 5 < qT S n 2 then qthc S n + 1 else qthc S n
def ofAllL (S : QLs) : Nat → Int32
  | 0 => qD S
  | 1 => nI (qt S)
  | 2 => nI (qp S)
  | 3 => sumT S 3
  | 4 => sumT S 4
  | 5 => sumT S 6
  | 6 => sumP S 7
  | 7 => sumT S 7
  | _ => qthc S (qt S)
def addT (S : QLs) (x y v : Int32) : QLs := st_ (sT S (qt S) (upd (upd (upd (qT S (qt S)) 0 x) 1 y) 2 v)) (qt S + 1)
def addP (S : QLs) (x y v w : Int32) : QLs := sp_ (sP S (qp S) (upd (upd (upd (upd (qP S (qp S)) 0 x) 1 y) 2 v) 3 w)) (qp S + 1)
def rStep (S : QLs) (x : Int32) (k : Nat) (r : Int32) : Int32 :=
  if qP S k 0 = x then r ||| (1 <<< (qP S k 1 &&& 31)) else if r &&& (1 <<< (qP S k 0 &&& 31)) = 0 then r else r ||| (1 <<< (qP S k 1 &&& 31))
def rRound (S : QLs) (x : Int32) (r : Int32) : Int32 := itN (rStep S x) (qp S) r
def reachL (S : QLs) (x : Int32) : Int32 := itN (fun _ r => rRound S x r) (qt S) 0
/-- the same shape: counts, and where each pipe leads -/
def Shp (S S2 : QLs) : Prop := qt S2 = qt S ∧ qp S2 = qp S ∧ ∀ k, qP S2 k 0 = qP S k 0 ∧ qP S2 k 1 = qP S k 1
theorem Shp.rf {S : QLs} : Shp S S := ⟨rfl, rfl, fun _ => ⟨rfl, rfl⟩⟩
theorem Shp.trans {S S2 S3 : QLs} (h : Shp S S2) (h2 : Shp S2 S3) : Shp S S3 := ⟨h2.1.trans h.1, h2.2.1.trans h.2.1, fun k => ⟨(h2.2.2 k).1.trans (h.2.2 k).1, (h2.2.2 k).2.trans (h.2.2 k).2⟩⟩
theorem Shp.ok {S S2 : QLs} (h : Shp S S2) (hk : LOk S) : LOk S2 := by
  obtain ⟨h1, h2, h3⟩ := h
  obtain ⟨k1, k2, k3⟩ := hk
  have e0 : ∀ k, qf S2 k = qf S k := fun k => by unfold qf; rw [(h3 k).1]
  have e1 : ∀ k, qo S2 k = qo S k := fun k => by unfold qo; rw [(h3 k).2]
  refine ⟨by rw [h1]; exact k1, by rw [h2]; exact k2, fun k hk => ?_⟩
  rw [h2] at hk
  rw [e0, e1, h1, (h3 k).1, (h3 k).2]
  exact k3 k hk
theorem shp_sT {S : QLs} {i : Nat} {r : Nat → Int32} : Shp S (sT S i r) := ⟨rfl, rfl, fun _ => ⟨rfl, rfl⟩⟩
theorem shp_sD {S : QLs} {d : Int32} : Shp S (sD S d) := ⟨rfl, rfl, fun _ => ⟨rfl, rfl⟩⟩
theorem shp_sP {S : QLs} {i j : Nat} {v : Int32} (hj : 2 ≤ j) : Shp S (sP S i (upd (qP S i) j v)) := by
  refine ⟨rfl, rfl, fun k => ?_⟩
  by_cases e : k = i
  · subst e
    rw [qP_sP]
    exact ⟨pk_un (by omega), pk_un (by omega)⟩
  · rw [qP_sPn _ _ e]; exact ⟨rfl, rfl⟩
theorem shp_it {f : Nat → QLs → QLs} (hf : ∀ i S, Shp S (f i S)) (S : QLs) : ∀ n, Shp S (itN f n S)
  | 0 => Shp.rf
  | n + 1 => (shp_it hf S n).trans (hf n _)
theorem shp_wander {S : QLs} {f t : Nat} {x : Int32} : Shp S (wander S f t x) := by
  unfold wander
  split
  · exact shp_sT.trans shp_sT
  · exact Shp.rf
theorem shp_flow {S : QLs} {k : Nat} : Shp S (flowL S k) := ((((shp_wander.trans shp_sT).trans shp_sT).trans (shp_sP (by decide))).trans (shp_sP (by decide))).trans (shp_sP (by decide))
theorem shp_crust {S : QLs} {k : Nat} : Shp S (crustL S k) := by
  unfold crustL
  split
  · exact Shp.rf
  · exact shp_sP (by decide)
theorem shp_crustAll {S : QLs} : Shp S (crustAll S) := shp_it (f := crustF) (fun _ _ => shp_crust) S _
theorem shp_day (S : QLs) : Shp S (dayL S) := by
  unfold dayL
  refine Shp.trans ?_ shp_sD
  refine Shp.trans ?_ (shp_it (f := drinkF) (fun _ _ => shp_sT) _ _)
  refine Shp.trans ((shp_it (f := feedF) (fun _ _ => shp_sT) S (qt S)).trans (shp_it (f := flowF) (fun _ _ => shp_flow) _ (qp (itN feedF (qt S) S)))) ?_
  show Shp _ (if _ then _ else _)
  split
  · exact shp_crustAll
  · exact Shp.rf
theorem shp_days (S : QLs) (n : Nat) : Shp S (itN dayF n S) := shp_it (f := dayF) (fun _ X => shp_day X) S n
theorem rStep_a {S : QLs} {x r : Int32} {k : Nat} (h : qP S k 0 = x) : rStep S x k r = r ||| (1 <<< (qP S k 1 &&& 31)) := if_pos h
theorem rStep_b {S : QLs} {x r : Int32} {k : Nat} (h : ¬ qP S k 0 = x) (h2 : r &&& (1 <<< (qP S k 0 &&& 31)) = 0) : rStep S x k r = r := (if_neg h).trans (if_pos h2)
theorem rStep_c {S : QLs} {x r : Int32} {k : Nat} (h : ¬ qP S k 0 = x) (h2 : ¬ r &&& (1 <<< (qP S k 0 &&& 31)) = 0) : rStep S x k r = r ||| (1 <<< (qP S k 1 &&& 31)) := (if_neg h).trans (if_neg h2)
end
section
set_option maxHeartbeats 4000000 in
set_option maxRecDepth 100000 in
theorem c_X0_takeInWater (l : Launch) (z : QZ) (σ : Nat → QLs) (b : Nat) (hB : b < 2) (S : QLs) (i : Nat) (hi : i < 10) (x : Int32) : GV l yX0_takeInWater wsX0_takeInWater ({ frames := 1, cells := 0, slots := 0, locals := 13 } : Room) z [.ref (za z (1 + 27 * b + (3 + i))), .int x] 0 0 (XAt z) 0 55 (va_up σ b S) (fun σ' => σ' = va_up σ b (sT S i (takeW (qT S i) x))) := by
  intro ct sz hn hq hat
  refine q_entry (lo := 0) (cc := cX0_takeInWater) (maxL := 4) (ret := none) (by decide) rfl (Nat.le_of_ble_eq_true rfl) hn hq hat ?_
  intro p e s m below meth c ls C0 hK hsz h hl
  subst hsz
  obtain ⟨hx, hb, hr, hml, hown, hts, hlocks⟩ := id C0
  have hl : lv_has ls 4 [(0, .ref (za z (1 + 27 * b + (3 + i)))), (1, .int x)] := hl
  refine lv_aload_n hx hb dX0_takeInWater_0 rfl (lv_at hl 0 rfl) ?_
  refine lv_iconst (v := 3) hx hb dX0_takeInWater_1 (by decide) ?_
  refine L_ldT C0 hK h hB hi (k := 3) rfl (by decide) dX0_takeInWater_2 ?_
  refine lv_iload_n hx hb dX0_takeInWater_3 rfl (lv_at hl 1 rfl) ?_
  refine lv_iadd hx hb dX0_takeInWater_4 ?_
  refine lv_istore_n (lv' := [(2, .int ((qT S i 3) + x)), (0, .ref (za z (1 + 27 * b + (3 + i)))), (1, .int x)]) hx hb dX0_takeInWater_5 rfl hl (by decide) rfl (fun ls hl => ?_)
  refine lv_iconst (v := 0) hx hb dX0_takeInWater_6 (by decide) ?_
  refine lv_iload_n hx hb dX0_takeInWater_7 rfl (lv_at hl 0 rfl) ?_
  refine lv_sipush (v := 200) hx hb dX0_takeInWater_8 (by decide) ?_
  refine lv_isub hx hb dX0_takeInWater_11 ?_
  refine G_mmax C0 hl.1 (by decide +kernel) (by decide +kernel) (by decide +kernel) (by decide +kernel) ⟨Nat.le_of_ble_eq_true rfl, Nat.le_of_ble_eq_true rfl, Nat.le_of_ble_eq_true rfl, Nat.le_of_ble_eq_true rfl⟩ dX0_takeInWater_12 ?_
  refine lv_istore_n (lv' := [(3, .int (qmax 0 (((qT S i 3) + x) - 200))), (2, .int ((qT S i 3) + x)), (0, .ref (za z (1 + 27 * b + (3 + i)))), (1, .int x)]) hx hb dX0_takeInWater_15 rfl hl (by decide) rfl (fun ls hl => ?_)
  refine lv_aload_n hx hb dX0_takeInWater_16 rfl (lv_at hl 2 rfl) ?_
  refine lv_iconst (v := 3) hx hb dX0_takeInWater_17 (by decide) ?_
  refine lv_iload_n hx hb dX0_takeInWater_18 rfl (lv_at hl 1 rfl) ?_
  refine lv_iload_n hx hb dX0_takeInWater_19 rfl (lv_at hl 0 rfl) ?_
  refine lv_isub hx hb dX0_takeInWater_20 ?_
  refine L_stT C0 hK h hB hi (k := 3) rfl (by decide) dX0_takeInWater_21 (fun H locs S1 eS1 h => ?_)
  refine lv_aload_n hx hb dX0_takeInWater_22 rfl (lv_at hl 2 rfl) ?_
  refine lv_bipush (v := 7) hx hb dX0_takeInWater_23 (by decide) ?_
  refine lv_dup2_11 hx hb dX0_takeInWater_25 rfl rfl ?_
  refine L_ldT C0 hK h hB hi (k := 7) rfl (by decide) dX0_takeInWater_26 ?_
  refine lv_iload_n hx hb dX0_takeInWater_27 rfl (lv_at hl 0 rfl) ?_
  refine lv_iadd hx hb dX0_takeInWater_28 ?_
  refine L_stT C0 hK h hB hi (k := 7) rfl (by decide) dX0_takeInWater_29 (fun H locs S2 eS2 h => ?_)
  exact G_vret C0 hK h (congrArg (va_up σ b) (by subst eS2 eS1; first | rfl | (simp only [qT_sT, sT_sT, qP_sP, sP_sP]; rfl))) (Nat.le_of_ble_eq_true rfl) (Nat.le_of_ble_eq_true rfl) dX0_takeInWater_30
set_option maxHeartbeats 4000000 in
set_option maxRecDepth 100000 in
theorem c_X0_takeInMud (l : Launch) (z : QZ) (σ : Nat → QLs) (b : Nat) (hB : b < 2) (S : QLs) (i : Nat) (hi : i < 10) (x : Int32) : GV l yX0_takeInMud wsX0_takeInMud ({ frames := 1, cells := 0, slots := 0, locals := 15 } : Room) z [.ref (za z (1 + 27 * b + (3 + i))), .int x] 0 0 (XAt z) 0 55 (va_up σ b S) (fun σ' => σ' = va_up σ b (sT S i (takeM (qT S i) x))) := by
  intro ct sz hn hq hat
  refine q_entry (lo := 0) (cc := cX0_takeInMud) (maxL := 2) (ret := none) (by decide) rfl (Nat.le_of_ble_eq_true rfl) hn hq hat ?_
  intro p e s m below meth c ls C0 hK hsz h hl
  subst hsz
  obtain ⟨hx, hb, hr, hml, hown, hts, hlocks⟩ := id C0
  have hl : lv_has ls 2 [(0, .ref (za z (1 + 27 * b + (3 + i)))), (1, .int x)] := hl
  refine lv_aload_n hx hb dX0_takeInMud_0 rfl (lv_at hl 0 rfl) ?_
  refine lv_iconst (v := 4) hx hb dX0_takeInMud_1 (by decide) ?_
  refine lv_bipush (v := 99) hx hb dX0_takeInMud_2 (by decide) ?_
  refine lv_aload_n hx hb dX0_takeInMud_4 rfl (lv_at hl 0 rfl) ?_
  refine lv_iconst (v := 4) hx hb dX0_takeInMud_5 (by decide) ?_
  refine L_ldT C0 hK h hB hi (k := 4) rfl (by decide) dX0_takeInMud_6 ?_
  refine lv_iload_n hx hb dX0_takeInMud_7 rfl (lv_at hl 1 rfl) ?_
  refine lv_iadd hx hb dX0_takeInMud_8 ?_
  refine G_mmin C0 hl.1 (by decide +kernel) (by decide +kernel) (by decide +kernel) (by decide +kernel) ⟨Nat.le_of_ble_eq_true rfl, Nat.le_of_ble_eq_true rfl, Nat.le_of_ble_eq_true rfl, Nat.le_of_ble_eq_true rfl⟩ dX0_takeInMud_9 ?_
  refine L_stT C0 hK h hB hi (k := 4) rfl (by decide) dX0_takeInMud_12 (fun H locs S1 eS1 h => ?_)
  exact G_vret C0 hK h (congrArg (va_up σ b) (by subst eS1; first | rfl | (simp only [qT_sT, sT_sT, qP_sP, sP_sP]; rfl))) (Nat.le_of_ble_eq_true rfl) (Nat.le_of_ble_eq_true rfl) dX0_takeInMud_13
set_option maxHeartbeats 4000000 in
set_option maxRecDepth 100000 in
theorem c_X0_feed (l : Launch) (z : QZ) (σ : Nat → QLs) (b : Nat) (hB : b < 2) (S : QLs) (i : Nat) (hi : i < 10) : GV l yX0_feed wsX0_feed ({ frames := 2, cells := 0, slots := 0, locals := 36 } : Room) z [.ref (za z (1 + 27 * b + (3 + i)))] 0 0 (XAt z) 0 55 (va_up σ b S) (fun σ' => σ' = va_up σ b (sT S i (feedR (qT S i)))) := by
  intro ct sz hn hq hat
  refine q_entry (lo := 0) (cc := cX0_feed) (maxL := 1) (ret := none) (by decide) rfl (Nat.le_of_ble_eq_true rfl) hn hq hat ?_
  intro p e s m below meth c ls C0 hK hsz h hl
  subst hsz
  obtain ⟨hx, hb, hr, hml, hown, hts, hlocks⟩ := id C0
  have hl : lv_has ls 1 [(0, .ref (za z (1 + 27 * b + (3 + i))))] := hl
  refine lv_aload_n hx hb dX0_feed_0 rfl (lv_at hl 0 rfl) ?_
  refine lv_aload_n hx hb dX0_feed_1 rfl (lv_at hl 0 rfl) ?_
  refine lv_iconst (v := 1) hx hb dX0_feed_2 (by decide) ?_
  refine L_ldT C0 hK h hB hi (k := 1) rfl (by decide) dX0_feed_3 ?_
  refine S_callSv C0 hK h (c_X0_takeInWater l z σ b hB S i hi (qT S i 1)) (va_cwS 2 hts gX0_feed_X0_takeInWater rfl rfl rfl (by decide +kernel) ⟨Nat.le_of_ble_eq_true rfl, Nat.le_of_ble_eq_true rfl⟩) rfl hl.1 (rest := []) rfl (Nat.le_of_ble_eq_true rfl) ⟨Nat.le_of_ble_eq_true rfl, Nat.le_of_ble_eq_true rfl⟩ dX0_feed_4 (fun u H locs hp h => ?_)
  obtain ⟨S1, eS1⟩ : ∃ z9, z9 = sT S i (takeW (qT S i) (qT S i 1)) := ⟨_, rfl⟩
  rw [← eS1] at hp
  subst hp
  refine lv_aload_n hx hb dX0_feed_7 rfl (lv_at hl 0 rfl) ?_
  refine lv_aload_n hx hb dX0_feed_8 rfl (lv_at hl 0 rfl) ?_
  refine lv_iconst (v := 1) hx hb dX0_feed_9 (by decide) ?_
  refine L_ldT C0 hK h hB hi (k := 1) rfl (by decide) dX0_feed_10 ?_
  refine lv_iconst (v := 4) hx hb dX0_feed_11 (by decide) ?_
  refine lv_idiv hx hb dX0_feed_12 (by decide) ?_
  refine S_callSv C0 hK h (c_X0_takeInMud l z σ b hB S1 i hi ((qT S1 i 1) / 4)) (va_cwS 2 hts gX0_feed_X0_takeInMud rfl rfl rfl (by decide +kernel) ⟨Nat.le_of_ble_eq_true rfl, Nat.le_of_ble_eq_true rfl⟩) rfl hl.1 (rest := []) rfl (Nat.le_of_ble_eq_true rfl) ⟨Nat.le_of_ble_eq_true rfl, Nat.le_of_ble_eq_true rfl⟩ dX0_feed_13 (fun u H locs hp h => ?_)
  obtain ⟨S2, eS2⟩ : ∃ z9, z9 = sT S1 i (takeM (qT S1 i) ((qT S1 i 1) / 4)) := ⟨_, rfl⟩
  rw [← eS2] at hp
  subst hp
  exact G_vret C0 hK h (congrArg (va_up σ b) (by subst eS2 eS1; first | rfl | (simp only [qT_sT, sT_sT, qP_sP, sP_sP]; rfl))) (Nat.le_of_ble_eq_true rfl) (Nat.le_of_ble_eq_true rfl) dX0_feed_16
set_option maxHeartbeats 4000000 in
set_option maxRecDepth 100000 in
theorem c_X0_drinkFrom (l : Launch) (z : QZ) (σ : Nat → QLs) (b : Nat) (hB : b < 2) (S : QLs) (i : Nat) (hi : i < 10) : GV l yX0_drinkFrom wsX0_drinkFrom ({ frames := 1, cells := 0, slots := 0, locals := 13 } : Room) z [.ref (za z (1 + 27 * b + (3 + i)))] 0 0 (XAt z) 0 55 (va_up σ b S) (fun σ' => σ' = va_up σ b (sT S i (drinkR (qT S i)))) := by
  intro ct sz hn hq hat
  refine q_entry (lo := 0) (cc := cX0_drinkFrom) (maxL := 3) (ret := none) (by decide) rfl (Nat.le_of_ble_eq_true rfl) hn hq hat ?_
  intro p e s m below meth c ls C0 hK hsz h hl
  subst hsz
  obtain ⟨hx, hb, hr, hml, hown, hts, hlocks⟩ := id C0
  have hl : lv_has ls 3 [(0, .ref (za z (1 + 27 * b + (3 + i))))] := hl
  refine lv_aload_n hx hb dX0_drinkFrom_0 rfl (lv_at hl 0 rfl) ?_
  refine lv_iconst (v := 4) hx hb dX0_drinkFrom_1 (by decide) ?_
  refine L_ldT C0 hK h hB hi (k := 4) rfl (by decide) dX0_drinkFrom_2 ?_
  refine lv_bipush (v := 50) hx hb dX0_drinkFrom_3 (by decide) ?_
  refine lv_icmp_lt (tgt := 16) hx hb dX0_drinkFrom_5 (by decide) (fun c_5 => ?_) (fun c_5 => ?_)
  · refine lv_aload_n hx hb dX0_drinkFrom_16 rfl (lv_at hl 0 rfl) ?_
    refine lv_iconst (v := 2) hx hb dX0_drinkFrom_17 (by decide) ?_
    refine L_ldT C0 hK h hB hi (k := 2) rfl (by decide) dX0_drinkFrom_18 ?_
    refine lv_istore_n (lv' := [(1, .int (qT S i 2)), (0, .ref (za z (1 + 27 * b + (3 + i))))]) hx hb dX0_drinkFrom_19 rfl hl (by decide) rfl (fun ls hl => ?_)
    refine lv_iload_n hx hb dX0_drinkFrom_20 rfl (lv_at hl 0 rfl) ?_
    refine lv_aload_n hx hb dX0_drinkFrom_21 rfl (lv_at hl 1 rfl) ?_
    refine lv_iconst (v := 3) hx hb dX0_drinkFrom_22 (by decide) ?_
    refine L_ldT C0 hK h hB hi (k := 3) rfl (by decide) dX0_drinkFrom_23 ?_
    refine G_mmin C0 hl.1 (by decide +kernel) (by decide +kernel) (by decide +kernel) (by decide +kernel) ⟨Nat.le_of_ble_eq_true rfl, Nat.le_of_ble_eq_true rfl, Nat.le_of_ble_eq_true rfl, Nat.le_of_ble_eq_true rfl⟩ dX0_drinkFrom_24 ?_
    refine lv_istore_n (lv' := [(2, .int (qmin (qT S i 2) (qT S i 3))), (1, .int (qT S i 2)), (0, .ref (za z (1 + 27 * b + (3 + i))))]) hx hb dX0_drinkFrom_27 rfl hl (by decide) rfl (fun ls hl => ?_)
    refine lv_aload_n hx hb dX0_drinkFrom_28 rfl (lv_at hl 2 rfl) ?_
    refine lv_iconst (v := 3) hx hb dX0_drinkFrom_29 (by decide) ?_
    refine lv_dup2_11 hx hb dX0_drinkFrom_30 rfl rfl ?_
    refine L_ldT C0 hK h hB hi (k := 3) rfl (by decide) dX0_drinkFrom_31 ?_
    refine lv_iload_n hx hb dX0_drinkFrom_32 rfl (lv_at hl 0 rfl) ?_
    refine lv_isub hx hb dX0_drinkFrom_33 ?_
    refine L_stT C0 hK h hB hi (k := 3) rfl (by decide) dX0_drinkFrom_34 (fun H locs S1 eS1 h => ?_)
    refine lv_aload_n hx hb dX0_drinkFrom_35 rfl (lv_at hl 2 rfl) ?_
    refine lv_iconst (v := 5) hx hb dX0_drinkFrom_36 (by decide) ?_
    refine lv_iload_n hx hb dX0_drinkFrom_37 rfl (lv_at hl 0 rfl) ?_
    refine L_stT C0 hK h hB hi (k := 5) rfl (by decide) dX0_drinkFrom_38 (fun H locs S2 eS2 h => ?_)
    refine lv_aload_n hx hb dX0_drinkFrom_39 rfl (lv_at hl 2 rfl) ?_
    refine lv_bipush (v := 6) hx hb dX0_drinkFrom_40 (by decide) ?_
    refine lv_dup2_11 hx hb dX0_drinkFrom_42 rfl rfl ?_
    refine L_ldT C0 hK h hB hi (k := 6) rfl (by decide) dX0_drinkFrom_43 ?_
    refine lv_iload_n hx hb dX0_drinkFrom_44 rfl (lv_at hl 0 rfl) ?_
    refine lv_iadd hx hb dX0_drinkFrom_45 ?_
    refine L_stT C0 hK h hB hi (k := 6) rfl (by decide) dX0_drinkFrom_46 (fun H locs S3 eS3 h => ?_)
    exact G_vret C0 hK h (congrArg (va_up σ b) (by subst eS3 eS2 eS1; simp only [qT_sT, sT_sT, drinkR, c_5, if_true, if_false])) (Nat.le_of_ble_eq_true rfl) (Nat.le_of_ble_eq_true rfl) dX0_drinkFrom_47
  · refine lv_aload_n hx hb dX0_drinkFrom_8 rfl (lv_at hl 0 rfl) ?_
    refine lv_iconst (v := 2) hx hb dX0_drinkFrom_9 (by decide) ?_
    refine L_ldT C0 hK h hB hi (k := 2) rfl (by decide) dX0_drinkFrom_10 ?_
    refine lv_iconst (v := 2) hx hb dX0_drinkFrom_11 (by decide) ?_
    refine lv_idiv hx hb dX0_drinkFrom_12 (by decide) ?_
    refine lv_goto (tgt := 19) hx hb dX0_drinkFrom_13 (by decide) ?_
    refine lv_istore_n (lv' := [(1, .int ((qT S i 2) / 2)), (0, .ref (za z (1 + 27 * b + (3 + i))))]) hx hb dX0_drinkFrom_19 rfl hl (by decide) rfl (fun ls hl => ?_)
    refine lv_iload_n hx hb dX0_drinkFrom_20 rfl (lv_at hl 0 rfl) ?_
    refine lv_aload_n hx hb dX0_drinkFrom_21 rfl (lv_at hl 1 rfl) ?_
    refine lv_iconst (v := 3) hx hb dX0_drinkFrom_22 (by decide) ?_
    refine L_ldT C0 hK h hB hi (k := 3) rfl (by decide) dX0_drinkFrom_23 ?_
    refine G_mmin C0 hl.1 (by decide +kernel) (by decide +kernel) (by decide +kernel) (by decide +kernel) ⟨Nat.le_of_ble_eq_true rfl, Nat.le_of_ble_eq_true rfl, Nat.le_of_ble_eq_true rfl, Nat.le_of_ble_eq_true rfl⟩ dX0_drinkFrom_24 ?_
    refine lv_istore_n (lv' := [(2, .int (qmin ((qT S i 2) / 2) (qT S i 3))), (1, .int ((qT S i 2) / 2)), (0, .ref (za z (1 + 27 * b + (3 + i))))]) hx hb dX0_drinkFrom_27 rfl hl (by decide) rfl (fun ls hl => ?_)
    refine lv_aload_n hx hb dX0_drinkFrom_28 rfl (lv_at hl 2 rfl) ?_
    refine lv_iconst (v := 3) hx hb dX0_drinkFrom_29 (by decide) ?_
    refine lv_dup2_11 hx hb dX0_drinkFrom_30 rfl rfl ?_
    refine L_ldT C0 hK h hB hi (k := 3) rfl (by decide) dX0_drinkFrom_31 ?_
    refine lv_iload_n hx hb dX0_drinkFrom_32 rfl (lv_at hl 0 rfl) ?_
    refine lv_isub hx hb dX0_drinkFrom_33 ?_
    refine L_stT C0 hK h hB hi (k := 3) rfl (by decide) dX0_drinkFrom_34 (fun H locs S4 eS4 h => ?_)
    refine lv_aload_n hx hb dX0_drinkFrom_35 rfl (lv_at hl 2 rfl) ?_
    refine lv_iconst (v := 5) hx hb dX0_drinkFrom_36 (by decide) ?_
    refine lv_iload_n hx hb dX0_drinkFrom_37 rfl (lv_at hl 0 rfl) ?_
    refine L_stT C0 hK h hB hi (k := 5) rfl (by decide) dX0_drinkFrom_38 (fun H locs S5 eS5 h => ?_)
    refine lv_aload_n hx hb dX0_drinkFrom_39 rfl (lv_at hl 2 rfl) ?_
    refine lv_bipush (v := 6) hx hb dX0_drinkFrom_40 (by decide) ?_
    refine lv_dup2_11 hx hb dX0_drinkFrom_42 rfl rfl ?_
    refine L_ldT C0 hK h hB hi (k := 6) rfl (by decide) dX0_drinkFrom_43 ?_
    refine lv_iload_n hx hb dX0_drinkFrom_44 rfl (lv_at hl 0 rfl) ?_
    refine lv_iadd hx hb dX0_drinkFrom_45 ?_
    refine L_stT C0 hK h hB hi (k := 6) rfl (by decide) dX0_drinkFrom_46 (fun H locs S6 eS6 h => ?_)
    exact G_vret C0 hK h (congrArg (va_up σ b) (by subst eS6 eS5 eS4; simp only [qT_sT, sT_sT, drinkR, c_5, if_true, if_false])) (Nat.le_of_ble_eq_true rfl) (Nat.le_of_ble_eq_true rfl) dX0_drinkFrom_47
set_option maxHeartbeats 4000000 in
set_option maxRecDepth 100000 in
theorem c_X0_head (l : Launch) (z : QZ) (σ : Nat → QLs) (b : Nat) (hB : b < 2) (S : QLs) (i : Nat) (hi : i < 10) : GI l yX0_head wsX0_head ({ frames := 0, cells := 0, slots := 0, locals := 0 } : Room) z [.ref (za z (1 + 27 * b + (3 + i)))] 0 0 (XAt z) 0 55 (va_up σ b S) (fun r σ' => r = headR (qT S i) ∧ σ' = va_up σ b S) := by
  intro ct sz hn hq hat
  refine q_entry (lo := 0) (cc := cX0_head) (maxL := 1) (ret := (some .int)) (by decide) rfl (Nat.le_of_ble_eq_true rfl) hn hq hat ?_
  intro p e s m below meth c ls C0 hK hsz h hl
  subst hsz
  obtain ⟨hx, hb, hr, hml, hown, hts, hlocks⟩ := id C0
  have hl : lv_has ls 1 [(0, .ref (za z (1 + 27 * b + (3 + i))))] := hl
  refine lv_bipush (v := 10) hx hb dX0_head_0 (by decide) ?_
  refine lv_aload_n hx hb dX0_head_2 rfl (lv_at hl 0 rfl) ?_
  refine lv_iconst (v := 0) hx hb dX0_head_3 (by decide) ?_
  refine L_ldT C0 hK h hB hi (k := 0) rfl (by decide) dX0_head_4 ?_
  refine lv_imul hx hb dX0_head_5 ?_
  refine lv_aload_n hx hb dX0_head_6 rfl (lv_at hl 0 rfl) ?_
  refine lv_iconst (v := 3) hx hb dX0_head_7 (by decide) ?_
  refine L_ldT C0 hK h hB hi (k := 3) rfl (by decide) dX0_head_8 ?_
  refine lv_iadd hx hb dX0_head_9 ?_
  exact G_iret C0 hK h ⟨rfl, rfl⟩ (Nat.le_of_ble_eq_true rfl) (Nat.le_of_ble_eq_true rfl) dX0_head_10
set_option maxHeartbeats 4000000 in
set_option maxRecDepth 100000 in
theorem c_X0_wanderMud (l : Launch) (z : QZ) (σ : Nat → QLs) (b : Nat) (hB : b < 2) (S : QLs) (f : Nat) (hf : f < 10) (t : Nat) (ht : t < 10) (x : Int32) : GV l yX0_wanderMud wsX0_wanderMud ({ frames := 2, cells := 0, slots := 0, locals := 36 } : Room) z [.ref (za z (1 + 27 * b + (3 + f))), .ref (za z (1 + 27 * b + (3 + t))), .int x] 0 0 (XAt z) 0 55 (va_up σ b S) (fun σ' => σ' = va_up σ b (wander S f t x)) := by
  intro ct sz hn hq hat
  refine q_entry (lo := 0) (cc := cX0_wanderMud) (maxL := 4) (ret := none) (by decide) rfl (Nat.le_of_ble_eq_true rfl) hn hq hat ?_
  intro p e s m below meth c ls C0 hK hsz h hl
  subst hsz
  obtain ⟨hx, hb, hr, hml, hown, hts, hlocks⟩ := id C0
  have hl : lv_has ls 4 [(0, .ref (za z (1 + 27 * b + (3 + f)))), (1, .ref (za z (1 + 27 * b + (3 + t)))), (2, .int x)] := hl
  refine lv_aload_n hx hb dX0_wanderMud_0 rfl (lv_at hl 0 rfl) ?_
  refine lv_iconst (v := 3) hx hb dX0_wanderMud_1 (by decide) ?_
  refine L_ldT C0 hK h hB hf (k := 3) rfl (by decide) dX0_wanderMud_2 ?_
  refine lv_if_gt (tgt := 7) hx hb dX0_wanderMud_3 (by decide) (fun c_3 => ?_) (fun c_3 => ?_)
  · refine lv_aload_n hx hb dX0_wanderMud_7 rfl (lv_at hl 0 rfl) ?_
    refine lv_iconst (v := 4) hx hb dX0_wanderMud_8 (by decide) ?_
    refine L_ldT C0 hK h hB hf (k := 4) rfl (by decide) dX0_wanderMud_9 ?_
    refine lv_iload_n hx hb dX0_wanderMud_10 rfl (lv_at hl 2 rfl) ?_
    refine lv_imul hx hb dX0_wanderMud_11 ?_
    refine lv_aload_n hx hb dX0_wanderMud_12 rfl (lv_at hl 0 rfl) ?_
    refine lv_iconst (v := 3) hx hb dX0_wanderMud_13 (by decide) ?_
    refine L_ldT C0 hK h hB hf (k := 3) rfl (by decide) dX0_wanderMud_14 ?_
    refine lv_idiv hx hb dX0_wanderMud_15 (fun q => absurd c_3 (by rw [q]; decide)) ?_
    refine lv_istore_n (lv' := [(3, .int (((qT S f 4) * x) / (qT S f 3))), (0, .ref (za z (1 + 27 * b + (3 + f)))), (1, .ref (za z (1 + 27 * b + (3 + t)))), (2, .int x)]) hx hb dX0_wanderMud_16 rfl hl (by decide) rfl (fun ls hl => ?_)
    refine lv_aload_n hx hb dX0_wanderMud_17 rfl (lv_at hl 1 rfl) ?_
    refine lv_iconst (v := 4) hx hb dX0_wanderMud_18 (by decide) ?_
    refine lv_dup2_11 hx hb dX0_wanderMud_19 rfl rfl ?_
    refine L_ldT C0 hK h hB hf (k := 4) rfl (by decide) dX0_wanderMud_20 ?_
    refine lv_iload_n hx hb dX0_wanderMud_21 rfl (lv_at hl 0 rfl) ?_
    refine lv_isub hx hb dX0_wanderMud_22 ?_
    refine L_stT C0 hK h hB hf (k := 4) rfl (by decide) dX0_wanderMud_23 (fun H locs S1 eS1 h => ?_)
    refine lv_aload_n hx hb dX0_wanderMud_24 rfl (lv_at hl 2 rfl) ?_
    refine lv_iload_n hx hb dX0_wanderMud_25 rfl (lv_at hl 0 rfl) ?_
    refine S_callSv C0 hK h (c_X0_takeInMud l z σ b hB S1 t ht (((qT S f 4) * x) / (qT S f 3))) (va_cwS 2 hts gX0_wanderMud_X0_takeInMud rfl rfl rfl (by decide +kernel) ⟨Nat.le_of_ble_eq_true rfl, Nat.le_of_ble_eq_true rfl⟩) rfl hl.1 (rest := []) rfl (Nat.le_of_ble_eq_true rfl) ⟨Nat.le_of_ble_eq_true rfl, Nat.le_of_ble_eq_true rfl⟩ dX0_wanderMud_26 (fun u H locs hp h => ?_)
    obtain ⟨S2, eS2⟩ : ∃ z9, z9 = sT S1 t (takeM (qT S1 t) (((qT S f 4) * x) / (qT S f 3))) := ⟨_, rfl⟩
    rw [← eS2] at hp
    subst hp
    exact G_vret C0 hK h (congrArg (va_up σ b) (by subst eS2 eS1; unfold wander; rw [if_pos c_3])) (Nat.le_of_ble_eq_true rfl) (Nat.le_of_ble_eq_true rfl) dX0_wanderMud_29
  · exact G_vret C0 hK h (congrArg (va_up σ b) (by unfold wander; rw [if_neg c_3])) (Nat.le_of_ble_eq_true rfl) (Nat.le_of_ble_eq_true rfl) dX0_wanderMud_6
end
section
set_option maxHeartbeats 4000000 in
set_option maxRecDepth 100000 in
theorem c_X0_whatCanFlow (l : Launch) (z : QZ) (σ : Nat → QLs) (b : Nat) (hB : b < 2) (S : QLs) (hk : LOk S) (k : Nat) (hkp : k < qp S) : GI l yX0_whatCanFlow wsX0_whatCanFlow ({ frames := 1, cells := 0, slots := 0, locals := 20 } : Room) z [.ref (za z (1 + 27 * b)), .int (nI k)] 0 0 (XAt z) 0 55 (va_up σ b S) (fun r σ' => r = canF S k ∧ σ' = va_up σ b S) := by
  intro ct sz hn hq hat
  refine q_entry (lo := 0) (cc := cX0_whatCanFlow) (maxL := 7) (ret := (some .int)) (by decide) rfl (Nat.le_of_ble_eq_true rfl) hn hq hat ?_
  intro p e s m below meth c ls C0 hK hsz h hl
  subst hsz
  obtain ⟨hx, hb, hr, hml, hown, hts, hlocks⟩ := id C0
  have hin0 : ∀ w ∈ u_ws RX0 TX0 5, w ∈ wsX0_whatCanFlow := by decide +kernel
  have hl : lv_has ls 7 [(0, .ref (za z (1 + 27 * b))), (1, .int (nI k))] := hl
  have hk1 := hk.1
  have hk2 := hk.2.1
  obtain ⟨hk3, hk4, hk5, hF0, hF1⟩ := hk.2.2 k hkp
  have hk6 : k < 14 := by omega
  have hk7 : qf S k < 10 := by omega
  have hk8 : qo S k < 10 := by omega
  refine lv_aload_n hx hb dX0_whatCanFlow_0 rfl (lv_at hl 0 rfl) ?_
  refine L_gL C0 hK h hB hin0 1 (by decide) (by decide +kernel) rfl dX0_whatCanFlow_1 ?_
  refine lv_iload_n hx hb dX0_whatCanFlow_4 rfl (lv_at hl 1 rfl) ?_
  refine X_aP C0 hK h hB (i := k) rfl (by omega) dX0_whatCanFlow_5 ?_
  refine lv_astore_n (lv' := [(2, .ref (za z (1 + 27 * b + (13 + k)))), (0, .ref (za z (1 + 27 * b))), (1, .int (nI k))]) hx hb dX0_whatCanFlow_6 rfl hl (by decide) rfl (fun ls hl => ?_)
  refine lv_aload_n hx hb dX0_whatCanFlow_7 rfl (lv_at hl 1 rfl) ?_
  refine L_gL C0 hK h hB hin0 0 (by decide) (by decide +kernel) rfl dX0_whatCanFlow_8 ?_
  refine lv_aload_n hx hb dX0_whatCanFlow_11 rfl (lv_at hl 0 rfl) ?_
  refine lv_iconst (v := 0) hx hb dX0_whatCanFlow_12 (by decide) ?_
  refine L_ldP C0 hK h hB (by omega) (k := 0) rfl (by decide) dX0_whatCanFlow_13 ?_
  refine X_aT C0 hK h hB (i := qf S k) hF0 (by omega) dX0_whatCanFlow_14 ?_
  refine lv_astore_n (lv' := [(3, .ref (za z (1 + 27 * b + (3 + (qf S k))))), (2, .ref (za z (1 + 27 * b + (13 + k)))), (0, .ref (za z (1 + 27 * b))), (1, .int (nI k))]) hx hb dX0_whatCanFlow_15 rfl hl (by decide) rfl (fun ls hl => ?_)
  refine lv_aload_n hx hb dX0_whatCanFlow_16 rfl (lv_at hl 0 rfl) ?_
  refine S_callSi C0 hK h (c_X0_head l z σ b hB S (qf S k) (by omega)) (va_cwS 1 hts gX0_whatCanFlow_X0_head rfl rfl rfl (by decide +kernel) ⟨Nat.le_of_ble_eq_true rfl, Nat.le_of_ble_eq_true rfl⟩) rfl hl.1 (rest := []) rfl (Nat.le_of_ble_eq_true rfl) ⟨Nat.le_of_ble_eq_true rfl, Nat.le_of_ble_eq_true rfl⟩ dX0_whatCanFlow_17 (fun r u H locs hp h => ?_)
  obtain ⟨rfl, rfl⟩ := hp
  refine lv_aload_n hx hb dX0_whatCanFlow_20 rfl (lv_at hl 2 rfl) ?_
  refine L_gL C0 hK h hB hin0 0 (by decide) (by decide +kernel) rfl dX0_whatCanFlow_21 ?_
  refine lv_aload_n hx hb dX0_whatCanFlow_24 rfl (lv_at hl 1 rfl) ?_
  refine lv_iconst (v := 1) hx hb dX0_whatCanFlow_25 (by decide) ?_
  refine L_ldP C0 hK h hB (by omega) (k := 1) rfl (by decide) dX0_whatCanFlow_26 ?_
  refine X_aT C0 hK h hB (i := qo S k) hF1 (by omega) dX0_whatCanFlow_27 ?_
  refine S_callSi C0 hK h (c_X0_head l z σ b hB S (qo S k) (by omega)) (va_cwS 1 hts gX0_whatCanFlow_X0_head rfl rfl rfl (by decide +kernel) ⟨Nat.le_of_ble_eq_true rfl, Nat.le_of_ble_eq_true rfl⟩) rfl hl.1 (rest := [.int (headR (qT S (qf S k)))]) rfl (Nat.le_of_ble_eq_true rfl) ⟨Nat.le_of_ble_eq_true rfl, Nat.le_of_ble_eq_true rfl⟩ dX0_whatCanFlow_28 (fun r u H locs hp h => ?_)
  obtain ⟨rfl, rfl⟩ := hp
  refine lv_isub hx hb dX0_whatCanFlow_31 ?_
  refine lv_istore (lv' := [(4, .int ((headR (qT S (qf S k))) - (headR (qT S (qo S k))))), (3, .ref (za z (1 + 27 * b + (3 + (qf S k))))), (2, .ref (za z (1 + 27 * b + (13 + k)))), (0, .ref (za z (1 + 27 * b))), (1, .int (nI k))]) hx hb dX0_whatCanFlow_32 hl (by decide) rfl (fun ls hl => ?_)
  refine lv_iload hx hb dX0_whatCanFlow_34 (lv_at hl 0 rfl) ?_
  refine lv_if_le (tgt := 47) hx hb dX0_whatCanFlow_36 (by decide) (fun c_36 => ?_) (fun c_36 => ?_)
  · refine lv_iconst (v := 0) hx hb dX0_whatCanFlow_47 (by decide) ?_
    exact G_iret C0 hK h ⟨by simp only [canF]; rw [if_pos c_36], rfl⟩ (Nat.le_of_ble_eq_true rfl) (Nat.le_of_ble_eq_true rfl) dX0_whatCanFlow_48
  · refine lv_iload hx hb dX0_whatCanFlow_39 (lv_at hl 0 rfl) ?_
    refine lv_aload_n hx hb dX0_whatCanFlow_41 rfl (lv_at hl 2 rfl) ?_
    refine lv_iconst (v := 3) hx hb dX0_whatCanFlow_42 (by decide) ?_
    refine L_ldP C0 hK h hB (by omega) (k := 3) rfl (by decide) dX0_whatCanFlow_43 ?_
    refine lv_icmp_ge (tgt := 49) hx hb dX0_whatCanFlow_44 (by decide) (fun c_44 => ?_) (fun c_44 => ?_)
    · refine lv_iconst (v := 0) hx hb dX0_whatCanFlow_49 (by decide) ?_
      refine lv_aload_n hx hb dX0_whatCanFlow_50 rfl (lv_at hl 2 rfl) ?_
      refine lv_iconst (v := 2) hx hb dX0_whatCanFlow_51 (by decide) ?_
      refine L_ldP C0 hK h hB (by omega) (k := 2) rfl (by decide) dX0_whatCanFlow_52 ?_
      refine lv_aload_n hx hb dX0_whatCanFlow_53 rfl (lv_at hl 2 rfl) ?_
      refine lv_iconst (v := 4) hx hb dX0_whatCanFlow_54 (by decide) ?_
      refine L_ldP C0 hK h hB (by omega) (k := 4) rfl (by decide) dX0_whatCanFlow_55 ?_
      refine lv_isub hx hb dX0_whatCanFlow_56 ?_
      refine G_mmax C0 hl.1 (by decide +kernel) (by decide +kernel) (by decide +kernel) (by decide +kernel) ⟨Nat.le_of_ble_eq_true rfl, Nat.le_of_ble_eq_true rfl, Nat.le_of_ble_eq_true rfl, Nat.le_of_ble_eq_true rfl⟩ dX0_whatCanFlow_57 ?_
      refine lv_istore (lv' := [(5, .int (qmax 0 ((qP S k 2) - (qP S k 4)))), (4, .int ((headR (qT S (qf S k))) - (headR (qT S (qo S k))))), (3, .ref (za z (1 + 27 * b + (3 + (qf S k))))), (2, .ref (za z (1 + 27 * b + (13 + k)))), (0, .ref (za z (1 + 27 * b))), (1, .int (nI k))]) hx hb dX0_whatCanFlow_60 hl (by decide) rfl (fun ls hl => ?_)
      refine lv_iload hx hb dX0_whatCanFlow_62 (lv_at hl 1 rfl) ?_
      refine lv_bipush (v := 10) hx hb dX0_whatCanFlow_64 (by decide) ?_
      refine lv_idiv hx hb dX0_whatCanFlow_66 (by decide) ?_
      refine lv_iconst (v := 1) hx hb dX0_whatCanFlow_67 (by decide) ?_
      refine lv_iadd hx hb dX0_whatCanFlow_68 ?_
      refine lv_istore (lv' := [(6, .int ((((headR (qT S (qf S k))) - (headR (qT S (qo S k)))) / 10) + 1)), (5, .int (qmax 0 ((qP S k 2) - (qP S k 4)))), (4, .int ((headR (qT S (qf S k))) - (headR (qT S (qo S k))))), (3, .ref (za z (1 + 27 * b + (3 + (qf S k))))), (2, .ref (za z (1 + 27 * b + (13 + k)))), (0, .ref (za z (1 + 27 * b))), (1, .int (nI k))]) hx hb dX0_whatCanFlow_69 hl (by decide) rfl (fun ls hl => ?_)
      refine lv_iload hx hb dX0_whatCanFlow_71 (lv_at hl 1 rfl) ?_
      refine lv_iload hx hb dX0_whatCanFlow_73 (lv_at hl 0 rfl) ?_
      refine G_mmin C0 hl.1 (by decide +kernel) (by decide +kernel) (by decide +kernel) (by decide +kernel) ⟨Nat.le_of_ble_eq_true rfl, Nat.le_of_ble_eq_true rfl, Nat.le_of_ble_eq_true rfl, Nat.le_of_ble_eq_true rfl⟩ dX0_whatCanFlow_75 ?_
      refine lv_aload_n hx hb dX0_whatCanFlow_78 rfl (lv_at hl 3 rfl) ?_
      refine lv_iconst (v := 3) hx hb dX0_whatCanFlow_79 (by decide) ?_
      refine L_ldT C0 hK h hB (by omega) (k := 3) rfl (by decide) dX0_whatCanFlow_80 ?_
      refine G_mmin C0 hl.1 (by decide +kernel) (by decide +kernel) (by decide +kernel) (by decide +kernel) ⟨Nat.le_of_ble_eq_true rfl, Nat.le_of_ble_eq_true rfl, Nat.le_of_ble_eq_true rfl, Nat.le_of_ble_eq_true rfl⟩ dX0_whatCanFlow_81 ?_
      exact G_iret C0 hK h ⟨by simp only [canF]; rw [if_neg c_36, if_pos c_44], rfl⟩ (Nat.le_of_ble_eq_true rfl) (Nat.le_of_ble_eq_true rfl) dX0_whatCanFlow_84
    · refine lv_iconst (v := 0) hx hb dX0_whatCanFlow_47 (by decide) ?_
      exact G_iret C0 hK h ⟨by simp only [canF]; rw [if_neg c_36, if_neg c_44], rfl⟩ (Nat.le_of_ble_eq_true rfl) (Nat.le_of_ble_eq_true rfl) dX0_whatCanFlow_48
set_option maxHeartbeats 4000000 in
set_option maxRecDepth 100000 in
theorem c_X0_ofPipe (l : Launch) (z : QZ) (σ : Nat → QLs) (b : Nat) (hB : b < 2) (S : QLs) (hk : LOk S) (k : Nat) (hkp : k < qp S) (n : Nat) (hn9 : n < 10) : GI l yX0_ofPipe wsX0_ofPipe ({ frames := 2, cells := 0, slots := 0, locals := 46 } : Room) z [.ref (za z (1 + 27 * b)), .int (nI k), .int (nI n)] 0 0 (XAt z) 0 55 (va_up σ b S) (fun r σ' => r = ofPipeL S k n ∧ σ' = va_up σ b S) := by
  intro ct sz hn hq hat
  refine q_entry (lo := 0) (cc := cX0_ofPipe) (maxL := 3) (ret := (some .int)) (by decide) rfl (Nat.le_of_ble_eq_true rfl) hn hq hat ?_
  intro p e s m below meth c ls C0 hK hsz h hl
  subst hsz
  obtain ⟨hx, hb, hr, hml, hown, hts, hlocks⟩ := id C0
  have hin0 : ∀ w ∈ u_ws RX0 TX0 5, w ∈ wsX0_ofPipe := by decide +kernel
  have hl : lv_has ls 3 [(0, .ref (za z (1 + 27 * b))), (1, .int (nI k)), (2, .int (nI n))] := hl
  have hk2 := hk.2.1
  have hk6 : k < 14 := by omega
  refine lv_iload_n hx hb dX0_ofPipe_0 rfl (lv_at hl 2 rfl) ?_
  refine lv_bipush (v := 8) hx hb dX0_ofPipe_1 (by decide) ?_
  refine lv_icmp_ne (tgt := 14) hx hb dX0_ofPipe_3 (by decide) (fun c_3 => ?_) (fun c_3 => ?_)
  · refine lv_aload_n hx hb dX0_ofPipe_14 rfl (lv_at hl 0 rfl) ?_
    refine L_gL C0 hK h hB hin0 1 (by decide) (by decide +kernel) rfl dX0_ofPipe_15 ?_
    refine lv_iload_n hx hb dX0_ofPipe_18 rfl (lv_at hl 1 rfl) ?_
    refine X_aP C0 hK h hB (i := k) rfl (by omega) dX0_ofPipe_19 ?_
    refine lv_iload_n hx hb dX0_ofPipe_20 rfl (lv_at hl 2 rfl) ?_
    refine L_ldP C0 hK h hB (by omega) (k := n) rfl (by omega) dX0_ofPipe_21 ?_
    exact G_iret C0 hK h ⟨by unfold ofPipeL; rw [if_neg (fun q => c_3 (by rw [q]; rfl))], rfl⟩ (Nat.le_of_ble_eq_true rfl) (Nat.le_of_ble_eq_true rfl) dX0_ofPipe_22
  · refine lv_aload_n hx hb dX0_ofPipe_6 rfl (lv_at hl 0 rfl) ?_
    refine lv_iload_n hx hb dX0_ofPipe_7 rfl (lv_at hl 1 rfl) ?_
    refine S_callVi C0 hK h (c_X0_whatCanFlow l z σ b hB S hk k hkp) (cwV 1 hts gX0_ofPipe_X0_whatCanFlow rfl rfl rfl (by decide +kernel) ⟨Nat.le_of_ble_eq_true rfl, Nat.le_of_ble_eq_true rfl⟩) (k := 1 + 27 * b) (ci := 0) (by omega) (fun ct hA => (hA.2 b hB).1) rfl rfl rfl hl.1 (rest := []) rfl (Nat.le_of_ble_eq_true rfl) ⟨Nat.le_of_ble_eq_true rfl, Nat.le_of_ble_eq_true rfl⟩ dX0_ofPipe_8 (fun r u H locs hp h => ?_)
    obtain ⟨rfl, rfl⟩ := hp
    refine lv_goto (tgt := 22) hx hb dX0_ofPipe_11 (by decide) ?_
    exact G_iret C0 hK h ⟨by unfold ofPipeL; rw [if_pos ((nI_eq (a := n) (b := 8) (by omega) (by decide)).mp c_3)], rfl⟩ (Nat.le_of_ble_eq_true rfl) (Nat.le_of_ble_eq_true rfl) dX0_ofPipe_22
set_option maxHeartbeats 4000000 in
set_option maxRecDepth 100000 in
theorem c_X0_sumOfTanks (l : Launch) (z : QZ) (σ : Nat → QLs) (b : Nat) (hB : b < 2) (S : QLs) (hk : LOk S) (k : Nat) (hk9 : k < 8) : GI l yX0_sumOfTanks wsX0_sumOfTanks ({ frames := 0, cells := 0, slots := 0, locals := 0 } : Room) z [.ref (za z (1 + 27 * b)), .int (nI k)] 0 0 (XAt z) 0 55 (va_up σ b S) (fun r σ' => r = sumT S k ∧ σ' = va_up σ b S) := by
  intro ct sz hn hq hat
  refine q_entry (lo := 0) (cc := cX0_sumOfTanks) (maxL := 4) (ret := (some .int)) (by decide) rfl (Nat.le_of_ble_eq_true rfl) hn hq hat ?_
  intro p e s m below meth c ls C0 hK hsz h hl
  subst hsz
  obtain ⟨hx, hb, hr, hml, hown, hts, hlocks⟩ := id C0
  have hin0 : ∀ w ∈ u_ws RX0 TX0 5, w ∈ wsX0_sumOfTanks := by decide +kernel
  have hl : lv_has ls 4 [(0, .ref (za z (1 + 27 * b))), (1, .int (nI k))] := hl
  have hk1 := hk.1
  have hk2 := hk.2.1
  have L4 : ∀ (d i : Nat), i + d = qt S → ∀ (H : Heap) (locs : List Loc) (ls : Array Slot), GW z (XAt z) 0 55 s.heap ct (va_up σ b S) H locs → lv_has ls 4 [(3, .int (nI i)), (2, .int (qsum (fun j => qT S j k) i)), (0, .ref (za z (1 + 27 * b))), (1, .int (nI k))] → W p l e ({ frames := 0, cells := 0, slots := 0, locals := 0 } : Room) s m [.ref (za z (1 + 27 * b)), .int (nI k)].toArray below meth c H locs 0 0 (EI z (XAt z) 0 55 ct s below [.ref (za z (1 + 27 * b)), .int (nI k)] 0 0 (fun r σ' => r = sumT S k ∧ σ' = va_up σ b S)) (F0 m 4 ls []) := by
    intro  d
    induction d with
    | zero =>
      intro i hdi H locs ls h hl
      have hEi : i = qt S := by omega
      refine lv_iload_n hx hb dX0_sumOfTanks_4 rfl (lv_at hl 0 rfl) ?_
      refine lv_aload_n hx hb dX0_sumOfTanks_5 rfl (lv_at hl 2 rfl) ?_
      refine L_gL C0 hK h hB hin0 2 (by decide) (by decide +kernel) rfl dX0_sumOfTanks_6 ?_
      refine lv_icmp_ge (tgt := 29) hx hb dX0_sumOfTanks_9 (by decide) (fun _ => ?_) (fun q9 => absurd (nI_le (by omega) (by omega)) q9)
      refine lv_iload_n hx hb dX0_sumOfTanks_29 rfl (lv_at hl 1 rfl) ?_
      exact G_iret C0 hK h ⟨by rw [hEi]; rfl, rfl⟩ (Nat.le_of_ble_eq_true rfl) (Nat.le_of_ble_eq_true rfl) dX0_sumOfTanks_30
    | succ d ihL4 =>
      intro i hdi H locs ls h hl
      have hEi : i < qt S := by omega
      refine lv_iload_n hx hb dX0_sumOfTanks_4 rfl (lv_at hl 0 rfl) ?_
      refine lv_aload_n hx hb dX0_sumOfTanks_5 rfl (lv_at hl 2 rfl) ?_
      refine L_gL C0 hK h hB hin0 2 (by decide) (by decide +kernel) rfl dX0_sumOfTanks_6 ?_
      refine lv_icmp_ge (tgt := 29) hx hb dX0_sumOfTanks_9 (by decide) (fun q9 => absurd q9 (nI_ge (by omega) (by omega))) (fun _ => ?_)
      refine lv_iload_n hx hb dX0_sumOfTanks_12 rfl (lv_at hl 1 rfl) ?_
      refine lv_aload_n hx hb dX0_sumOfTanks_13 rfl (lv_at hl 2 rfl) ?_
      refine L_gL C0 hK h hB hin0 0 (by decide) (by decide +kernel) rfl dX0_sumOfTanks_14 ?_
      refine lv_iload_n hx hb dX0_sumOfTanks_17 rfl (lv_at hl 0 rfl) ?_
      refine X_aT C0 hK h hB (i := i) rfl (by omega) dX0_sumOfTanks_18 ?_
      refine lv_iload_n hx hb dX0_sumOfTanks_19 rfl (lv_at hl 3 rfl) ?_
      refine L_ldT C0 hK h hB (by omega) (k := k) rfl (by omega) dX0_sumOfTanks_20 ?_
      refine lv_iadd hx hb dX0_sumOfTanks_21 ?_
      refine lv_istore_n (lv' := [(2, .int ((qsum (fun j => qT S j k) i) + (qT S i k))), (3, .int (nI i)), (0, .ref (za z (1 + 27 * b))), (1, .int (nI k))]) hx hb dX0_sumOfTanks_22 rfl hl (by decide) rfl (fun ls hl => ?_)
      refine lv_iinc (v := nI (i + 1)) (lv' := [(3, .int (nI (i + 1))), (2, .int ((qsum (fun j => qT S j k) i) + (qT S i k))), (0, .ref (za z (1 + 27 * b))), (1, .int (nI k))]) hx hb dX0_sumOfTanks_23 hl (k := 1) rfl (q_inc i 1) (by decide) rfl (fun ls hl => ?_)
      refine lv_goto (tgt := 4) hx hb dX0_sumOfTanks_26 (by decide) ?_
      exact ihL4 (i + 1) (by omega) _ _ _ h (lv_sub hl [0, 1, 2, 3] rfl)
  refine lv_iconst (v := 0) hx hb dX0_sumOfTanks_0 (by decide) ?_
  refine lv_istore_n (lv' := [(2, .int 0), (0, .ref (za z (1 + 27 * b))), (1, .int (nI k))]) hx hb dX0_sumOfTanks_1 rfl hl (by decide) rfl (fun ls hl => ?_)
  refine lv_iconst (v := 0) hx hb dX0_sumOfTanks_2 (by decide) ?_
  refine lv_istore_n (lv' := [(3, .int 0), (2, .int 0), (0, .ref (za z (1 + 27 * b))), (1, .int (nI k))]) hx hb dX0_sumOfTanks_3 rfl hl (by decide) rfl (fun ls hl => ?_)
  exact L4 (qt S) 0 (by omega) _ _ _ h (lv_sub hl [0, 1, 2, 3] rfl)
set_option maxHeartbeats 4000000 in
set_option maxRecDepth 100000 in
theorem c_X0_sumOfPipes (l : Launch) (z : QZ) (σ : Nat → QLs) (b : Nat) (hB : b < 2) (S : QLs) (hk : LOk S) (k : Nat) (hk9 : k < 10) : GI l yX0_sumOfPipes wsX0_sumOfPipes ({ frames := 0, cells := 0, slots := 0, locals := 0 } : Room) z [.ref (za z (1 + 27 * b)), .int (nI k)] 0 0 (XAt z) 0 55 (va_up σ b S) (fun r σ' => r = sumP S k ∧ σ' = va_up σ b S) := by
  intro ct sz hn hq hat
  refine q_entry (lo := 0) (cc := cX0_sumOfPipes) (maxL := 4) (ret := (some .int)) (by decide) rfl (Nat.le_of_ble_eq_true rfl) hn hq hat ?_
  intro p e s m below meth c ls C0 hK hsz h hl
  subst hsz
  obtain ⟨hx, hb, hr, hml, hown, hts, hlocks⟩ := id C0
  have hin0 : ∀ w ∈ u_ws RX0 TX0 5, w ∈ wsX0_sumOfPipes := by decide +kernel
  have hl : lv_has ls 4 [(0, .ref (za z (1 + 27 * b))), (1, .int (nI k))] := hl
  have hk1 := hk.1
  have hk2 := hk.2.1
  have L4 : ∀ (d i : Nat), i + d = qp S → ∀ (H : Heap) (locs : List Loc) (ls : Array Slot), GW z (XAt z) 0 55 s.heap ct (va_up σ b S) H locs → lv_has ls 4 [(3, .int (nI i)), (2, .int (qsum (fun j => qP S j k) i)), (0, .ref (za z (1 + 27 * b))), (1, .int (nI k))] → W p l e ({ frames := 0, cells := 0, slots := 0, locals := 0 } : Room) s m [.ref (za z (1 + 27 * b)), .int (nI k)].toArray below meth c H locs 0 0 (EI z (XAt z) 0 55 ct s below [.ref (za z (1 + 27 * b)), .int (nI k)] 0 0 (fun r σ' => r = sumP S k ∧ σ' = va_up σ b S)) (F0 m 4 ls []) := by
    intro  d
    induction d with
    | zero =>
      intro i hdi H locs ls h hl
      have hEi : i = qp S := by omega
      refine lv_iload_n hx hb dX0_sumOfPipes_4 rfl (lv_at hl 0 rfl) ?_
      refine lv_aload_n hx hb dX0_sumOfPipes_5 rfl (lv_at hl 2 rfl) ?_
      refine L_gL C0 hK h hB hin0 3 (by decide) (by decide +kernel) rfl dX0_sumOfPipes_6 ?_
      refine lv_icmp_ge (tgt := 29) hx hb dX0_sumOfPipes_9 (by decide) (fun _ => ?_) (fun q9 => absurd (nI_le (by omega) (by omega)) q9)
      refine lv_iload_n hx hb dX0_sumOfPipes_29 rfl (lv_at hl 1 rfl) ?_
      exact G_iret C0 hK h ⟨by rw [hEi]; rfl, rfl⟩ (Nat.le_of_ble_eq_true rfl) (Nat.le_of_ble_eq_true rfl) dX0_sumOfPipes_30
    | succ d ihL4 =>
      intro i hdi H locs ls h hl
      have hEi : i < qp S := by omega
      refine lv_iload_n hx hb dX0_sumOfPipes_4 rfl (lv_at hl 0 rfl) ?_
      refine lv_aload_n hx hb dX0_sumOfPipes_5 rfl (lv_at hl 2 rfl) ?_
      refine L_gL C0 hK h hB hin0 3 (by decide) (by decide +kernel) rfl dX0_sumOfPipes_6 ?_
      refine lv_icmp_ge (tgt := 29) hx hb dX0_sumOfPipes_9 (by decide) (fun q9 => absurd q9 (nI_ge (by omega) (by omega))) (fun _ => ?_)
      refine lv_iload_n hx hb dX0_sumOfPipes_12 rfl (lv_at hl 1 rfl) ?_
      refine lv_aload_n hx hb dX0_sumOfPipes_13 rfl (lv_at hl 2 rfl) ?_
      refine L_gL C0 hK h hB hin0 1 (by decide) (by decide +kernel) rfl dX0_sumOfPipes_14 ?_
      refine lv_iload_n hx hb dX0_sumOfPipes_17 rfl (lv_at hl 0 rfl) ?_
      refine X_aP C0 hK h hB (i := i) rfl (by omega) dX0_sumOfPipes_18 ?_
      refine lv_iload_n hx hb dX0_sumOfPipes_19 rfl (lv_at hl 3 rfl) ?_
      refine L_ldP C0 hK h hB (by omega) (k := k) rfl (by omega) dX0_sumOfPipes_20 ?_
      refine lv_iadd hx hb dX0_sumOfPipes_21 ?_
      refine lv_istore_n (lv' := [(2, .int ((qsum (fun j => qP S j k) i) + (qP S i k))), (3, .int (nI i)), (0, .ref (za z (1 + 27 * b))), (1, .int (nI k))]) hx hb dX0_sumOfPipes_22 rfl hl (by decide) rfl (fun ls hl => ?_)
      refine lv_iinc (v := nI (i + 1)) (lv' := [(3, .int (nI (i + 1))), (2, .int ((qsum (fun j => qP S j k) i) + (qP S i k))), (0, .ref (za z (1 + 27 * b))), (1, .int (nI k))]) hx hb dX0_sumOfPipes_23 hl (k := 1) rfl (q_inc i 1) (by decide) rfl (fun ls hl => ?_)
      refine lv_goto (tgt := 4) hx hb dX0_sumOfPipes_26 (by decide) ?_
      exact ihL4 (i + 1) (by omega) _ _ _ h (lv_sub hl [0, 1, 2, 3] rfl)
  refine lv_iconst (v := 0) hx hb dX0_sumOfPipes_0 (by decide) ?_
  refine lv_istore_n (lv' := [(2, .int 0), (0, .ref (za z (1 + 27 * b))), (1, .int (nI k))]) hx hb dX0_sumOfPipes_1 rfl hl (by decide) rfl (fun ls hl => ?_)
  refine lv_iconst (v := 0) hx hb dX0_sumOfPipes_2 (by decide) ?_
  refine lv_istore_n (lv' := [(3, .int 0), (2, .int 0), (0, .ref (za z (1 + 27 * b))), (1, .int (nI k))]) hx hb dX0_sumOfPipes_3 rfl hl (by decide) rfl (fun ls hl => ?_)
  exact L4 (qp S) 0 (by omega) _ _ _ h (lv_sub hl [0, 1, 2, 3] rfl)
set_option maxHeartbeats 4000000 in
set_option maxRecDepth 100000 in
theorem c_X0_isThirsty (l : Launch) (z : QZ) (σ : Nat → QLs) (b : Nat) (hB : b < 2) (S : QLs) (i : Nat) (hi : i < 10) : GI l yX0_isThirsty wsX0_isThirsty ({ frames := 0, cells := 0, slots := 0, locals := 0 } : Room) z [.ref (za z (1 + 27 * b)), .int (nI i)] 0 0 (XAt z) 0 55 (va_up σ b S) (fun r σ' => r = (if qT S i 5 < qT S i 2 then 1 else 0) ∧ σ' = va_up σ b S) := by
  intro ct sz hn hq hat
  refine q_entry (lo := 0) (cc := cX0_isThirsty) (maxL := 2) (ret := (some .boolean)) (by decide) rfl (Nat.le_of_ble_eq_true rfl) hn hq hat ?_
  intro p e s m below meth c ls C0 hK hsz h hl
  subst hsz
  obtain ⟨hx, hb, hr, hml, hown, hts, hlocks⟩ := id C0
  have hin0 : ∀ w ∈ u_ws RX0 TX0 5, w ∈ wsX0_isThirsty := by decide +kernel
  have hl : lv_has ls 2 [(0, .ref (za z (1 + 27 * b))), (1, .int (nI i))] := hl
  refine lv_aload_n hx hb dX0_isThirsty_0 rfl (lv_at hl 0 rfl) ?_
  refine L_gL C0 hK h hB hin0 0 (by decide) (by decide +kernel) rfl dX0_isThirsty_1 ?_
  refine lv_iload_n hx hb dX0_isThirsty_4 rfl (lv_at hl 1 rfl) ?_
  refine X_aT C0 hK h hB (i := i) rfl (by omega) dX0_isThirsty_5 ?_
  refine lv_iconst (v := 5) hx hb dX0_isThirsty_6 (by decide) ?_
  refine L_ldT C0 hK h hB (by omega) (k := 5) rfl (by decide) dX0_isThirsty_7 ?_
  refine lv_aload_n hx hb dX0_isThirsty_8 rfl (lv_at hl 0 rfl) ?_
  refine L_gL C0 hK h hB hin0 0 (by decide) (by decide +kernel) rfl dX0_isThirsty_9 ?_
  refine lv_iload_n hx hb dX0_isThirsty_12 rfl (lv_at hl 1 rfl) ?_
  refine X_aT C0 hK h hB (i := i) rfl (by omega) dX0_isThirsty_13 ?_
  refine lv_iconst (v := 2) hx hb dX0_isThirsty_14 (by decide) ?_
  refine L_ldT C0 hK h hB (by omega) (k := 2) rfl (by decide) dX0_isThirsty_15 ?_
  refine lv_icmp_ge (tgt := 23) hx hb dX0_isThirsty_16 (by decide) (fun c_16 => ?_) (fun c_16 => ?_)
  · refine lv_iconst (v := 0) hx hb dX0_isThirsty_23 (by decide) ?_
    exact G_zret C0 hK h ⟨by rw [if_neg (fun q => Int32.not_lt.mpr c_16 q)], rfl⟩ (by decide) (Nat.le_of_ble_eq_true rfl) (Nat.le_of_ble_eq_true rfl) dX0_isThirsty_24
  · refine lv_iconst (v := 1) hx hb dX0_isThirsty_19 (by decide) ?_
    refine lv_goto (tgt := 24) hx hb dX0_isThirsty_20 (by decide) ?_
    exact G_zret C0 hK h ⟨by rw [if_pos (Int32.not_le.mp c_16)], rfl⟩ (by decide) (Nat.le_of_ble_eq_true rfl) (Nat.le_of_ble_eq_true rfl) dX0_isThirsty_24
set_option maxHeartbeats 4000000 in
set_option maxRecDepth 100000 in
theorem c_X0_thirstyTanks (l : Launch) (z : QZ) (σ : Nat → QLs) (b : Nat) (hB : b < 2) (S : QLs) (hk : LOk S) : GI l yX0_thirstyTanks wsX0_thirstyTanks ({ frames := 1, cells := 0, slots := 0, locals := 21 } : Room) z [.ref (za z (1 + 27 * b))] 0 0 (XAt z) 0 55 (va_up σ b S) (fun r σ' => r = qthc S (qt S) ∧ σ' = va_up σ b S) := by
  intro ct sz hn hq hat
  refine q_entry (lo := 0) (cc := cX0_thirstyTanks) (maxL := 3) (ret := (some .int)) (by decide) rfl (Nat.le_of_ble_eq_true rfl) hn hq hat ?_
  intro p e s m below meth c ls C0 hK hsz h hl
  subst hsz
  obtain ⟨hx, hb, hr, hml, hown, hts, hlocks⟩ := id C0
  have hin0 : ∀ w ∈ u_ws RX0 TX0 5, w ∈ wsX0_thirstyTanks := by decide +kernel
  have hl : lv_has ls 3 [(0, .ref (za z (1 + 27 * b)))] := hl
  have hk1 := hk.1
  have L4 : ∀ (d i : Nat), i + d = qt S → ∀ (H : Heap) (locs : List Loc) (ls : Array Slot), GW z (XAt z) 0 55 s.heap ct (va_up σ b S) H locs → lv_has ls 3 [(2, .int (nI i)), (1, .int (qthc S i)), (0, .ref (za z (1 + 27 * b)))] → W p l e ({ frames := 1, cells := 0, slots := 0, locals := 21 } : Room) s m [.ref (za z (1 + 27 * b))].toArray below meth c H locs 0 0 (EI z (XAt z) 0 55 ct s below [.ref (za z (1 + 27 * b))] 0 0 (fun r σ' => r = qthc S (qt S) ∧ σ' = va_up σ b S)) (F0 m 4 ls []) := by
    intro  d
    induction d with
    | zero =>
      intro i hdi H locs ls h hl
      have hEi : i = qt S := by omega
      refine lv_iload_n hx hb dX0_thirstyTanks_4 rfl (lv_at hl 0 rfl) ?_
      refine lv_aload_n hx hb dX0_thirstyTanks_5 rfl (lv_at hl 2 rfl) ?_
      refine L_gL C0 hK h hB hin0 2 (by decide) (by decide +kernel) rfl dX0_thirstyTanks_6 ?_
      refine lv_icmp_ge (tgt := 29) hx hb dX0_thirstyTanks_9 (by decide) (fun _ => ?_) (fun q9 => absurd (nI_le (by omega) (by omega)) q9)
      refine lv_iload_n hx hb dX0_thirstyTanks_29 rfl (lv_at hl 1 rfl) ?_
      exact G_iret C0 hK h ⟨by rw [hEi], rfl⟩ (Nat.le_of_ble_eq_true rfl) (Nat.le_of_ble_eq_true rfl) dX0_thirstyTanks_30
    | succ d ihL4 =>
      intro i hdi H locs ls h hl
      have hEi : i < qt S := by omega
      refine lv_iload_n hx hb dX0_thirstyTanks_4 rfl (lv_at hl 0 rfl) ?_
      refine lv_aload_n hx hb dX0_thirstyTanks_5 rfl (lv_at hl 2 rfl) ?_
      refine L_gL C0 hK h hB hin0 2 (by decide) (by decide +kernel) rfl dX0_thirstyTanks_6 ?_
      refine lv_icmp_ge (tgt := 29) hx hb dX0_thirstyTanks_9 (by decide) (fun q9 => absurd q9 (nI_ge (by omega) (by omega))) (fun _ => ?_)
      refine lv_aload_n hx hb dX0_thirstyTanks_12 rfl (lv_at hl 2 rfl) ?_
      refine lv_iload_n hx hb dX0_thirstyTanks_13 rfl (lv_at hl 0 rfl) ?_
      refine S_callVi C0 hK h (c_X0_isThirsty l z σ b hB S i (by omega)) (cwV 1 hts gX0_thirstyTanks_X0_isThirsty rfl rfl rfl (by decide +kernel) ⟨Nat.le_of_ble_eq_true rfl, Nat.le_of_ble_eq_true rfl⟩) (k := 1 + 27 * b) (ci := 0) (by omega) (fun ct hA => (hA.2 b hB).1) rfl rfl rfl hl.1 (rest := []) rfl (Nat.le_of_ble_eq_true rfl) ⟨Nat.le_of_ble_eq_true rfl, Nat.le_of_ble_eq_true rfl⟩ dX0_thirstyTanks_14 (fun r u H locs hp h => ?_)
      rcases q_bool _ hp with ⟨hc1, rfl, rfl⟩ | ⟨hc1, rfl, rfl⟩
      · refine lv_if_eq (tgt := 23) hx hb dX0_thirstyTanks_17 (by decide) (fun q9 => absurd q9 (by decide)) (fun _ => ?_)
        refine lv_iinc (v := (qthc S i) + 1) (lv' := [(1, .int ((qthc S i) + 1)), (2, .int (nI i)), (0, .ref (za z (1 + 27 * b)))]) hx hb dX0_thirstyTanks_20 hl (k := 1) rfl rfl (by decide) rfl (fun ls hl => ?_)
        refine lv_iinc (v := nI (i + 1)) (lv' := [(2, .int (nI (i + 1))), (1, .int ((qthc S i) + 1)), (0, .ref (za z (1 + 27 * b)))]) hx hb dX0_thirstyTanks_23 hl (k := 1) rfl (q_inc i 1) (by decide) rfl (fun ls hl => ?_)
        refine lv_goto (tgt := 4) hx hb dX0_thirstyTanks_26 (by decide) ?_
        have e9 : qthc S (i + 1) = qthc S i + 1 := by simp only [qthc, if_pos hc1]
        rw [← e9] at hl
        exact ihL4 (i + 1) (by omega) _ _ _ h (lv_sub hl [0, 1, 2] rfl)
      · refine lv_if_eq (tgt := 23) hx hb dX0_thirstyTanks_17 (by decide) (fun _ => ?_) (fun q9 => absurd (by decide) q9)
        refine lv_iinc (v := nI (i + 1)) (lv' := [(2, .int (nI (i + 1))), (1, .int (qthc S i)), (0, .ref (za z (1 + 27 * b)))]) hx hb dX0_thirstyTanks_23 hl (k := 0) rfl (q_inc i 1) (by decide) rfl (fun ls hl => ?_)
        refine lv_goto (tgt := 4) hx hb dX0_thirstyTanks_26 (by decide) ?_
        have e9 : qthc S (i + 1) = qthc S i := by simp only [qthc, if_neg hc1]
        rw [← e9] at hl
        exact ihL4 (i + 1) (by omega) _ _ _ h (lv_sub hl [0, 1, 2] rfl)
  refine lv_iconst (v := 0) hx hb dX0_thirstyTanks_0 (by decide) ?_
  refine lv_istore_n (lv' := [(1, .int 0), (0, .ref (za z (1 + 27 * b)))]) hx hb dX0_thirstyTanks_1 rfl hl (by decide) rfl (fun ls hl => ?_)
  refine lv_iconst (v := 0) hx hb dX0_thirstyTanks_2 (by decide) ?_
  refine lv_istore_n (lv' := [(2, .int 0), (1, .int 0), (0, .ref (za z (1 + 27 * b)))]) hx hb dX0_thirstyTanks_3 rfl hl (by decide) rfl (fun ls hl => ?_)
  exact L4 (qt S) 0 (by omega) _ _ _ h (lv_sub hl [0, 1, 2] rfl)
set_option maxHeartbeats 4000000 in
set_option maxRecDepth 100000 in
theorem c_X0_growCrusts (l : Launch) (z : QZ) (σ : Nat → QLs) (b : Nat) (hB : b < 2) (S : QLs) (hk : LOk S) : GV l yX0_growCrusts wsX0_growCrusts ({ frames := 1, cells := 0, slots := 0, locals := 15 } : Room) z [.ref (za z (1 + 27 * b))] 0 0 (XAt z) 0 55 (va_up σ b S) (fun σ' => σ' = va_up σ b (crustAll S)) := by
  intro ct sz hn hq hat
  refine q_entry (lo := 0) (cc := cX0_growCrusts) (maxL := 3) (ret := none) (by decide) rfl (Nat.le_of_ble_eq_true rfl) hn hq hat ?_
  intro p e s m below meth c ls C0 hK hsz h hl
  subst hsz
  obtain ⟨hx, hb, hr, hml, hown, hts, hlocks⟩ := id C0
  have hin0 : ∀ w ∈ u_ws RX0 TX0 5, w ∈ wsX0_growCrusts := by decide +kernel
  have hl : lv_has ls 3 [(0, .ref (za z (1 + 27 * b)))] := hl
  have hk2 := hk.2.1
  have L2 : ∀ (d i : Nat), i + d = qp S → ∀ (H : Heap) (locs : List Loc) (ls : Array Slot), GW z (XAt z) 0 55 s.heap ct (va_up σ b (itN crustF i S)) H locs → lv_has ls 3 [(1, .int (nI i)), (0, .ref (za z (1 + 27 * b)))] → W p l e ({ frames := 1, cells := 0, slots := 0, locals := 15 } : Room) s m [.ref (za z (1 + 27 * b))].toArray below meth c H locs 0 0 (EV z (XAt z) 0 55 ct s below [.ref (za z (1 + 27 * b))] 0 0 (fun σ' => σ' = va_up σ b (crustAll S))) (F0 m 2 ls []) := by
    intro  d
    induction d with
    | zero =>
      intro i hdi H locs ls h hl
      have hEi : i = qp S := by omega
      obtain ⟨S1, eS1⟩ : ∃ z9, z9 = itN crustF i S := ⟨_, rfl⟩
      rw [← eS1] at h
      have hs9 : Shp S S1 := by rw [eS1]; exact shp_it (fun _ _ => shp_crust) S i
      have hs1 := hs9.2.1
      refine lv_iload_n hx hb dX0_growCrusts_2 rfl (lv_at hl 0 rfl) ?_
      refine lv_aload_n hx hb dX0_growCrusts_3 rfl (lv_at hl 1 rfl) ?_
      refine L_gL C0 hK h hB hin0 3 (by decide) (by decide +kernel) rfl dX0_growCrusts_4 ?_
      refine lv_icmp_ge (tgt := 42) hx hb dX0_growCrusts_7 (by decide) (fun _ => ?_) (fun q9 => absurd (nI_le (by omega) (by omega)) q9)
      exact G_vret C0 hK h (congrArg (va_up σ b) (by rw [eS1, hEi]; rfl)) (Nat.le_of_ble_eq_true rfl) (Nat.le_of_ble_eq_true rfl) dX0_growCrusts_42
    | succ d ihL2 =>
      intro i hdi H locs ls h hl
      have hEi : i < qp S := by omega
      obtain ⟨S2, eS2⟩ : ∃ z9, z9 = itN crustF i S := ⟨_, rfl⟩
      rw [← eS2] at h
      have hs9 : Shp S S2 := by rw [eS2]; exact shp_it (fun _ _ => shp_crust) S i
      have hs1 := hs9.2.1
      refine lv_iload_n hx hb dX0_growCrusts_2 rfl (lv_at hl 0 rfl) ?_
      refine lv_aload_n hx hb dX0_growCrusts_3 rfl (lv_at hl 1 rfl) ?_
      refine L_gL C0 hK h hB hin0 3 (by decide) (by decide +kernel) rfl dX0_growCrusts_4 ?_
      refine lv_icmp_ge (tgt := 42) hx hb dX0_growCrusts_7 (by decide) (fun q9 => absurd q9 (nI_ge (by omega) (by omega))) (fun _ => ?_)
      refine lv_aload_n hx hb dX0_growCrusts_10 rfl (lv_at hl 1 rfl) ?_
      refine L_gL C0 hK h hB hin0 1 (by decide) (by decide +kernel) rfl dX0_growCrusts_11 ?_
      refine lv_iload_n hx hb dX0_growCrusts_14 rfl (lv_at hl 0 rfl) ?_
      refine X_aP C0 hK h hB (i := i) rfl (by omega) dX0_growCrusts_15 ?_
      refine lv_astore_n (lv' := [(2, .ref (za z (1 + 27 * b + (13 + i)))), (1, .int (nI i)), (0, .ref (za z (1 + 27 * b)))]) hx hb dX0_growCrusts_16 rfl hl (by decide) rfl (fun ls hl => ?_)
      refine lv_aload_n hx hb dX0_growCrusts_17 rfl (lv_at hl 0 rfl) ?_
      refine lv_iconst (v := 5) hx hb dX0_growCrusts_18 (by decide) ?_
      refine L_ldP C0 hK h hB (by omega) (k := 5) rfl (by decide) dX0_growCrusts_19 ?_
      refine lv_if_le (tgt := 36) hx hb dX0_growCrusts_20 (by decide) (fun c_20 => ?_) (fun c_20 => ?_)
      · refine lv_iinc (v := nI (i + 1)) (lv' := [(1, .int (nI (i + 1))), (2, .ref (za z (1 + 27 * b + (13 + i)))), (0, .ref (za z (1 + 27 * b)))]) hx hb dX0_growCrusts_36 hl (k := 1) rfl (q_inc i 1) (by decide) rfl (fun ls hl => ?_)
        refine lv_goto (tgt := 2) hx hb dX0_growCrusts_39 (by decide) ?_
        exact ihL2 (i + 1) (by omega) _ _ _ (by subst eS2; have e9 : itN crustF (i + 1) S = crustL (itN crustF i S) i := rfl; rw [e9]; unfold crustL; rw [if_pos c_20]; exact h) (lv_sub hl [0, 2] rfl)
      · refine lv_aload_n hx hb dX0_growCrusts_23 rfl (lv_at hl 0 rfl) ?_
        refine lv_iconst (v := 4) hx hb dX0_growCrusts_24 (by decide) ?_
        refine lv_bipush (v := 20) hx hb dX0_growCrusts_25 (by decide) ?_
        refine lv_aload_n hx hb dX0_growCrusts_27 rfl (lv_at hl 0 rfl) ?_
        refine lv_iconst (v := 4) hx hb dX0_growCrusts_28 (by decide) ?_
        refine L_ldP C0 hK h hB (by omega) (k := 4) rfl (by decide) dX0_growCrusts_29 ?_
        refine lv_iconst (v := 1) hx hb dX0_growCrusts_30 (by decide) ?_
        refine lv_iadd hx hb dX0_growCrusts_31 ?_
        refine G_mmin C0 hl.1 (by decide +kernel) (by decide +kernel) (by decide +kernel) (by decide +kernel) ⟨Nat.le_of_ble_eq_true rfl, Nat.le_of_ble_eq_true rfl, Nat.le_of_ble_eq_true rfl, Nat.le_of_ble_eq_true rfl⟩ dX0_growCrusts_32 ?_
        refine L_stP C0 hK h hB (by omega) (k := 4) rfl (by decide) dX0_growCrusts_35 (fun H locs S3 eS3 h => ?_)
        refine lv_iinc (v := nI (i + 1)) (lv' := [(1, .int (nI (i + 1))), (2, .ref (za z (1 + 27 * b + (13 + i)))), (0, .ref (za z (1 + 27 * b)))]) hx hb dX0_growCrusts_36 hl (k := 1) rfl (q_inc i 1) (by decide) rfl (fun ls hl => ?_)
        refine lv_goto (tgt := 2) hx hb dX0_growCrusts_39 (by decide) ?_
        exact ihL2 (i + 1) (by omega) _ _ _ (by subst eS3; subst eS2; have e9 : itN crustF (i + 1) S = crustL (itN crustF i S) i := rfl; rw [e9]; unfold crustL; rw [if_neg c_20]; exact h) (lv_sub hl [0, 2] rfl)
  refine lv_iconst (v := 0) hx hb dX0_growCrusts_0 (by decide) ?_
  refine lv_istore_n (lv' := [(1, .int 0), (0, .ref (za z (1 + 27 * b)))]) hx hb dX0_growCrusts_1 rfl hl (by decide) rfl (fun ls hl => ?_)
  exact L2 (qp S) 0 (by omega) _ _ _ h (lv_sub hl [0, 1] rfl)
end
section
set_option maxHeartbeats 4000000 in
set_option maxRecDepth 100000 in
theorem c_X0_flowThrough (l : Launch) (z : QZ) (σ : Nat → QLs) (b : Nat) (hB : b < 2) (S : QLs) (hk : LOk S) (k : Nat) (hkp : k < qp S) : GV l yX0_flowThrough wsX0_flowThrough ({ frames := 3, cells := 0, slots := 0, locals := 59 } : Room) z [.ref (za z (1 + 27 * b)), .int (nI k)] 0 0 (XAt z) 0 55 (va_up σ b S) (fun σ' => σ' = va_up σ b (flowL S k)) := by
  intro ct sz hn hq hat
  refine q_entry (lo := 0) (cc := cX0_flowThrough) (maxL := 7) (ret := none) (by decide) rfl (Nat.le_of_ble_eq_true rfl) hn hq hat ?_
  intro p e s m below meth c ls C0 hK hsz h hl
  subst hsz
  obtain ⟨hx, hb, hr, hml, hown, hts, hlocks⟩ := id C0
  have hin0 : ∀ w ∈ u_ws RX0 TX0 5, w ∈ wsX0_flowThrough := by decide +kernel
  have hl : lv_has ls 7 [(0, .ref (za z (1 + 27 * b))), (1, .int (nI k))] := hl
  have hk1 := hk.1
  have hk2 := hk.2.1
  obtain ⟨hk3, hk4, hk5, hF0, hF1⟩ := hk.2.2 k hkp
  have hk6 : k < 14 := by omega
  have hk7 : qf S k < 10 := by omega
  have hk8 : qo S k < 10 := by omega
  refine lv_aload_n hx hb dX0_flowThrough_0 rfl (lv_at hl 0 rfl) ?_
  refine L_gL C0 hK h hB hin0 1 (by decide) (by decide +kernel) rfl dX0_flowThrough_1 ?_
  refine lv_iload_n hx hb dX0_flowThrough_4 rfl (lv_at hl 1 rfl) ?_
  refine X_aP C0 hK h hB (i := k) rfl (by omega) dX0_flowThrough_5 ?_
  refine lv_astore_n (lv' := [(2, .ref (za z (1 + 27 * b + (13 + k)))), (0, .ref (za z (1 + 27 * b))), (1, .int (nI k))]) hx hb dX0_flowThrough_6 rfl hl (by decide) rfl (fun ls hl => ?_)
  refine lv_aload_n hx hb dX0_flowThrough_7 rfl (lv_at hl 1 rfl) ?_
  refine L_gL C0 hK h hB hin0 0 (by decide) (by decide +kernel) rfl dX0_flowThrough_8 ?_
  refine lv_aload_n hx hb dX0_flowThrough_11 rfl (lv_at hl 0 rfl) ?_
  refine lv_iconst (v := 0) hx hb dX0_flowThrough_12 (by decide) ?_
  refine L_ldP C0 hK h hB (by omega) (k := 0) rfl (by decide) dX0_flowThrough_13 ?_
  refine X_aT C0 hK h hB (i := qf S k) hF0 (by omega) dX0_flowThrough_14 ?_
  refine lv_astore_n (lv' := [(3, .ref (za z (1 + 27 * b + (3 + (qf S k))))), (2, .ref (za z (1 + 27 * b + (13 + k)))), (0, .ref (za z (1 + 27 * b))), (1, .int (nI k))]) hx hb dX0_flowThrough_15 rfl hl (by decide) rfl (fun ls hl => ?_)
  refine lv_aload_n hx hb dX0_flowThrough_16 rfl (lv_at hl 2 rfl) ?_
  refine L_gL C0 hK h hB hin0 0 (by decide) (by decide +kernel) rfl dX0_flowThrough_17 ?_
  refine lv_aload_n hx hb dX0_flowThrough_20 rfl (lv_at hl 1 rfl) ?_
  refine lv_iconst (v := 1) hx hb dX0_flowThrough_21 (by decide) ?_
  refine L_ldP C0 hK h hB (by omega) (k := 1) rfl (by decide) dX0_flowThrough_22 ?_
  refine X_aT C0 hK h hB (i := qo S k) hF1 (by omega) dX0_flowThrough_23 ?_
  refine lv_astore (lv' := [(4, .ref (za z (1 + 27 * b + (3 + (qo S k))))), (3, .ref (za z (1 + 27 * b + (3 + (qf S k))))), (2, .ref (za z (1 + 27 * b + (13 + k)))), (0, .ref (za z (1 + 27 * b))), (1, .int (nI k))]) hx hb dX0_flowThrough_24 hl (by decide) rfl (fun ls hl => ?_)
  refine lv_aload_n hx hb dX0_flowThrough_26 rfl (lv_at hl 3 rfl) ?_
  refine lv_iload_n hx hb dX0_flowThrough_27 rfl (lv_at hl 4 rfl) ?_
  refine S_callVi C0 hK h (c_X0_whatCanFlow l z σ b hB S hk k hkp) (cwV 1 hts gX0_flowThrough_X0_whatCanFlow rfl rfl rfl (by decide +kernel) ⟨Nat.le_of_ble_eq_true rfl, Nat.le_of_ble_eq_true rfl⟩) (k := 1 + 27 * b) (ci := 0) (by omega) (fun ct hA => (hA.2 b hB).1) rfl rfl rfl hl.1 (rest := []) rfl (Nat.le_of_ble_eq_true rfl) ⟨Nat.le_of_ble_eq_true rfl, Nat.le_of_ble_eq_true rfl⟩ dX0_flowThrough_28 (fun r u H locs hp h => ?_)
  obtain ⟨rfl, rfl⟩ := hp
  refine lv_istore (lv' := [(5, .int (canF S k)), (4, .ref (za z (1 + 27 * b + (3 + (qo S k))))), (3, .ref (za z (1 + 27 * b + (3 + (qf S k))))), (2, .ref (za z (1 + 27 * b + (13 + k)))), (0, .ref (za z (1 + 27 * b))), (1, .int (nI k))]) hx hb dX0_flowThrough_31 hl (by decide) rfl (fun ls hl => ?_)
  refine lv_aload_n hx hb dX0_flowThrough_33 rfl (lv_at hl 3 rfl) ?_
  refine lv_bipush (v := 9) hx hb dX0_flowThrough_34 (by decide) ?_
  refine L_ldP C0 hK h hB (by omega) (k := 9) rfl (by decide) dX0_flowThrough_36 ?_
  refine lv_iload hx hb dX0_flowThrough_37 (lv_at hl 0 rfl) ?_
  refine G_mmin C0 hl.1 (by decide +kernel) (by decide +kernel) (by decide +kernel) (by decide +kernel) ⟨Nat.le_of_ble_eq_true rfl, Nat.le_of_ble_eq_true rfl, Nat.le_of_ble_eq_true rfl, Nat.le_of_ble_eq_true rfl⟩ dX0_flowThrough_39 ?_
  refine lv_istore (lv' := [(6, .int (qmin (qP S k 9) (canF S k))), (5, .int (canF S k)), (4, .ref (za z (1 + 27 * b + (3 + (qo S k))))), (3, .ref (za z (1 + 27 * b + (3 + (qf S k))))), (2, .ref (za z (1 + 27 * b + (13 + k)))), (0, .ref (za z (1 + 27 * b))), (1, .int (nI k))]) hx hb dX0_flowThrough_42 hl (by decide) rfl (fun ls hl => ?_)
  refine lv_aload_n hx hb dX0_flowThrough_44 rfl (lv_at hl 3 rfl) ?_
  refine lv_aload hx hb dX0_flowThrough_45 (lv_at hl 2 rfl) ?_
  refine lv_iload hx hb dX0_flowThrough_47 (lv_at hl 1 rfl) ?_
  refine S_callSv C0 hK h (c_X0_wanderMud l z σ b hB S (qf S k) (by omega) (qo S k) (by omega) (canF S k)) (va_cwS 3 hts gX0_flowThrough_X0_wanderMud rfl rfl rfl (by decide +kernel) ⟨Nat.le_of_ble_eq_true rfl, Nat.le_of_ble_eq_true rfl⟩) rfl hl.1 (rest := []) rfl (Nat.le_of_ble_eq_true rfl) ⟨Nat.le_of_ble_eq_true rfl, Nat.le_of_ble_eq_true rfl⟩ dX0_flowThrough_49 (fun u H locs hp h => ?_)
  obtain ⟨S1, eS1⟩ : ∃ z9, z9 = wander S (qf S k) (qo S k) (canF S k) := ⟨_, rfl⟩
  rw [← eS1] at hp
  subst hp
  refine lv_aload_n hx hb dX0_flowThrough_52 rfl (lv_at hl 3 rfl) ?_
  refine lv_iconst (v := 3) hx hb dX0_flowThrough_53 (by decide) ?_
  refine lv_dup2_11 hx hb dX0_flowThrough_54 rfl rfl ?_
  refine L_ldT C0 hK h hB (by omega) (k := 3) rfl (by decide) dX0_flowThrough_55 ?_
  refine lv_iload hx hb dX0_flowThrough_56 (lv_at hl 1 rfl) ?_
  refine lv_isub hx hb dX0_flowThrough_58 ?_
  refine L_stT C0 hK h hB (by omega) (k := 3) rfl (by decide) dX0_flowThrough_59 (fun H locs S2 eS2 h => ?_)
  refine lv_aload hx hb dX0_flowThrough_60 (lv_at hl 2 rfl) ?_
  refine lv_iload hx hb dX0_flowThrough_62 (lv_at hl 1 rfl) ?_
  refine lv_iload hx hb dX0_flowThrough_64 (lv_at hl 0 rfl) ?_
  refine lv_isub hx hb dX0_flowThrough_66 ?_
  refine S_callSv C0 hK h (c_X0_takeInWater l z σ b hB S2 (qo S k) (by omega) ((canF S k) - (qmin (qP S k 9) (canF S k)))) (va_cwS 2 hts gX0_flowThrough_X0_takeInWater rfl rfl rfl (by decide +kernel) ⟨Nat.le_of_ble_eq_true rfl, Nat.le_of_ble_eq_true rfl⟩) rfl hl.1 (rest := []) rfl (Nat.le_of_ble_eq_true rfl) ⟨Nat.le_of_ble_eq_true rfl, Nat.le_of_ble_eq_true rfl⟩ dX0_flowThrough_67 (fun u H locs hp h => ?_)
  obtain ⟨S3, eS3⟩ : ∃ z9, z9 = sT S2 (qo S k) (takeW (qT S2 (qo S k)) ((canF S k) - (qmin (qP S k 9) (canF S k)))) := ⟨_, rfl⟩
  rw [← eS3] at hp
  subst hp
  refine lv_aload_n hx hb dX0_flowThrough_70 rfl (lv_at hl 4 rfl) ?_
  refine lv_iconst (v := 5) hx hb dX0_flowThrough_71 (by decide) ?_
  refine lv_iload hx hb dX0_flowThrough_72 (lv_at hl 1 rfl) ?_
  refine L_stP C0 hK h hB (by omega) (k := 5) rfl (by decide) dX0_flowThrough_74 (fun H locs S4 eS4 h => ?_)
  refine lv_aload_n hx hb dX0_flowThrough_75 rfl (lv_at hl 4 rfl) ?_
  refine lv_bipush (v := 6) hx hb dX0_flowThrough_76 (by decide) ?_
  refine lv_iload hx hb dX0_flowThrough_78 (lv_at hl 0 rfl) ?_
  refine L_stP C0 hK h hB (by omega) (k := 6) rfl (by decide) dX0_flowThrough_80 (fun H locs S5 eS5 h => ?_)
  refine lv_aload_n hx hb dX0_flowThrough_81 rfl (lv_at hl 4 rfl) ?_
  refine lv_bipush (v := 7) hx hb dX0_flowThrough_82 (by decide) ?_
  refine lv_dup2_11 hx hb dX0_flowThrough_84 rfl rfl ?_
  refine L_ldP C0 hK h hB (by omega) (k := 7) rfl (by decide) dX0_flowThrough_85 ?_
  refine lv_iload hx hb dX0_flowThrough_86 (lv_at hl 0 rfl) ?_
  refine lv_iadd hx hb dX0_flowThrough_88 ?_
  refine L_stP C0 hK h hB (by omega) (k := 7) rfl (by decide) dX0_flowThrough_89 (fun H locs S6 eS6 h => ?_)
  exact G_vret C0 hK h (congrArg (va_up σ b) (by subst eS6 eS5 eS4 eS3 eS2 eS1; rfl)) (Nat.le_of_ble_eq_true rfl) (Nat.le_of_ble_eq_true rfl) dX0_flowThrough_90
set_option maxHeartbeats 4000000 in
set_option maxRecDepth 100000 in
theorem c_X0_goThroughDay (l : Launch) (z : QZ) (σ : Nat → QLs) (b : Nat) (hB : b < 2) (S : QLs) (hk : LOk S) : GV l yX0_goThroughDay wsX0_goThroughDay ({ frames := 4, cells := 0, slots := 0, locals := 85 } : Room) z [.ref (za z (1 + 27 * b))] 0 0 (XAt z) 0 55 (va_up σ b S) (fun σ' => σ' = va_up σ b (dayL S)) := by
  intro ct sz hn hq hat
  refine q_entry (lo := 0) (cc := cX0_goThroughDay) (maxL := 2) (ret := none) (by decide) rfl (Nat.le_of_ble_eq_true rfl) hn hq hat ?_
  intro p e s m below meth c ls C0 hK hsz h hl
  subst hsz
  obtain ⟨hx, hb, hr, hml, hown, hts, hlocks⟩ := id C0
  have hin0 : ∀ w ∈ u_ws RX0 TX0 5, w ∈ wsX0_goThroughDay := by decide +kernel
  have hl : lv_has ls 2 [(0, .ref (za z (1 + 27 * b)))] := hl
  have hk1 := hk.1
  have hk2 := hk.2.1
  have L61 : ∀ (Sb : QLs) (hkb : LOk Sb) (hq9 : sD (itN drinkF (qt Sb) Sb) (qD (itN drinkF (qt Sb) Sb) + 1) = dayL S) (d i : Nat), i + d = qt Sb → ∀ (H : Heap) (locs : List Loc) (ls : Array Slot), GW z (XAt z) 0 55 s.heap ct (va_up σ b (itN drinkF i Sb)) H locs → lv_has ls 2 [(1, .int (nI i)), (0, .ref (za z (1 + 27 * b)))] → W p l e ({ frames := 4, cells := 0, slots := 0, locals := 85 } : Room) s m [.ref (za z (1 + 27 * b))].toArray below meth c H locs 0 0 (EV z (XAt z) 0 55 ct s below [.ref (za z (1 + 27 * b))] 0 0 (fun σ' => σ' = va_up σ b (dayL S))) (F0 m 61 ls []) := by
    intro Sb hkb hq9 d
    induction d with
    | zero =>
      intro i hdi H locs ls h hl
      have hEi : i = qt Sb := by omega
      have hkc := hkb.1
      obtain ⟨S1, eS1⟩ : ∃ z9, z9 = itN drinkF i Sb := ⟨_, rfl⟩
      rw [← eS1] at h
      have hs9 : Shp Sb S1 := by rw [eS1]; exact shp_it (f := drinkF) (fun _ _ => shp_sT) Sb i
      have hs1 := hs9.1
      have hs2 := hs9.2.1
      have hk9 := hs9.ok hkb
      refine lv_iload_n hx hb dX0_goThroughDay_61 rfl (lv_at hl 0 rfl) ?_
      refine lv_aload_n hx hb dX0_goThroughDay_62 rfl (lv_at hl 1 rfl) ?_
      refine L_gL C0 hK h hB hin0 2 (by decide) (by decide +kernel) rfl dX0_goThroughDay_63 ?_
      refine lv_icmp_ge (tgt := 84) hx hb dX0_goThroughDay_66 (by decide) (fun _ => ?_) (fun q9 => absurd (nI_le (by omega) (by omega)) q9)
      refine lv_aload_n hx hb dX0_goThroughDay_84 rfl (lv_at hl 1 rfl) ?_
      refine lv_dup hx hb dX0_goThroughDay_85 rfl ?_
      refine L_gL C0 hK h hB hin0 4 (by decide) (by decide +kernel) rfl dX0_goThroughDay_86 ?_
      refine lv_iconst (v := 1) hx hb dX0_goThroughDay_89 (by decide) ?_
      refine lv_iadd hx hb dX0_goThroughDay_90 ?_
      refine L_pd C0 hK h hB hin0 (by decide +kernel) dX0_goThroughDay_91 (fun H locs S2 eS2 h => ?_)
      exact G_vret C0 hK h (congrArg (va_up σ b) (by subst eS2; rw [← hq9, eS1, hEi])) (Nat.le_of_ble_eq_true rfl) (Nat.le_of_ble_eq_true rfl) dX0_goThroughDay_94
    | succ d ihL61 =>
      intro i hdi H locs ls h hl
      have hEi : i < qt Sb := by omega
      have hkc := hkb.1
      obtain ⟨S3, eS3⟩ : ∃ z9, z9 = itN drinkF i Sb := ⟨_, rfl⟩
      rw [← eS3] at h
      have hs9 : Shp Sb S3 := by rw [eS3]; exact shp_it (f := drinkF) (fun _ _ => shp_sT) Sb i
      have hs1 := hs9.1
      have hs2 := hs9.2.1
      have hk9 := hs9.ok hkb
      refine lv_iload_n hx hb dX0_goThroughDay_61 rfl (lv_at hl 0 rfl) ?_
      refine lv_aload_n hx hb dX0_goThroughDay_62 rfl (lv_at hl 1 rfl) ?_
      refine L_gL C0 hK h hB hin0 2 (by decide) (by decide +kernel) rfl dX0_goThroughDay_63 ?_
      refine lv_icmp_ge (tgt := 84) hx hb dX0_goThroughDay_66 (by decide) (fun q9 => absurd q9 (nI_ge (by omega) (by omega))) (fun _ => ?_)
      refine lv_aload_n hx hb dX0_goThroughDay_69 rfl (lv_at hl 1 rfl) ?_
      refine L_gL C0 hK h hB hin0 0 (by decide) (by decide +kernel) rfl dX0_goThroughDay_70 ?_
      refine lv_iload_n hx hb dX0_goThroughDay_73 rfl (lv_at hl 0 rfl) ?_
      refine X_aT C0 hK h hB (i := i) rfl (by omega) dX0_goThroughDay_74 ?_
      refine S_callSv C0 hK h (c_X0_drinkFrom l z σ b hB S3 i (by omega)) (va_cwS 1 hts gX0_goThroughDay_X0_drinkFrom rfl rfl rfl (by decide +kernel) ⟨Nat.le_of_ble_eq_true rfl, Nat.le_of_ble_eq_true rfl⟩) rfl hl.1 (rest := []) rfl (Nat.le_of_ble_eq_true rfl) ⟨Nat.le_of_ble_eq_true rfl, Nat.le_of_ble_eq_true rfl⟩ dX0_goThroughDay_75 (fun u H locs hp h => ?_)
      obtain ⟨S4, eS4⟩ : ∃ z9, z9 = sT S3 i (drinkR (qT S3 i)) := ⟨_, rfl⟩
      rw [← eS4] at hp
      subst hp
      refine lv_iinc (v := nI (i + 1)) (lv' := [(1, .int (nI (i + 1))), (0, .ref (za z (1 + 27 * b)))]) hx hb dX0_goThroughDay_78 hl (k := 0) rfl (q_inc i 1) (by decide) rfl (fun ls hl => ?_)
      refine lv_goto (tgt := 61) hx hb dX0_goThroughDay_81 (by decide) ?_
      exact ihL61 (i + 1) (by omega) _ _ _ (by subst eS4; rw [eS3] at h; exact h) (lv_sub hl [0, 1] rfl)
  have L27 : ∀ (Sb : QLs) (hkb : LOk Sb) (hq9 : Sb = itN feedF (qt S) S) (d i : Nat), i + d = qp Sb → ∀ (H : Heap) (locs : List Loc) (ls : Array Slot), GW z (XAt z) 0 55 s.heap ct (va_up σ b (itN flowF i Sb)) H locs → lv_has ls 2 [(1, .int (nI i)), (0, .ref (za z (1 + 27 * b)))] → W p l e ({ frames := 4, cells := 0, slots := 0, locals := 85 } : Room) s m [.ref (za z (1 + 27 * b))].toArray below meth c H locs 0 0 (EV z (XAt z) 0 55 ct s below [.ref (za z (1 + 27 * b))] 0 0 (fun σ' => σ' = va_up σ b (dayL S))) (F0 m 27 ls []) := by
    intro Sb hkb hq9 d
    induction d with
    | zero =>
      intro i hdi H locs ls h hl
      have hEi : i = qp Sb := by omega
      have hkc := hkb.2.1
      obtain ⟨S5, eS5⟩ : ∃ z9, z9 = itN flowF i Sb := ⟨_, rfl⟩
      rw [← eS5] at h
      have hs9 : Shp Sb S5 := by rw [eS5]; exact shp_it (f := flowF) (fun _ _ => shp_flow) Sb i
      have hs1 := hs9.1
      have hs2 := hs9.2.1
      have hk9 := hs9.ok hkb
      refine lv_iload_n hx hb dX0_goThroughDay_27 rfl (lv_at hl 0 rfl) ?_
      refine lv_aload_n hx hb dX0_goThroughDay_28 rfl (lv_at hl 1 rfl) ?_
      refine L_gL C0 hK h hB hin0 3 (by decide) (by decide +kernel) rfl dX0_goThroughDay_29 ?_
      refine lv_icmp_ge (tgt := 46) hx hb dX0_goThroughDay_32 (by decide) (fun _ => ?_) (fun q9 => absurd (nI_le (by omega) (by omega)) q9)
      refine lv_aload_n hx hb dX0_goThroughDay_46 rfl (lv_at hl 1 rfl) ?_
      refine L_gL C0 hK h hB hin0 4 (by decide) (by decide +kernel) rfl dX0_goThroughDay_47 ?_
      refine lv_iconst (v := 4) hx hb dX0_goThroughDay_50 (by decide) ?_
      refine lv_irem hx hb dX0_goThroughDay_51 (by decide) ?_
      refine lv_if_ne (tgt := 59) hx hb dX0_goThroughDay_52 (by decide) (fun c_52 => ?_) (fun c_52 => ?_)
      · refine lv_iconst (v := 0) hx hb dX0_goThroughDay_59 (by decide) ?_
        refine lv_istore_n (lv' := [(1, .int 0), (0, .ref (za z (1 + 27 * b)))]) hx hb dX0_goThroughDay_60 rfl hl (by decide) rfl (fun ls hl => ?_)
        exact L61 S5 hk9 (by rw [hEi] at eS5; subst eS5; subst hq9; unfold dayL; simp only []; rw [if_neg c_52]) (qt S5) 0 (by omega) _ _ _ h (lv_sub hl [0, 1] rfl)
      · refine lv_aload_n hx hb dX0_goThroughDay_55 rfl (lv_at hl 1 rfl) ?_
        refine S_callVv C0 hK h (c_X0_growCrusts l z σ b hB S5 hk9) (cwV 0 hts gX0_goThroughDay_X0_growCrusts rfl rfl rfl (by decide +kernel) ⟨Nat.le_of_ble_eq_true rfl, Nat.le_of_ble_eq_true rfl⟩) (k := 1 + 27 * b) (ci := 0) (by omega) (fun ct hA => (hA.2 b hB).1) rfl rfl rfl hl.1 (rest := []) rfl (Nat.le_of_ble_eq_true rfl) ⟨Nat.le_of_ble_eq_true rfl, Nat.le_of_ble_eq_true rfl⟩ dX0_goThroughDay_56 (fun u H locs hp h => ?_)
        obtain ⟨S6, eS6⟩ : ∃ z9, z9 = crustAll S5 := ⟨_, rfl⟩
        rw [← eS6] at hp
        subst hp
        refine lv_iconst (v := 0) hx hb dX0_goThroughDay_59 (by decide) ?_
        refine lv_istore_n (lv' := [(1, .int 0), (0, .ref (za z (1 + 27 * b)))]) hx hb dX0_goThroughDay_60 rfl hl (by decide) rfl (fun ls hl => ?_)
        exact L61 S6 (by rw [eS6]; exact shp_crustAll.ok hk9) (by subst eS6; rw [hEi] at eS5; subst eS5; subst hq9; unfold dayL; simp only []; rw [if_pos c_52]) (qt S6) 0 (by omega) _ _ _ h (lv_sub hl [0, 1] rfl)
    | succ d ihL27 =>
      intro i hdi H locs ls h hl
      have hEi : i < qp Sb := by omega
      have hkc := hkb.2.1
      obtain ⟨S7, eS7⟩ : ∃ z9, z9 = itN flowF i Sb := ⟨_, rfl⟩
      rw [← eS7] at h
      have hs9 : Shp Sb S7 := by rw [eS7]; exact shp_it (f := flowF) (fun _ _ => shp_flow) Sb i
      have hs1 := hs9.1
      have hs2 := hs9.2.1
      have hk9 := hs9.ok hkb
      refine lv_iload_n hx hb dX0_goThroughDay_27 rfl (lv_at hl 0 rfl) ?_
      refine lv_aload_n hx hb dX0_goThroughDay_28 rfl (lv_at hl 1 rfl) ?_
      refine L_gL C0 hK h hB hin0 3 (by decide) (by decide +kernel) rfl dX0_goThroughDay_29 ?_
      refine lv_icmp_ge (tgt := 46) hx hb dX0_goThroughDay_32 (by decide) (fun q9 => absurd q9 (nI_ge (by omega) (by omega))) (fun _ => ?_)
      refine lv_aload_n hx hb dX0_goThroughDay_35 rfl (lv_at hl 1 rfl) ?_
      refine lv_iload_n hx hb dX0_goThroughDay_36 rfl (lv_at hl 0 rfl) ?_
      refine S_callVv C0 hK h (c_X0_flowThrough l z σ b hB S7 hk9 i (by omega)) (cwV 1 hts gX0_goThroughDay_X0_flowThrough rfl rfl rfl (by decide +kernel) ⟨Nat.le_of_ble_eq_true rfl, Nat.le_of_ble_eq_true rfl⟩) (k := 1 + 27 * b) (ci := 0) (by omega) (fun ct hA => (hA.2 b hB).1) rfl rfl rfl hl.1 (rest := []) rfl (Nat.le_of_ble_eq_true rfl) ⟨Nat.le_of_ble_eq_true rfl, Nat.le_of_ble_eq_true rfl⟩ dX0_goThroughDay_37 (fun u H locs hp h => ?_)
      obtain ⟨S8, eS8⟩ : ∃ z9, z9 = flowL S7 i := ⟨_, rfl⟩
      rw [← eS8] at hp
      subst hp
      refine lv_iinc (v := nI (i + 1)) (lv' := [(1, .int (nI (i + 1))), (0, .ref (za z (1 + 27 * b)))]) hx hb dX0_goThroughDay_40 hl (k := 0) rfl (q_inc i 1) (by decide) rfl (fun ls hl => ?_)
      refine lv_goto (tgt := 27) hx hb dX0_goThroughDay_43 (by decide) ?_
      exact ihL27 (i + 1) (by omega) _ _ _ (by subst eS8; rw [eS7] at h; exact h) (lv_sub hl [0, 1] rfl)
  have L2 : ∀ (d i : Nat), i + d = qt S → ∀ (H : Heap) (locs : List Loc) (ls : Array Slot), GW z (XAt z) 0 55 s.heap ct (va_up σ b (itN feedF i S)) H locs → lv_has ls 2 [(1, .int (nI i)), (0, .ref (za z (1 + 27 * b)))] → W p l e ({ frames := 4, cells := 0, slots := 0, locals := 85 } : Room) s m [.ref (za z (1 + 27 * b))].toArray below meth c H locs 0 0 (EV z (XAt z) 0 55 ct s below [.ref (za z (1 + 27 * b))] 0 0 (fun σ' => σ' = va_up σ b (dayL S))) (F0 m 2 ls []) := by
    intro  d
    induction d with
    | zero =>
      intro i hdi H locs ls h hl
      have hEi : i = qt S := by omega
      obtain ⟨S9, eS9⟩ : ∃ z9, z9 = itN feedF i S := ⟨_, rfl⟩
      rw [← eS9] at h
      have hs9 : Shp S S9 := by rw [eS9]; exact shp_it (f := feedF) (fun _ _ => shp_sT) S i
      have hs1 := hs9.1
      have hs2 := hs9.2.1
      have hk9 := hs9.ok hk
      refine lv_iload_n hx hb dX0_goThroughDay_2 rfl (lv_at hl 0 rfl) ?_
      refine lv_aload_n hx hb dX0_goThroughDay_3 rfl (lv_at hl 1 rfl) ?_
      refine L_gL C0 hK h hB hin0 2 (by decide) (by decide +kernel) rfl dX0_goThroughDay_4 ?_
      refine lv_icmp_ge (tgt := 25) hx hb dX0_goThroughDay_7 (by decide) (fun _ => ?_) (fun q9 => absurd (nI_le (by omega) (by omega)) q9)
      refine lv_iconst (v := 0) hx hb dX0_goThroughDay_25 (by decide) ?_
      refine lv_istore_n (lv' := [(1, .int 0), (0, .ref (za z (1 + 27 * b)))]) hx hb dX0_goThroughDay_26 rfl hl (by decide) rfl (fun ls hl => ?_)
      exact L27 S9 hk9 (by rw [eS9, hEi]) (qp S9) 0 (by omega) _ _ _ h (lv_sub hl [0, 1] rfl)
    | succ d ihL2 =>
      intro i hdi H locs ls h hl
      have hEi : i < qt S := by omega
      obtain ⟨S10, eS10⟩ : ∃ z9, z9 = itN feedF i S := ⟨_, rfl⟩
      rw [← eS10] at h
      have hs9 : Shp S S10 := by rw [eS10]; exact shp_it (f := feedF) (fun _ _ => shp_sT) S i
      have hs1 := hs9.1
      have hs2 := hs9.2.1
      have hk9 := hs9.ok hk
      refine lv_iload_n hx hb dX0_goThroughDay_2 rfl (lv_at hl 0 rfl) ?_
      refine lv_aload_n hx hb dX0_goThroughDay_3 rfl (lv_at hl 1 rfl) ?_
      refine L_gL C0 hK h hB hin0 2 (by decide) (by decide +kernel) rfl dX0_goThroughDay_4 ?_
      refine lv_icmp_ge (tgt := 25) hx hb dX0_goThroughDay_7 (by decide) (fun q9 => absurd q9 (nI_ge (by omega) (by omega))) (fun _ => ?_)
      refine lv_aload_n hx hb dX0_goThroughDay_10 rfl (lv_at hl 1 rfl) ?_
      refine L_gL C0 hK h hB hin0 0 (by decide) (by decide +kernel) rfl dX0_goThroughDay_11 ?_
      refine lv_iload_n hx hb dX0_goThroughDay_14 rfl (lv_at hl 0 rfl) ?_
      refine X_aT C0 hK h hB (i := i) rfl (by omega) dX0_goThroughDay_15 ?_
      refine S_callSv C0 hK h (c_X0_feed l z σ b hB S10 i (by omega)) (va_cwS 1 hts gX0_goThroughDay_X0_feed rfl rfl rfl (by decide +kernel) ⟨Nat.le_of_ble_eq_true rfl, Nat.le_of_ble_eq_true rfl⟩) rfl hl.1 (rest := []) rfl (Nat.le_of_ble_eq_true rfl) ⟨Nat.le_of_ble_eq_true rfl, Nat.le_of_ble_eq_true rfl⟩ dX0_goThroughDay_16 (fun u H locs hp h => ?_)
      obtain ⟨S11, eS11⟩ : ∃ z9, z9 = sT S10 i (feedR (qT S10 i)) := ⟨_, rfl⟩
      rw [← eS11] at hp
      subst hp
      refine lv_iinc (v := nI (i + 1)) (lv' := [(1, .int (nI (i + 1))), (0, .ref (za z (1 + 27 * b)))]) hx hb dX0_goThroughDay_19 hl (k := 0) rfl (q_inc i 1) (by decide) rfl (fun ls hl => ?_)
      refine lv_goto (tgt := 2) hx hb dX0_goThroughDay_22 (by decide) ?_
      exact ihL2 (i + 1) (by omega) _ _ _ (by subst eS11; rw [eS10] at h; exact h) (lv_sub hl [0, 1] rfl)
  refine lv_iconst (v := 0) hx hb dX0_goThroughDay_0 (by decide) ?_
  refine lv_istore_n (lv' := [(1, .int 0), (0, .ref (za z (1 + 27 * b)))]) hx hb dX0_goThroughDay_1 rfl hl (by decide) rfl (fun ls hl => ?_)
  exact L2 (qt S) 0 (by omega) _ _ _ h (lv_sub hl [0, 1] rfl)
set_option maxHeartbeats 4000000 in
set_option maxRecDepth 100000 in
theorem c_X0_drunkIn (l : Launch) (z : QZ) (σ : Nat → QLs) (b : Nat) (hB : b < 2) (S : QLs) (hk : LOk S) (n : Nat) (hn9 : n < 2147483648) : GI l yX0_drunkIn wsX0_drunkIn ({ frames := 5, cells := 0, slots := 0, locals := 106 } : Room) z [.ref (za z (1 + 27 * b)), .int (nI n)] 0 0 (XAt z) 0 55 (va_up σ b S) (fun r σ' => r = sumT (itN dayF n S) 6 - sumT S 6 ∧ σ' = va_up σ b (itN dayF n S)) := by
  intro ct sz hn hq hat
  refine q_entry (lo := 0) (cc := cX0_drunkIn) (maxL := 4) (ret := (some .int)) (by decide) rfl (Nat.le_of_ble_eq_true rfl) hn hq hat ?_
  intro p e s m below meth c ls C0 hK hsz h hl
  subst hsz
  obtain ⟨hx, hb, hr, hml, hown, hts, hlocks⟩ := id C0
  have hl : lv_has ls 4 [(0, .ref (za z (1 + 27 * b))), (1, .int (nI n))] := hl
  have L9 : ∀ (d i : Nat), i + d = n → ∀ (H : Heap) (locs : List Loc) (ls : Array Slot), GW z (XAt z) 0 55 s.heap ct (va_up σ b (itN dayF i S)) H locs → lv_has ls 4 [(3, .int (nI i)), (2, .int (sumT S 6)), (0, .ref (za z (1 + 27 * b))), (1, .int (nI n))] → W p l e ({ frames := 5, cells := 0, slots := 0, locals := 106 } : Room) s m [.ref (za z (1 + 27 * b)), .int (nI n)].toArray below meth c H locs 0 0 (EI z (XAt z) 0 55 ct s below [.ref (za z (1 + 27 * b)), .int (nI n)] 0 0 (fun r σ' => r = sumT (itN dayF n S) 6 - sumT S 6 ∧ σ' = va_up σ b (itN dayF n S))) (F0 m 9 ls []) := by
    intro  d
    induction d with
    | zero =>
      intro i hdi H locs ls h hl
      have hEi : i = n := by omega
      obtain ⟨S1, eS1⟩ : ∃ z9, z9 = itN dayF i S := ⟨_, rfl⟩
      rw [← eS1] at h
      have hk9 : LOk S1 := by rw [eS1]; exact (shp_days S i).ok hk
      refine lv_iload_n hx hb dX0_drunkIn_9 rfl (lv_at hl 0 rfl) ?_
      refine lv_iload_n hx hb dX0_drunkIn_10 rfl (lv_at hl 3 rfl) ?_
      refine lv_icmp_ge (tgt := 24) hx hb dX0_drunkIn_11 (by decide) (fun _ => ?_) (fun q9 => absurd (nI_le (by omega) (by omega)) q9)
      refine lv_aload_n hx hb dX0_drunkIn_24 rfl (lv_at hl 2 rfl) ?_
      refine lv_bipush (v := 6) hx hb dX0_drunkIn_25 (by decide) ?_
      refine S_callVi C0 hK h (c_X0_sumOfTanks l z σ b hB S1 hk9 6 (by decide)) (cwV 1 hts gX0_drunkIn_X0_sumOfTanks rfl rfl rfl (by decide +kernel) ⟨Nat.le_of_ble_eq_true rfl, Nat.le_of_ble_eq_true rfl⟩) (k := 1 + 27 * b) (ci := 0) (by omega) (fun ct hA => (hA.2 b hB).1) rfl rfl rfl hl.1 (rest := []) rfl (Nat.le_of_ble_eq_true rfl) ⟨Nat.le_of_ble_eq_true rfl, Nat.le_of_ble_eq_true rfl⟩ dX0_drunkIn_27 (fun r u H locs hp h => ?_)
      obtain ⟨rfl, rfl⟩ := hp
      refine lv_iload_n hx hb dX0_drunkIn_30 rfl (lv_at hl 1 rfl) ?_
      refine lv_isub hx hb dX0_drunkIn_31 ?_
      exact G_iret C0 hK h ⟨by rw [eS1, hEi], congrArg (va_up σ b) (by rw [eS1, hEi])⟩ (Nat.le_of_ble_eq_true rfl) (Nat.le_of_ble_eq_true rfl) dX0_drunkIn_32
    | succ d ihL9 =>
      intro i hdi H locs ls h hl
      have hEi : i < n := by omega
      obtain ⟨S2, eS2⟩ : ∃ z9, z9 = itN dayF i S := ⟨_, rfl⟩
      rw [← eS2] at h
      have hk9 : LOk S2 := by rw [eS2]; exact (shp_days S i).ok hk
      refine lv_iload_n hx hb dX0_drunkIn_9 rfl (lv_at hl 0 rfl) ?_
      refine lv_iload_n hx hb dX0_drunkIn_10 rfl (lv_at hl 3 rfl) ?_
      refine lv_icmp_ge (tgt := 24) hx hb dX0_drunkIn_11 (by decide) (fun q9 => absurd q9 (nI_ge (by omega) (by omega))) (fun _ => ?_)
      refine lv_aload_n hx hb dX0_drunkIn_14 rfl (lv_at hl 2 rfl) ?_
      refine S_callVv C0 hK h (c_X0_goThroughDay l z σ b hB S2 hk9) (cwV 0 hts gX0_drunkIn_X0_goThroughDay rfl rfl rfl (by decide +kernel) ⟨Nat.le_of_ble_eq_true rfl, Nat.le_of_ble_eq_true rfl⟩) (k := 1 + 27 * b) (ci := 0) (by omega) (fun ct hA => (hA.2 b hB).1) rfl rfl rfl hl.1 (rest := []) rfl (Nat.le_of_ble_eq_true rfl) ⟨Nat.le_of_ble_eq_true rfl, Nat.le_of_ble_eq_true rfl⟩ dX0_drunkIn_15 (fun u H locs hp h => ?_)
      obtain ⟨S3, eS3⟩ : ∃ z9, z9 = dayL S2 := ⟨_, rfl⟩
      rw [← eS3] at hp
      subst hp
      refine lv_iinc (v := nI (i + 1)) (lv' := [(3, .int (nI (i + 1))), (2, .int (sumT S 6)), (0, .ref (za z (1 + 27 * b))), (1, .int (nI n))]) hx hb dX0_drunkIn_18 hl (k := 0) rfl (q_inc i 1) (by decide) rfl (fun ls hl => ?_)
      refine lv_goto (tgt := 9) hx hb dX0_drunkIn_21 (by decide) ?_
      exact ihL9 (i + 1) (by omega) _ _ _ (by subst eS3; rw [eS2] at h; exact h) (lv_sub hl [0, 1, 2, 3] rfl)
  refine lv_aload_n hx hb dX0_drunkIn_0 rfl (lv_at hl 0 rfl) ?_
  refine lv_bipush (v := 6) hx hb dX0_drunkIn_1 (by decide) ?_
  refine S_callVi C0 hK h (c_X0_sumOfTanks l z σ b hB S hk 6 (by decide)) (cwV 1 hts gX0_drunkIn_X0_sumOfTanks rfl rfl rfl (by decide +kernel) ⟨Nat.le_of_ble_eq_true rfl, Nat.le_of_ble_eq_true rfl⟩) (k := 1 + 27 * b) (ci := 0) (by omega) (fun ct hA => (hA.2 b hB).1) rfl rfl rfl hl.1 (rest := []) rfl (Nat.le_of_ble_eq_true rfl) ⟨Nat.le_of_ble_eq_true rfl, Nat.le_of_ble_eq_true rfl⟩ dX0_drunkIn_3 (fun r u H locs hp h => ?_)
  obtain ⟨rfl, rfl⟩ := hp
  refine lv_istore_n (lv' := [(2, .int (sumT S 6)), (0, .ref (za z (1 + 27 * b))), (1, .int (nI n))]) hx hb dX0_drunkIn_6 rfl hl (by decide) rfl (fun ls hl => ?_)
  refine lv_iconst (v := 0) hx hb dX0_drunkIn_7 (by decide) ?_
  refine lv_istore_n (lv' := [(3, .int 0), (2, .int (sumT S 6)), (0, .ref (za z (1 + 27 * b))), (1, .int (nI n))]) hx hb dX0_drunkIn_8 rfl hl (by decide) rfl (fun ls hl => ?_)
  exact L9 (n) 0 (by omega) _ _ _ h (lv_sub hl [0, 1, 2, 3] rfl)
set_option maxHeartbeats 4000000 in
set_option maxRecDepth 100000 in
theorem c_X0_ofAll (l : Launch) (z : QZ) (σ : Nat → QLs) (b : Nat) (hB : b < 2) (S : QLs) (hk : LOk S) (n : Nat) (hn9 : n ≤ 8) : GI l yX0_ofAll wsX0_ofAll ({ frames := 2, cells := 0, slots := 0, locals := 43 } : Room) z [.ref (za z (1 + 27 * b)), .int (nI n)] 0 0 (XAt z) 0 55 (va_up σ b S) (fun r σ' => r = ofAllL S n ∧ σ' = va_up σ b S) := by
  intro ct sz hn hq hat
  refine q_entry (lo := 0) (cc := cX0_ofAll) (maxL := 2) (ret := (some .int)) (by decide) rfl (Nat.le_of_ble_eq_true rfl) hn hq hat ?_
  intro p e s m below meth c ls C0 hK hsz h hl
  subst hsz
  obtain ⟨hx, hb, hr, hml, hown, hts, hlocks⟩ := id C0
  have hin0 : ∀ w ∈ u_ws RX0 TX0 5, w ∈ wsX0_ofAll := by decide +kernel
  have hl : lv_has ls 2 [(0, .ref (za z (1 + 27 * b))), (1, .int (nI n))] := hl
  rcases (show n = 0 ∨ n = 1 ∨ n = 2 ∨ n = 3 ∨ n = 4 ∨ n = 5 ∨ n = 6 ∨ n = 7 ∨ n = 8 by omega) with rfl | rfl | rfl | rfl | rfl | rfl | rfl | rfl | rfl
  · refine lv_iload_n hx hb dX0_ofAll_0 rfl (lv_at hl 1 rfl) ?_
    refine lv_tableIn (off := 47) (tgt := 48) hx hb dX0_ofAll_1 (by decide +kernel) (by decide +kernel) rfl (by decide) ?_
    refine lv_aload_n hx hb dX0_ofAll_48 rfl (lv_at hl 0 rfl) ?_
    refine L_gL C0 hK h hB hin0 4 (by decide) (by decide +kernel) rfl dX0_ofAll_49 ?_
    exact G_iret C0 hK h ⟨rfl, rfl⟩ (Nat.le_of_ble_eq_true rfl) (Nat.le_of_ble_eq_true rfl) dX0_ofAll_52
  · refine lv_iload_n hx hb dX0_ofAll_0 rfl (lv_at hl 1 rfl) ?_
    refine lv_tableIn (off := 52) (tgt := 53) hx hb dX0_ofAll_1 (by decide +kernel) (by decide +kernel) rfl (by decide) ?_
    refine lv_aload_n hx hb dX0_ofAll_53 rfl (lv_at hl 0 rfl) ?_
    refine L_gL C0 hK h hB hin0 2 (by decide) (by decide +kernel) rfl dX0_ofAll_54 ?_
    exact G_iret C0 hK h ⟨rfl, rfl⟩ (Nat.le_of_ble_eq_true rfl) (Nat.le_of_ble_eq_true rfl) dX0_ofAll_57
  · refine lv_iload_n hx hb dX0_ofAll_0 rfl (lv_at hl 1 rfl) ?_
    refine lv_tableIn (off := 57) (tgt := 58) hx hb dX0_ofAll_1 (by decide +kernel) (by decide +kernel) rfl (by decide) ?_
    refine lv_aload_n hx hb dX0_ofAll_58 rfl (lv_at hl 0 rfl) ?_
    refine L_gL C0 hK h hB hin0 3 (by decide) (by decide +kernel) rfl dX0_ofAll_59 ?_
    exact G_iret C0 hK h ⟨rfl, rfl⟩ (Nat.le_of_ble_eq_true rfl) (Nat.le_of_ble_eq_true rfl) dX0_ofAll_62
  · refine lv_iload_n hx hb dX0_ofAll_0 rfl (lv_at hl 1 rfl) ?_
    refine lv_tableIn (off := 62) (tgt := 63) hx hb dX0_ofAll_1 (by decide +kernel) (by decide +kernel) rfl (by decide) ?_
    refine lv_aload_n hx hb dX0_ofAll_63 rfl (lv_at hl 0 rfl) ?_
    refine lv_iconst (v := 3) hx hb dX0_ofAll_64 (by decide) ?_
    refine S_callVi C0 hK h (c_X0_sumOfTanks l z σ b hB S hk 3 (by decide)) (cwV 1 hts gX0_ofAll_X0_sumOfTanks rfl rfl rfl (by decide +kernel) ⟨Nat.le_of_ble_eq_true rfl, Nat.le_of_ble_eq_true rfl⟩) (k := 1 + 27 * b) (ci := 0) (by omega) (fun ct hA => (hA.2 b hB).1) rfl rfl rfl hl.1 (rest := []) rfl (Nat.le_of_ble_eq_true rfl) ⟨Nat.le_of_ble_eq_true rfl, Nat.le_of_ble_eq_true rfl⟩ dX0_ofAll_65 (fun r u H locs hp h => ?_)
    obtain ⟨rfl, rfl⟩ := hp
    exact G_iret C0 hK h ⟨rfl, rfl⟩ (Nat.le_of_ble_eq_true rfl) (Nat.le_of_ble_eq_true rfl) dX0_ofAll_68
  · refine lv_iload_n hx hb dX0_ofAll_0 rfl (lv_at hl 1 rfl) ?_
    refine lv_tableIn (off := 68) (tgt := 69) hx hb dX0_ofAll_1 (by decide +kernel) (by decide +kernel) rfl (by decide) ?_
    refine lv_aload_n hx hb dX0_ofAll_69 rfl (lv_at hl 0 rfl) ?_
    refine lv_iconst (v := 4) hx hb dX0_ofAll_70 (by decide) ?_
    refine S_callVi C0 hK h (c_X0_sumOfTanks l z σ b hB S hk 4 (by decide)) (cwV 1 hts gX0_ofAll_X0_sumOfTanks rfl rfl rfl (by decide +kernel) ⟨Nat.le_of_ble_eq_true rfl, Nat.le_of_ble_eq_true rfl⟩) (k := 1 + 27 * b) (ci := 0) (by omega) (fun ct hA => (hA.2 b hB).1) rfl rfl rfl hl.1 (rest := []) rfl (Nat.le_of_ble_eq_true rfl) ⟨Nat.le_of_ble_eq_true rfl, Nat.le_of_ble_eq_true rfl⟩ dX0_ofAll_71 (fun r u H locs hp h => ?_)
    obtain ⟨rfl, rfl⟩ := hp
    exact G_iret C0 hK h ⟨rfl, rfl⟩ (Nat.le_of_ble_eq_true rfl) (Nat.le_of_ble_eq_true rfl) dX0_ofAll_74
  · refine lv_iload_n hx hb dX0_ofAll_0 rfl (lv_at hl 1 rfl) ?_
    refine lv_tableIn (off := 74) (tgt := 75) hx hb dX0_ofAll_1 (by decide +kernel) (by decide +kernel) rfl (by decide) ?_
    refine lv_aload_n hx hb dX0_ofAll_75 rfl (lv_at hl 0 rfl) ?_
    refine lv_bipush (v := 6) hx hb dX0_ofAll_76 (by decide) ?_
    refine S_callVi C0 hK h (c_X0_sumOfTanks l z σ b hB S hk 6 (by decide)) (cwV 1 hts gX0_ofAll_X0_sumOfTanks rfl rfl rfl (by decide +kernel) ⟨Nat.le_of_ble_eq_true rfl, Nat.le_of_ble_eq_true rfl⟩) (k := 1 + 27 * b) (ci := 0) (by omega) (fun ct hA => (hA.2 b hB).1) rfl rfl rfl hl.1 (rest := []) rfl (Nat.le_of_ble_eq_true rfl) ⟨Nat.le_of_ble_eq_true rfl, Nat.le_of_ble_eq_true rfl⟩ dX0_ofAll_78 (fun r u H locs hp h => ?_)
    obtain ⟨rfl, rfl⟩ := hp
    exact G_iret C0 hK h ⟨rfl, rfl⟩ (Nat.le_of_ble_eq_true rfl) (Nat.le_of_ble_eq_true rfl) dX0_ofAll_81
  · refine lv_iload_n hx hb dX0_ofAll_0 rfl (lv_at hl 1 rfl) ?_
    refine lv_tableIn (off := 81) (tgt := 82) hx hb dX0_ofAll_1 (by decide +kernel) (by decide +kernel) rfl (by decide) ?_
    refine lv_aload_n hx hb dX0_ofAll_82 rfl (lv_at hl 0 rfl) ?_
    refine lv_bipush (v := 7) hx hb dX0_ofAll_83 (by decide) ?_
    refine S_callVi C0 hK h (c_X0_sumOfPipes l z σ b hB S hk 7 (by decide)) (cwV 1 hts gX0_ofAll_X0_sumOfPipes rfl rfl rfl (by decide +kernel) ⟨Nat.le_of_ble_eq_true rfl, Nat.le_of_ble_eq_true rfl⟩) (k := 1 + 27 * b) (ci := 0) (by omega) (fun ct hA => (hA.2 b hB).1) rfl rfl rfl hl.1 (rest := []) rfl (Nat.le_of_ble_eq_true rfl) ⟨Nat.le_of_ble_eq_true rfl, Nat.le_of_ble_eq_true rfl⟩ dX0_ofAll_85 (fun r u H locs hp h => ?_)
    obtain ⟨rfl, rfl⟩ := hp
    exact G_iret C0 hK h ⟨rfl, rfl⟩ (Nat.le_of_ble_eq_true rfl) (Nat.le_of_ble_eq_true rfl) dX0_ofAll_88
  · refine lv_iload_n hx hb dX0_ofAll_0 rfl (lv_at hl 1 rfl) ?_
    refine lv_tableIn (off := 88) (tgt := 89) hx hb dX0_ofAll_1 (by decide +kernel) (by decide +kernel) rfl (by decide) ?_
    refine lv_aload_n hx hb dX0_ofAll_89 rfl (lv_at hl 0 rfl) ?_
    refine lv_bipush (v := 7) hx hb dX0_ofAll_90 (by decide) ?_
    refine S_callVi C0 hK h (c_X0_sumOfTanks l z σ b hB S hk 7 (by decide)) (cwV 1 hts gX0_ofAll_X0_sumOfTanks rfl rfl rfl (by decide +kernel) ⟨Nat.le_of_ble_eq_true rfl, Nat.le_of_ble_eq_true rfl⟩) (k := 1 + 27 * b) (ci := 0) (by omega) (fun ct hA => (hA.2 b hB).1) rfl rfl rfl hl.1 (rest := []) rfl (Nat.le_of_ble_eq_true rfl) ⟨Nat.le_of_ble_eq_true rfl, Nat.le_of_ble_eq_true rfl⟩ dX0_ofAll_92 (fun r u H locs hp h => ?_)
    obtain ⟨rfl, rfl⟩ := hp
    exact G_iret C0 hK h ⟨rfl, rfl⟩ (Nat.le_of_ble_eq_true rfl) (Nat.le_of_ble_eq_true rfl) dX0_ofAll_95
  · refine lv_iload_n hx hb dX0_ofAll_0 rfl (lv_at hl 1 rfl) ?_
    refine lv_tableOut (tgt := 96) hx hb dX0_ofAll_1 (by decide +kernel) (by decide) ?_
    refine lv_aload_n hx hb dX0_ofAll_96 rfl (lv_at hl 0 rfl) ?_
    refine S_callVi C0 hK h (c_X0_thirstyTanks l z σ b hB S hk) (cwV 0 hts gX0_ofAll_X0_thirstyTanks rfl rfl rfl (by decide +kernel) ⟨Nat.le_of_ble_eq_true rfl, Nat.le_of_ble_eq_true rfl⟩) (k := 1 + 27 * b) (ci := 0) (by omega) (fun ct hA => (hA.2 b hB).1) rfl rfl rfl hl.1 (rest := []) rfl (Nat.le_of_ble_eq_true rfl) ⟨Nat.le_of_ble_eq_true rfl, Nat.le_of_ble_eq_true rfl⟩ dX0_ofAll_97 (fun r u H locs hp h => ?_)
    obtain ⟨rfl, rfl⟩ := hp
    exact G_iret C0 hK h ⟨rfl, rfl⟩ (Nat.le_of_ble_eq_true rfl) (Nat.le_of_ble_eq_true rfl) dX0_ofAll_100
set_option maxHeartbeats 4000000 in
set_option maxRecDepth 100000 in
theorem c_X0_reachedFrom (l : Launch) (z : QZ) (σ : Nat → QLs) (b : Nat) (hB : b < 2) (S : QLs) (hk : LOk S) (x : Int32) : GI l yX0_reachedFrom wsX0_reachedFrom ({ frames := 0, cells := 0, slots := 0, locals := 0 } : Room) z [.ref (za z (1 + 27 * b)), .int x] 0 0 (XAt z) 0 55 (va_up σ b S) (fun r σ' => r = reachL S x ∧ σ' = va_up σ b S) := by
  intro ct sz hn hq hat
  refine q_entry (lo := 0) (cc := cX0_reachedFrom) (maxL := 6) (ret := (some .int)) (by decide) rfl (Nat.le_of_ble_eq_true rfl) hn hq hat ?_
  intro p e s m below meth c ls C0 hK hsz h hl
  subst hsz
  obtain ⟨hx, hb, hr, hml, hown, hts, hlocks⟩ := id C0
  have hin0 : ∀ w ∈ u_ws RX0 TX0 5, w ∈ wsX0_reachedFrom := by decide +kernel
  have hl : lv_has ls 6 [(0, .ref (za z (1 + 27 * b))), (1, .int x)] := hl
  have hk1 := hk.1
  have hk2 := hk.2.1
  have L4 : ∀ (d i : Nat), i + d = qt S → ∀ (H : Heap) (locs : List Loc) (ls : Array Slot), GW z (XAt z) 0 55 s.heap ct (va_up σ b S) H locs → lv_has ls 6 [(3, .int (nI i)), (2, .int (itN (fun _ r => rRound S x r) i 0)), (0, .ref (za z (1 + 27 * b))), (1, .int x)] → W p l e ({ frames := 0, cells := 0, slots := 0, locals := 0 } : Room) s m [.ref (za z (1 + 27 * b)), .int x].toArray below meth c H locs 0 0 (EI z (XAt z) 0 55 ct s below [.ref (za z (1 + 27 * b)), .int x] 0 0 (fun r σ' => r = reachL S x ∧ σ' = va_up σ b S)) (F0 m 4 ls []) := by
    intro  d
    induction d with
    | zero =>
      intro i hdi H locs ls h hl
      have hEi : i = qt S := by omega
      refine lv_iload_n hx hb dX0_reachedFrom_4 rfl (lv_at hl 0 rfl) ?_
      refine lv_aload_n hx hb dX0_reachedFrom_5 rfl (lv_at hl 2 rfl) ?_
      refine L_gL C0 hK h hB hin0 2 (by decide) (by decide +kernel) rfl dX0_reachedFrom_6 ?_
      refine lv_icmp_ge (tgt := 76) hx hb dX0_reachedFrom_9 (by decide) (fun _ => ?_) (fun q9 => absurd (nI_le (by omega) (by omega)) q9)
      refine lv_iload_n hx hb dX0_reachedFrom_76 rfl (lv_at hl 1 rfl) ?_
      exact G_iret C0 hK h ⟨by rw [hEi]; rfl, rfl⟩ (Nat.le_of_ble_eq_true rfl) (Nat.le_of_ble_eq_true rfl) dX0_reachedFrom_77
    | succ d ihL4 =>
      intro i hdi H locs ls h hl
      have hEi : i < qt S := by omega
      have L15 : ∀ (g j : Nat), j + g = qp S → ∀ (H : Heap) (locs : List Loc) (ls : Array Slot), GW z (XAt z) 0 55 s.heap ct (va_up σ b S) H locs → lv_has ls 6 [(4, .int (nI j)), (3, .int (nI i)), (2, .int (itN (rStep S x) j (itN (fun _ r => rRound S x r) i 0))), (0, .ref (za z (1 + 27 * b))), (1, .int x)] → W p l e ({ frames := 0, cells := 0, slots := 0, locals := 0 } : Room) s m [.ref (za z (1 + 27 * b)), .int x].toArray below meth c H locs 0 0 (EI z (XAt z) 0 55 ct s below [.ref (za z (1 + 27 * b)), .int x] 0 0 (fun r σ' => r = reachL S x ∧ σ' = va_up σ b S)) (F0 m 15 ls []) := by
        intro  g
        induction g with
        | zero =>
          intro j hdj H locs ls h hl
          have hEj : j = qp S := by omega
          have hk7 := hk.2.1
          refine lv_iload hx hb dX0_reachedFrom_15 (lv_at hl 0 rfl) ?_
          refine lv_aload_n hx hb dX0_reachedFrom_17 rfl (lv_at hl 3 rfl) ?_
          refine L_gL C0 hK h hB hin0 3 (by decide) (by decide +kernel) rfl dX0_reachedFrom_18 ?_
          refine lv_icmp_ge (tgt := 70) hx hb dX0_reachedFrom_21 (by decide) (fun _ => ?_) (fun q9 => absurd (nI_le (by omega) (by omega)) q9)
          refine lv_iinc (v := nI (i + 1)) (lv' := [(3, .int (nI (i + 1))), (4, .int (nI j)), (2, .int (itN (rStep S x) j (itN (fun _ r => rRound S x r) i 0))), (0, .ref (za z (1 + 27 * b))), (1, .int x)]) hx hb dX0_reachedFrom_70 hl (k := 1) rfl (q_inc i 1) (by decide) rfl (fun ls hl => ?_)
          refine lv_goto (tgt := 4) hx hb dX0_reachedFrom_73 (by decide) ?_
          rw [hEj] at hl
          exact ihL4 (i + 1) (by omega) _ _ _ h (lv_sub hl [0, 2, 3, 4] rfl)
        | succ g ihL15 =>
          intro j hdj H locs ls h hl
          have hEj : j < qp S := by omega
          have hk7 := hk.2.1
          refine lv_iload hx hb dX0_reachedFrom_15 (lv_at hl 0 rfl) ?_
          refine lv_aload_n hx hb dX0_reachedFrom_17 rfl (lv_at hl 3 rfl) ?_
          refine L_gL C0 hK h hB hin0 3 (by decide) (by decide +kernel) rfl dX0_reachedFrom_18 ?_
          refine lv_icmp_ge (tgt := 70) hx hb dX0_reachedFrom_21 (by decide) (fun q9 => absurd q9 (nI_ge (by omega) (by omega))) (fun _ => ?_)
          refine lv_aload_n hx hb dX0_reachedFrom_24 rfl (lv_at hl 3 rfl) ?_
          refine L_gL C0 hK h hB hin0 1 (by decide) (by decide +kernel) rfl dX0_reachedFrom_25 ?_
          refine lv_iload hx hb dX0_reachedFrom_28 (lv_at hl 0 rfl) ?_
          refine X_aP C0 hK h hB (i := j) rfl (by omega) dX0_reachedFrom_30 ?_
          refine lv_iconst (v := 0) hx hb dX0_reachedFrom_31 (by decide) ?_
          refine L_ldP C0 hK h hB (by omega) (k := 0) rfl (by decide) dX0_reachedFrom_32 ?_
          refine lv_istore (lv' := [(5, .int (qP S j 0)), (4, .int (nI j)), (3, .int (nI i)), (2, .int (itN (rStep S x) j (itN (fun _ r => rRound S x r) i 0))), (0, .ref (za z (1 + 27 * b))), (1, .int x)]) hx hb dX0_reachedFrom_33 hl (by decide) rfl (fun ls hl => ?_)
          refine lv_iload hx hb dX0_reachedFrom_35 (lv_at hl 0 rfl) ?_
          refine lv_iload_n hx hb dX0_reachedFrom_37 rfl (lv_at hl 5 rfl) ?_
          refine lv_icmp_eq (tgt := 50) hx hb dX0_reachedFrom_38 (by decide) (fun c_38 => ?_) (fun c_38 => ?_)
          · refine lv_iload_n hx hb dX0_reachedFrom_50 rfl (lv_at hl 3 rfl) ?_
            refine lv_iconst (v := 1) hx hb dX0_reachedFrom_51 (by decide) ?_
            refine lv_aload_n hx hb dX0_reachedFrom_52 rfl (lv_at hl 4 rfl) ?_
            refine L_gL C0 hK h hB hin0 1 (by decide) (by decide +kernel) rfl dX0_reachedFrom_53 ?_
            refine lv_iload hx hb dX0_reachedFrom_56 (lv_at hl 1 rfl) ?_
            refine X_aP C0 hK h hB (i := j) rfl (by omega) dX0_reachedFrom_58 ?_
            refine lv_iconst (v := 1) hx hb dX0_reachedFrom_59 (by decide) ?_
            refine L_ldP C0 hK h hB (by omega) (k := 1) rfl (by decide) dX0_reachedFrom_60 ?_
            refine lv_ishl hx hb dX0_reachedFrom_61 ?_
            refine lv_ior hx hb dX0_reachedFrom_62 ?_
            refine lv_istore_n (lv' := [(2, .int ((itN (rStep S x) j (itN (fun _ r => rRound S x r) i 0)) ||| (1 <<< ((qP S j 1) &&& 31)))), (5, .int (qP S j 0)), (4, .int (nI j)), (3, .int (nI i)), (0, .ref (za z (1 + 27 * b))), (1, .int x)]) hx hb dX0_reachedFrom_63 rfl hl (by decide) rfl (fun ls hl => ?_)
            refine lv_iinc (v := nI (j + 1)) (lv' := [(4, .int (nI (j + 1))), (2, .int ((itN (rStep S x) j (itN (fun _ r => rRound S x r) i 0)) ||| (1 <<< ((qP S j 1) &&& 31)))), (5, .int (qP S j 0)), (3, .int (nI i)), (0, .ref (za z (1 + 27 * b))), (1, .int x)]) hx hb dX0_reachedFrom_64 hl (k := 2) rfl (q_inc j 1) (by decide) rfl (fun ls hl => ?_)
            refine lv_goto (tgt := 15) hx hb dX0_reachedFrom_67 (by decide) ?_
            have e9 : itN (rStep S x) (j + 1) (itN (fun _ r => rRound S x r) i 0) = (itN (rStep S x) j (itN (fun _ r => rRound S x r) i 0)) ||| (1 <<< ((qP S j 1) &&& 31)) := rStep_a c_38
            rw [← e9] at hl
            exact ihL15 (j + 1) (by omega) _ _ _ h (lv_sub hl [0, 3, 1, 4, 5] rfl)
          · refine lv_iload_n hx hb dX0_reachedFrom_41 rfl (lv_at hl 3 rfl) ?_
            refine lv_iconst (v := 1) hx hb dX0_reachedFrom_42 (by decide) ?_
            refine lv_iload hx hb dX0_reachedFrom_43 (lv_at hl 0 rfl) ?_
            refine lv_ishl hx hb dX0_reachedFrom_45 ?_
            refine lv_iand hx hb dX0_reachedFrom_46 ?_
            refine lv_if_eq (tgt := 64) hx hb dX0_reachedFrom_47 (by decide) (fun c_47 => ?_) (fun c_47 => ?_)
            · refine lv_iinc (v := nI (j + 1)) (lv' := [(4, .int (nI (j + 1))), (5, .int (qP S j 0)), (3, .int (nI i)), (2, .int (itN (rStep S x) j (itN (fun _ r => rRound S x r) i 0))), (0, .ref (za z (1 + 27 * b))), (1, .int x)]) hx hb dX0_reachedFrom_64 hl (k := 1) rfl (q_inc j 1) (by decide) rfl (fun ls hl => ?_)
              refine lv_goto (tgt := 15) hx hb dX0_reachedFrom_67 (by decide) ?_
              have e9 : itN (rStep S x) (j + 1) (itN (fun _ r => rRound S x r) i 0) = itN (rStep S x) j (itN (fun _ r => rRound S x r) i 0) := rStep_b c_38 c_47
              rw [← e9] at hl
              exact ihL15 (j + 1) (by omega) _ _ _ h (lv_sub hl [0, 2, 3, 4, 5] rfl)
            · refine lv_iload_n hx hb dX0_reachedFrom_50 rfl (lv_at hl 3 rfl) ?_
              refine lv_iconst (v := 1) hx hb dX0_reachedFrom_51 (by decide) ?_
              refine lv_aload_n hx hb dX0_reachedFrom_52 rfl (lv_at hl 4 rfl) ?_
              refine L_gL C0 hK h hB hin0 1 (by decide) (by decide +kernel) rfl dX0_reachedFrom_53 ?_
              refine lv_iload hx hb dX0_reachedFrom_56 (lv_at hl 1 rfl) ?_
              refine X_aP C0 hK h hB (i := j) rfl (by omega) dX0_reachedFrom_58 ?_
              refine lv_iconst (v := 1) hx hb dX0_reachedFrom_59 (by decide) ?_
              refine L_ldP C0 hK h hB (by omega) (k := 1) rfl (by decide) dX0_reachedFrom_60 ?_
              refine lv_ishl hx hb dX0_reachedFrom_61 ?_
              refine lv_ior hx hb dX0_reachedFrom_62 ?_
              refine lv_istore_n (lv' := [(2, .int ((itN (rStep S x) j (itN (fun _ r => rRound S x r) i 0)) ||| (1 <<< ((qP S j 1) &&& 31)))), (5, .int (qP S j 0)), (4, .int (nI j)), (3, .int (nI i)), (0, .ref (za z (1 + 27 * b))), (1, .int x)]) hx hb dX0_reachedFrom_63 rfl hl (by decide) rfl (fun ls hl => ?_)
              refine lv_iinc (v := nI (j + 1)) (lv' := [(4, .int (nI (j + 1))), (2, .int ((itN (rStep S x) j (itN (fun _ r => rRound S x r) i 0)) ||| (1 <<< ((qP S j 1) &&& 31)))), (5, .int (qP S j 0)), (3, .int (nI i)), (0, .ref (za z (1 + 27 * b))), (1, .int x)]) hx hb dX0_reachedFrom_64 hl (k := 2) rfl (q_inc j 1) (by decide) rfl (fun ls hl => ?_)
              refine lv_goto (tgt := 15) hx hb dX0_reachedFrom_67 (by decide) ?_
              have e9 : itN (rStep S x) (j + 1) (itN (fun _ r => rRound S x r) i 0) = (itN (rStep S x) j (itN (fun _ r => rRound S x r) i 0)) ||| (1 <<< ((qP S j 1) &&& 31)) := rStep_c c_38 c_47
              rw [← e9] at hl
              exact ihL15 (j + 1) (by omega) _ _ _ h (lv_sub hl [0, 3, 1, 4, 5] rfl)
      refine lv_iload_n hx hb dX0_reachedFrom_4 rfl (lv_at hl 0 rfl) ?_
      refine lv_aload_n hx hb dX0_reachedFrom_5 rfl (lv_at hl 2 rfl) ?_
      refine L_gL C0 hK h hB hin0 2 (by decide) (by decide +kernel) rfl dX0_reachedFrom_6 ?_
      refine lv_icmp_ge (tgt := 76) hx hb dX0_reachedFrom_9 (by decide) (fun q9 => absurd q9 (nI_ge (by omega) (by omega))) (fun _ => ?_)
      refine lv_iconst (v := 0) hx hb dX0_reachedFrom_12 (by decide) ?_
      refine lv_istore (lv' := [(4, .int 0), (3, .int (nI i)), (2, .int (itN (fun _ r => rRound S x r) i 0)), (0, .ref (za z (1 + 27 * b))), (1, .int x)]) hx hb dX0_reachedFrom_13 hl (by decide) rfl (fun ls hl => ?_)
      exact L15 (qp S) 0 (by omega) _ _ _ h (lv_sub hl [0, 1, 2, 3, 4] rfl)
  refine lv_iconst (v := 0) hx hb dX0_reachedFrom_0 (by decide) ?_
  refine lv_istore_n (lv' := [(2, .int 0), (0, .ref (za z (1 + 27 * b))), (1, .int x)]) hx hb dX0_reachedFrom_1 rfl hl (by decide) rfl (fun ls hl => ?_)
  refine lv_iconst (v := 0) hx hb dX0_reachedFrom_2 (by decide) ?_
  refine lv_istore_n (lv' := [(3, .int 0), (2, .int 0), (0, .ref (za z (1 + 27 * b))), (1, .int x)]) hx hb dX0_reachedFrom_3 rfl hl (by decide) rfl (fun ls hl => ?_)
  exact L4 (qt S) 0 (by omega) _ _ _ h (lv_sub hl [0, 1, 2, 3] rfl)
set_option maxHeartbeats 4000000 in
set_option maxRecDepth 100000 in
theorem c_X0_addTank (l : Launch) (z : QZ) (σ : Nat → QLs) (b : Nat) (hB : b < 2) (S : QLs) (hlt : qt S < 10) (x y v : Int32) : GI l yX0_addTank wsX0_addTank ({ frames := 0, cells := 0, slots := 0, locals := 0 } : Room) z [.ref (za z (1 + 27 * b)), .int x, .int y, .int v] 0 0 (XAt z) 0 55 (va_up σ b S) (fun r σ' => r = nI (qt S) ∧ σ' = va_up σ b (addT S x y v)) := by
  intro ct sz hn hq hat
  refine q_entry (lo := 0) (cc := cX0_addTank) (maxL := 5) (ret := (some .int)) (by decide) rfl (Nat.le_of_ble_eq_true rfl) hn hq hat ?_
  intro p e s m below meth c ls C0 hK hsz h hl
  subst hsz
  obtain ⟨hx, hb, hr, hml, hown, hts, hlocks⟩ := id C0
  have hin0 : ∀ w ∈ u_ws RX0 TX0 5, w ∈ wsX0_addTank := by decide +kernel
  have hl : lv_has ls 5 [(0, .ref (za z (1 + 27 * b))), (1, .int x), (2, .int y), (3, .int v)] := hl
  refine lv_aload_n hx hb dX0_addTank_0 rfl (lv_at hl 0 rfl) ?_
  refine L_gL C0 hK h hB hin0 2 (by decide) (by decide +kernel) rfl dX0_addTank_1 ?_
  refine lv_bipush (v := 10) hx hb dX0_addTank_4 (by decide) ?_
  refine lv_icmp_lt (tgt := 11) hx hb dX0_addTank_6 (by decide) (fun _ => ?_) (fun q9 => absurd (show nI (qt S) < nI 10 from nI_lt hlt (by decide)) q9)
  refine lv_aload_n hx hb dX0_addTank_11 rfl (lv_at hl 0 rfl) ?_
  refine L_gL C0 hK h hB hin0 0 (by decide) (by decide +kernel) rfl dX0_addTank_12 ?_
  refine lv_aload_n hx hb dX0_addTank_15 rfl (lv_at hl 0 rfl) ?_
  refine L_gL C0 hK h hB hin0 2 (by decide) (by decide +kernel) rfl dX0_addTank_16 ?_
  refine X_aT C0 hK h hB (i := qt S) rfl (by omega) dX0_addTank_19 ?_
  refine lv_astore (lv' := [(4, .ref (za z (1 + 27 * b + (3 + (qt S))))), (0, .ref (za z (1 + 27 * b))), (1, .int x), (2, .int y), (3, .int v)]) hx hb dX0_addTank_20 hl (by decide) rfl (fun ls hl => ?_)
  refine lv_aload hx hb dX0_addTank_22 (lv_at hl 0 rfl) ?_
  refine lv_iconst (v := 0) hx hb dX0_addTank_24 (by decide) ?_
  refine lv_iload_n hx hb dX0_addTank_25 rfl (lv_at hl 2 rfl) ?_
  refine L_stT C0 hK h hB (by omega) (k := 0) rfl (by decide) dX0_addTank_26 (fun H locs S1 eS1 h => ?_)
  refine lv_aload hx hb dX0_addTank_27 (lv_at hl 0 rfl) ?_
  refine lv_iconst (v := 1) hx hb dX0_addTank_29 (by decide) ?_
  refine lv_iload_n hx hb dX0_addTank_30 rfl (lv_at hl 3 rfl) ?_
  refine L_stT C0 hK h hB (by omega) (k := 1) rfl (by decide) dX0_addTank_31 (fun H locs S2 eS2 h => ?_)
  refine lv_aload hx hb dX0_addTank_32 (lv_at hl 0 rfl) ?_
  refine lv_iconst (v := 2) hx hb dX0_addTank_34 (by decide) ?_
  refine lv_iload_n hx hb dX0_addTank_35 rfl (lv_at hl 4 rfl) ?_
  refine L_stT C0 hK h hB (by omega) (k := 2) rfl (by decide) dX0_addTank_36 (fun H locs S3 eS3 h => ?_)
  refine lv_aload_n hx hb dX0_addTank_37 rfl (lv_at hl 1 rfl) ?_
  refine lv_dup hx hb dX0_addTank_38 rfl ?_
  refine L_gL C0 hK h hB hin0 2 (by decide) (by decide +kernel) rfl dX0_addTank_39 ?_
  refine lv_iconst (v := 1) hx hb dX0_addTank_42 (by decide) ?_
  refine lv_iadd hx hb dX0_addTank_43 ?_
  refine L_pt C0 hK h hB hin0 (by decide +kernel) (n := (qt S3) + 1) (q_add rfl rfl) dX0_addTank_44 (fun H locs S4 eS4 h => ?_)
  refine lv_aload_n hx hb dX0_addTank_47 rfl (lv_at hl 1 rfl) ?_
  refine L_gL C0 hK h hB hin0 2 (by decide) (by decide +kernel) rfl dX0_addTank_48 ?_
  refine lv_iconst (v := 1) hx hb dX0_addTank_51 (by decide) ?_
  refine lv_isub hx hb dX0_addTank_52 ?_
  exact G_iret C0 hK h ⟨by subst eS4 eS3 eS2 eS1; exact nI_pred _, congrArg (va_up σ b) (by subst eS4 eS3 eS2 eS1; simp only [qT_sT, sT_sT, qP_sP, sP_sP]; rfl)⟩ (Nat.le_of_ble_eq_true rfl) (Nat.le_of_ble_eq_true rfl) dX0_addTank_53

set_option maxHeartbeats 4000000 in
set_option maxRecDepth 100000 in
theorem c_X0_addTank_full (l : Launch) (z : QZ) (σ : Nat → QLs) (b : Nat) (hB : b < 2) (S : QLs) (hge : ¬ qt S < 10) (hle : qt S ≤ 10) (x y v : Int32) : GI l yX0_addTank wsX0_addTank ({ frames := 0, cells := 0, slots := 0, locals := 0 } : Room) z [.ref (za z (1 + 27 * b)), .int x, .int y, .int v] 0 0 (XAt z) 0 55 (va_up σ b S) (fun r σ' => r = -1 ∧ σ' = va_up σ b S) := by
  intro ct sz hn hq hat
  refine q_entry (lo := 0) (cc := cX0_addTank) (maxL := 5) (ret := (some .int)) (by decide) rfl (Nat.le_of_ble_eq_true rfl) hn hq hat ?_
  intro p e s m below meth c ls C0 hK hsz h hl
  subst hsz
  obtain ⟨hx, hb, hr, hml, hown, hts, hlocks⟩ := id C0
  have hin0 : ∀ w ∈ u_ws RX0 TX0 5, w ∈ wsX0_addTank := by decide +kernel
  have hl : lv_has ls 5 [(0, .ref (za z (1 + 27 * b))), (1, .int x), (2, .int y), (3, .int v)] := hl
  refine lv_aload_n hx hb dX0_addTank_0 rfl (lv_at hl 0 rfl) ?_
  refine L_gL C0 hK h hB hin0 2 (by decide) (by decide +kernel) rfl dX0_addTank_1 ?_
  refine lv_bipush (v := 10) hx hb dX0_addTank_4 (by decide) ?_
  refine lv_icmp_lt (tgt := 11) hx hb dX0_addTank_6 (by decide) (fun q9 => absurd q9 (show ¬ nI (qt S) < nI 10 from nI_nlt (by omega) (by omega))) (fun _ => ?_)
  refine lv_iconst (v := (-1)) hx hb dX0_addTank_9 (by decide) ?_
  exact G_iret C0 hK h ⟨rfl, rfl⟩ (Nat.le_of_ble_eq_true rfl) (Nat.le_of_ble_eq_true rfl) dX0_addTank_10
set_option maxHeartbeats 4000000 in
set_option maxRecDepth 100000 in
theorem c_X0_addPipe (l : Launch) (z : QZ) (σ : Nat → QLs) (b : Nat) (hB : b < 2) (S : QLs) (hlt : qp S < 14) (x y v u : Int32) : GI l yX0_addPipe wsX0_addPipe ({ frames := 0, cells := 0, slots := 0, locals := 0 } : Room) z [.ref (za z (1 + 27 * b)), .int x, .int y, .int v, .int u] 0 0 (XAt z) 0 55 (va_up σ b S) (fun r σ' => r = nI (qp S) ∧ σ' = va_up σ b (addP S x y v u)) := by
  intro ct sz hn hq hat
  refine q_entry (lo := 0) (cc := cX0_addPipe) (maxL := 6) (ret := (some .int)) (by decide) rfl (Nat.le_of_ble_eq_true rfl) hn hq hat ?_
  intro p e s m below meth c ls C0 hK hsz h hl
  subst hsz
  obtain ⟨hx, hb, hr, hml, hown, hts, hlocks⟩ := id C0
  have hin0 : ∀ w ∈ u_ws RX0 TX0 5, w ∈ wsX0_addPipe := by decide +kernel
  have hl : lv_has ls 6 [(0, .ref (za z (1 + 27 * b))), (1, .int x), (2, .int y), (3, .int v), (4, .int u)] := hl
  refine lv_aload_n hx hb dX0_addPipe_0 rfl (lv_at hl 0 rfl) ?_
  refine L_gL C0 hK h hB hin0 3 (by decide) (by decide +kernel) rfl dX0_addPipe_1 ?_
  refine lv_bipush (v := 14) hx hb dX0_addPipe_4 (by decide) ?_
  refine lv_icmp_lt (tgt := 11) hx hb dX0_addPipe_6 (by decide) (fun _ => ?_) (fun q9 => absurd (show nI (qp S) < nI 14 from nI_lt hlt (by decide)) q9)
  refine lv_aload_n hx hb dX0_addPipe_11 rfl (lv_at hl 0 rfl) ?_
  refine L_gL C0 hK h hB hin0 1 (by decide) (by decide +kernel) rfl dX0_addPipe_12 ?_
  refine lv_aload_n hx hb dX0_addPipe_15 rfl (lv_at hl 0 rfl) ?_
  refine L_gL C0 hK h hB hin0 3 (by decide) (by decide +kernel) rfl dX0_addPipe_16 ?_
  refine X_aP C0 hK h hB (i := qp S) rfl (by omega) dX0_addPipe_19 ?_
  refine lv_astore (lv' := [(5, .ref (za z (1 + 27 * b + (13 + (qp S))))), (0, .ref (za z (1 + 27 * b))), (1, .int x), (2, .int y), (3, .int v), (4, .int u)]) hx hb dX0_addPipe_20 hl (by decide) rfl (fun ls hl => ?_)
  refine lv_aload hx hb dX0_addPipe_22 (lv_at hl 0 rfl) ?_
  refine lv_iconst (v := 0) hx hb dX0_addPipe_24 (by decide) ?_
  refine lv_iload_n hx hb dX0_addPipe_25 rfl (lv_at hl 2 rfl) ?_
  refine L_stP C0 hK h hB (by omega) (k := 0) rfl (by decide) dX0_addPipe_26 (fun H locs S1 eS1 h => ?_)
  refine lv_aload hx hb dX0_addPipe_27 (lv_at hl 0 rfl) ?_
  refine lv_iconst (v := 1) hx hb dX0_addPipe_29 (by decide) ?_
  refine lv_iload_n hx hb dX0_addPipe_30 rfl (lv_at hl 3 rfl) ?_
  refine L_stP C0 hK h hB (by omega) (k := 1) rfl (by decide) dX0_addPipe_31 (fun H locs S2 eS2 h => ?_)
  refine lv_aload hx hb dX0_addPipe_32 (lv_at hl 0 rfl) ?_
  refine lv_iconst (v := 2) hx hb dX0_addPipe_34 (by decide) ?_
  refine lv_iload_n hx hb dX0_addPipe_35 rfl (lv_at hl 4 rfl) ?_
  refine L_stP C0 hK h hB (by omega) (k := 2) rfl (by decide) dX0_addPipe_36 (fun H locs S3 eS3 h => ?_)
  refine lv_aload hx hb dX0_addPipe_37 (lv_at hl 0 rfl) ?_
  refine lv_iconst (v := 3) hx hb dX0_addPipe_39 (by decide) ?_
  refine lv_iload hx hb dX0_addPipe_40 (lv_at hl 5 rfl) ?_
  refine L_stP C0 hK h hB (by omega) (k := 3) rfl (by decide) dX0_addPipe_42 (fun H locs S4 eS4 h => ?_)
  refine lv_aload_n hx hb dX0_addPipe_43 rfl (lv_at hl 1 rfl) ?_
  refine lv_dup hx hb dX0_addPipe_44 rfl ?_
  refine L_gL C0 hK h hB hin0 3 (by decide) (by decide +kernel) rfl dX0_addPipe_45 ?_
  refine lv_iconst (v := 1) hx hb dX0_addPipe_48 (by decide) ?_
  refine lv_iadd hx hb dX0_addPipe_49 ?_
  refine L_pp C0 hK h hB hin0 (by decide +kernel) (n := (qp S4) + 1) (q_add rfl rfl) dX0_addPipe_50 (fun H locs S5 eS5 h => ?_)
  refine lv_aload_n hx hb dX0_addPipe_53 rfl (lv_at hl 1 rfl) ?_
  refine L_gL C0 hK h hB hin0 3 (by decide) (by decide +kernel) rfl dX0_addPipe_54 ?_
  refine lv_iconst (v := 1) hx hb dX0_addPipe_57 (by decide) ?_
  refine lv_isub hx hb dX0_addPipe_58 ?_
  exact G_iret C0 hK h ⟨by subst eS5 eS4 eS3 eS2 eS1; exact nI_pred _, congrArg (va_up σ b) (by subst eS5 eS4 eS3 eS2 eS1; simp only [qT_sT, sT_sT, qP_sP, sP_sP]; rfl)⟩ (Nat.le_of_ble_eq_true rfl) (Nat.le_of_ble_eq_true rfl) dX0_addPipe_59

set_option maxHeartbeats 4000000 in
set_option maxRecDepth 100000 in
theorem c_X0_addPipe_full (l : Launch) (z : QZ) (σ : Nat → QLs) (b : Nat) (hB : b < 2) (S : QLs) (hge : ¬ qp S < 14) (hle : qp S ≤ 14) (x y v u : Int32) : GI l yX0_addPipe wsX0_addPipe ({ frames := 0, cells := 0, slots := 0, locals := 0 } : Room) z [.ref (za z (1 + 27 * b)), .int x, .int y, .int v, .int u] 0 0 (XAt z) 0 55 (va_up σ b S) (fun r σ' => r = -1 ∧ σ' = va_up σ b S) := by
  intro ct sz hn hq hat
  refine q_entry (lo := 0) (cc := cX0_addPipe) (maxL := 6) (ret := (some .int)) (by decide) rfl (Nat.le_of_ble_eq_true rfl) hn hq hat ?_
  intro p e s m below meth c ls C0 hK hsz h hl
  subst hsz
  obtain ⟨hx, hb, hr, hml, hown, hts, hlocks⟩ := id C0
  have hin0 : ∀ w ∈ u_ws RX0 TX0 5, w ∈ wsX0_addPipe := by decide +kernel
  have hl : lv_has ls 6 [(0, .ref (za z (1 + 27 * b))), (1, .int x), (2, .int y), (3, .int v), (4, .int u)] := hl
  refine lv_aload_n hx hb dX0_addPipe_0 rfl (lv_at hl 0 rfl) ?_
  refine L_gL C0 hK h hB hin0 3 (by decide) (by decide +kernel) rfl dX0_addPipe_1 ?_
  refine lv_bipush (v := 14) hx hb dX0_addPipe_4 (by decide) ?_
  refine lv_icmp_lt (tgt := 11) hx hb dX0_addPipe_6 (by decide) (fun q9 => absurd q9 (show ¬ nI (qp S) < nI 14 from nI_nlt (by omega) (by omega))) (fun _ => ?_)
  refine lv_iconst (v := (-1)) hx hb dX0_addPipe_9 (by decide) ?_
  exact G_iret C0 hK h ⟨rfl, rfl⟩ (Nat.le_of_ble_eq_true rfl) (Nat.le_of_ble_eq_true rfl) dX0_addPipe_10
end
section
/-! PART 11: Land.copyFrom, the trial land (1) from the true one (0) -/
theorem arrV_same {cA : ClassId} {n : Nat} {f g : Nat → Value} (h : ∀ j, j < n → f j = g j) : arrV cA n f = arrV cA n g := by
  unfold arrV
  congr 1
  apply Array.ext
  · simp
  · intro j h1 h2
    simp at h1 ⊢
    exact h j h1
theorem wd_repl {D : va_G} {n k : Nat} {ad : Nat → Nat} {ct : Nat → va_E} {e e2 : va_E} {H : Heap} (hP : va_P D vwCl (wd n ad (va_up ct k e)) H) (he : ∀ a, va_at D vwCl (a, e) H → va_at D vwCl (a, e2) H) : va_P D vwCl (wd n ad (va_up ct k e2)) H := by
  intro j q hj
  obtain ⟨hn, rfl⟩ := wd_of hj
  have h0 := hP j _ (wd_get hn)
  by_cases e : j = k
  · subst e
    rw [va_up_self] at h0 ⊢
    exact he _ h0
  · rw [va_up_ne _ _ e] at h0 ⊢
    exact h0
theorem va_at_int {D : va_G} {a n : Nat} {cA : ClassId} {f g : Nat → Int32} {H : Heap} (h : ∀ j, j < n → f j = g j) (hP : va_at D vwCl (a, .inl (cA, n, .inl f)) H) : va_at D vwCl (a, .inl (cA, n, .inl g)) H := by
  have h2 : H[a]? = some (vp_cell cA (n, .inl f)) := hP
  show H[a]? = some (vp_cell cA (n, .inl g))
  rw [h2, vp_cell_i, vp_cell_i, arrV_same (fun j hj => by rw [h j hj])]
section QCP
variable {p : Program} {l : Launch} {e : Env} {R : Room} {s : State} {m : MethodId} {args : Array Value} {below : List Frame} {meth : Method} {c : Code} {H : Heap} {locs : List Loc} {cells slots : Nat} {Q : State → Prop}
variable {cc : ByteArray} {nL : Nat} {ret : Option FieldType} {own : String} {ws : List Cond} {pc : Nat} {ls : Array Slot} {rest : List Value} {z : QZ} {c0 : Nat → va_E} {σ : Nat → QLs} {b : Nat} {S : QLs} {M : QMs} {α : Type} {At : α → (Nat → va_E) → Prop} {lo hi : Nat} {a : α}
/-- arraycopy of the first n places of the int array k0 to those of k1 -/
theorem G_copy (C0 : Cx p s m args meth c cc nL ret own ws) (hK : QK z s) (hsz : ls.size = nL) (h : GW z At lo hi s.heap c0 a H locs) {k0 k1 n0 n1 sp dp n : Nat} {f g f2 : Nat → Int32} (hk0 : k0 < hi) (hk1 : lo ≤ k1 ∧ k1 < hi) (hc0 : ∀ ct, At a ct → ct k0 = .inl (zI z, n0, .inl f)) (hc1 : ∀ ct, At a ct → ct k1 = .inl (zI z, n1, .inl g)) {i0 i1 i2 : Int32} (e0 : i0 = nI sp) (e1 : i1 = nI dp) (e2 : i2 = nI n) (h0 : sp + n ≤ n0) (h1 : dp + n ≤ n1) (hb0 : n0 < 2147483648) (hb1 : n1 < 2147483648) (hf2 : ∀ j, j < n1 → va_cpy f g sp dp n j = f2 j) {a' : α} (hu : ∀ ct, At a ct → At a' (va_up ct k1 (.inl (zI z, n1, .inl f2))))
    {index : Nat} (hl : Cond.methodLink own index arraycopyName ∈ ws) (hn : Cond.native arraycopyName ∈ ws) (hs : Cond.static arraycopyName ∈ ws) (hi9 : Cond.initialized "java/lang/System" ∈ ws) (hr : 1 ≤ R.frames ∧ (rest.map fun v => v.category).sum + (nativeFrameWords "java/lang/System" "arraycopy" 5 + 11) ≤ R.locals) (hdg : decode cc pc = .ok (.invokestatic index, 3))
    (kk : ∀ (H1 : Heap) (locs1 : List Loc), GW z At lo hi s.heap c0 a' H1 locs1 → W p l e R s m args below meth c H1 locs1 cells slots Q (F0 m (pc + 3) ls rest)) : W p l e R s m args below meth c H locs cells slots Q (F0 m pc ls (.int i2 :: .int i1 :: .ref (za z k1) :: .int i0 :: .ref (za z k0) :: rest)) := by
  obtain ⟨ct, hP, hS, hA, hF, hn9, hq⟩ := h
  subst e0; subst e1; subst e2
  have t0 : (nI sp).toNatClampNeg = sp := nI_clamp (by omega)
  have t1 : (nI dp).toNatClampNeg = dp := nI_clamp (by omega)
  have t2 : (nI n).toNatClampNeg = n := nI_clamp (by omega)
  refine va_copyi C0.1 C0.2.1 (C0.2.2.2.1.trans hsz.symm) C0.2.2.2.2.1 (C0.2.2.2.2.2.1 _ hl) (C0.2.2.2.2.2.1 _ hn) (C0.2.2.2.2.2.1 _ hs) (C0.2.2.2.2.2.1 _ hi9) hK.1 hP (wd_DA hq) hS k0 k1 0 0 ((wd_get (Nat.lt_of_lt_of_le hk0 hn9)).trans (by rw [hc0 ct hA])) ((wd_get (Nat.lt_of_lt_of_le hk1.2 hn9)).trans (by rw [hc1 ct hA])) rfl rfl rfl (nI_pos (by omega)) (nI_pos (by omega)) (nI_pos (by omega)) (by rw [t0, t2]; exact h0) (by rw [t1, t2]; exact h1) (fun _ _ => rfl) hr.1 hr.2 hdg (fun H1 locs1 hP1 hD1 hS1 => kk H1 locs1 ⟨_, ?_, hS1, hu ct hA, hF.up hk1, hn9, hq⟩)
  rw [t0, t1, t2, wd_set] at hP1
  exact wd_repl hP1 (fun a ha => va_at_int hf2 ha)
theorem K_cpT (C0 : Cx p s m args meth c cc nL ret own ws) (hK : QK z s) (hsz : ls.size = nL) (h : GW z (XAt z) 0 55 s.heap c0 (va_up σ 1 S) H locs) {i : Nat} (hi : i < 10)
    {index : Nat} (hl : Cond.methodLink own index arraycopyName ∈ ws) (hn : Cond.native arraycopyName ∈ ws) (hs : Cond.static arraycopyName ∈ ws) (hi9 : Cond.initialized "java/lang/System" ∈ ws) (hr : 1 ≤ R.frames ∧ (rest.map fun v => v.category).sum + (nativeFrameWords "java/lang/System" "arraycopy" 5 + 11) ≤ R.locals) (hdg : decode cc pc = .ok (.invokestatic index, 3))
    (kk : ∀ (H1 : Heap) (locs1 : List Loc) (S1 : QLs), S1 = sT S i (qT (σ 0) i) → GW z (XAt z) 0 55 s.heap c0 (va_up σ 1 S1) H1 locs1 → W p l e R s m args below meth c H1 locs1 cells slots Q (F0 m (pc + 3) ls rest)) : W p l e R s m args below meth c H locs cells slots Q (F0 m pc ls (.int 8 :: .int 0 :: .ref (za z (1 + 27 * 1 + (3 + i))) :: .int 0 :: .ref (za z (1 + 27 * 0 + (3 + i))) :: rest)) := by
  refine G_copy C0 hK hsz h (k0 := 1 + 27 * 0 + (3 + i)) (k1 := 1 + 27 * 1 + (3 + i)) (n := 8) (sp := 0) (dp := 0) (by omega) (by omega) (fun ct hA => (hA.2 0 (by omega)).2.2.2.1 i hi) (fun ct hA => (hA.2 1 (by omega)).2.2.2.1 i hi) rfl rfl rfl (by omega) (by omega) (by omega) (by omega) (f2 := qT (σ 0) i) (fun j hj => ?_) (a' := va_up (va_up σ 1 S) 1 (sT ((va_up σ 1 S) 1) i (qT (σ 0) i))) (fun ct hA => hA.T (by omega) hi _) hl hn hs hi9 hr hdg (fun H1 locs1 h1 => kk H1 locs1 _ rfl ?_)
  · rw [pk_cpy_in (by omega) (by omega), va_up_ne _ _ (by omega)]
    congr 1
    omega
  · rw [va_up_self, bx_uu] at h1; exact h1
theorem K_cpP (C0 : Cx p s m args meth c cc nL ret own ws) (hK : QK z s) (hsz : ls.size = nL) (h : GW z (XAt z) 0 55 s.heap c0 (va_up σ 1 S) H locs) {i : Nat} (hi : i < 14)
    {index : Nat} (hl : Cond.methodLink own index arraycopyName ∈ ws) (hn : Cond.native arraycopyName ∈ ws) (hs : Cond.static arraycopyName ∈ ws) (hi9 : Cond.initialized "java/lang/System" ∈ ws) (hr : 1 ≤ R.frames ∧ (rest.map fun v => v.category).sum + (nativeFrameWords "java/lang/System" "arraycopy" 5 + 11) ≤ R.locals) (hdg : decode cc pc = .ok (.invokestatic index, 3))
    (kk : ∀ (H1 : Heap) (locs1 : List Loc) (S1 : QLs), S1 = sP S i (qP (σ 0) i) → GW z (XAt z) 0 55 s.heap c0 (va_up σ 1 S1) H1 locs1 → W p l e R s m args below meth c H1 locs1 cells slots Q (F0 m (pc + 3) ls rest)) : W p l e R s m args below meth c H locs cells slots Q (F0 m pc ls (.int 10 :: .int 0 :: .ref (za z (1 + 27 * 1 + (13 + i))) :: .int 0 :: .ref (za z (1 + 27 * 0 + (13 + i))) :: rest)) := by
  refine G_copy C0 hK hsz h (k0 := 1 + 27 * 0 + (13 + i)) (k1 := 1 + 27 * 1 + (13 + i)) (n := 10) (sp := 0) (dp := 0) (by omega) (by omega) (fun ct hA => (hA.2 0 (by omega)).2.2.2.2 i hi) (fun ct hA => (hA.2 1 (by omega)).2.2.2.2 i hi) rfl rfl rfl (by omega) (by omega) (by omega) (by omega) (f2 := qP (σ 0) i) (fun j hj => ?_) (a' := va_up (va_up σ 1 S) 1 (sP ((va_up σ 1 S) 1) i (qP (σ 0) i))) (fun ct hA => hA.P (by omega) hi _) hl hn hs hi9 hr hdg (fun H1 locs1 h1 => kk H1 locs1 _ rfl ?_)
  · rw [pk_cpy_in (by omega) (by omega), va_up_ne _ _ (by omega)]
    congr 1
    omega
  · rw [va_up_self, bx_uu] at h1; exact h1
/-- a field of the other land -/
theorem K_gO (C0 : Cx p s m args meth c cc nL ret own ws) (hK : QK z s) (h : GW z (XAt z) 0 55 s.heap c0 (va_up σ 1 S) H locs) (hin : ∀ w ∈ u_ws RX0 TX0 5, w ∈ ws) (j : Nat) (hj : j < 5) {index : Nat} (hlink : Cond.fieldLink own index (TX0 j).1 (TX0 j).2.1 (TX0 j).2.2.1 ∈ ws) {v : Value} (hv : [Value.ref (za z (1 + 27 * 0 + 1)), .ref (za z (1 + 27 * 0 + 2)), .int (nI (qt (σ 0))), .int (nI (qp (σ 0))), .int (qD (σ 0))][j]? = some v) (hdg : decode cc pc = .ok (.getfield index, 3))
    (kk : W p l e R s m args below meth c H locs cells slots Q (F0 m (pc + 3) ls (v :: rest))) : W p l e R s m args below meth c H locs cells slots Q (F0 m pc ls (.ref (za z (1 + 27 * 0)) :: rest)) :=
  X_gL C0 hK h (b := 0) (by omega) hin j hj hlink (by rw [va_up_ne _ _ (by omega)]; exact hv) hdg kk
end QCP
abbrev cpTF (S0 : QLs) : Nat → QLs → QLs := fun i X => sT X i (qT S0 i)
abbrev cpPF (S0 : QLs) : Nat → QLs → QLs := fun i X => sP X i (qP S0 i)
def copyL (S0 S1 : QLs) : QLs := itN (cpPF S0) (qp S0) (itN (cpTF S0) (qt S0) (sp_ (st_ (sD S1 (qD S0)) (qt S0)) (qp S0)))
theorem cpT_t (S0 X : QLs) : ∀ n, qt (itN (cpTF S0) n X) = qt X ∧ qp (itN (cpTF S0) n X) = qp X
  | 0 => ⟨rfl, rfl⟩
  | n + 1 => cpT_t S0 X n
theorem cpP_t (S0 X : QLs) : ∀ n, qt (itN (cpPF S0) n X) = qt X ∧ qp (itN (cpPF S0) n X) = qp X
  | 0 => ⟨rfl, rfl⟩
  | n + 1 => cpP_t S0 X n
end
section
set_option maxHeartbeats 4000000 in
set_option maxRecDepth 100000 in
theorem c_X0_copyFrom (l : Launch) (z : QZ) (σ : Nat → QLs) (S : QLs) (hc1 : qt (σ 0) ≤ 10) (hc2 : qp (σ 0) ≤ 14) : GV l yX0_copyFrom wsX0_copyFrom ({ frames := 1, cells := 0, slots := 0, locals := 60 } : Room) z [.ref (za z (1 + 27 * 1)), .ref (za z (1 + 27 * 0))] 0 0 (XAt z) 0 55 (va_up σ 1 S) (fun σ' => σ' = va_up σ 1 (copyL (σ 0) S)) := by
  intro ct sz hn hq hat
  refine q_entry (lo := 0) (cc := cX0_copyFrom) (maxL := 3) (ret := none) (by decide) rfl (Nat.le_of_ble_eq_true rfl) hn hq hat ?_
  intro p e s m below meth c ls C0 hK hsz h hl
  subst hsz
  obtain ⟨hx, hb, hr, hml, hown, hts, hlocks⟩ := id C0
  have hB : 1 < 2 := by decide
  have hin0 : ∀ w ∈ u_ws RX0 TX0 5, w ∈ wsX0_copyFrom := by decide +kernel
  have hl : lv_has ls 3 [(0, .ref (za z (1 + 27 * 1))), (1, .ref (za z (1 + 27 * 0)))] := hl
  have L61 : ∀ (Sb : QLs) (hb2 : qp Sb = qp (σ 0)) (hq9 : itN (cpPF (σ 0)) (qp (σ 0)) Sb = copyL (σ 0) S) (d i : Nat), i + d = qp (σ 0) → ∀ (H : Heap) (locs : List Loc) (ls : Array Slot), GW z (XAt z) 0 55 s.heap ct (va_up σ 1 (itN (cpPF (σ 0)) i Sb)) H locs → lv_has ls 3 [(2, .int (nI i)), (0, .ref (za z (1 + 27 * 1))), (1, .ref (za z (1 + 27 * 0)))] → W p l e ({ frames := 1, cells := 0, slots := 0, locals := 60 } : Room) s m [.ref (za z (1 + 27 * 1)), .ref (za z (1 + 27 * 0))].toArray below meth c H locs 0 0 (EV z (XAt z) 0 55 ct s below [.ref (za z (1 + 27 * 1)), .ref (za z (1 + 27 * 0))] 0 0 (fun σ' => σ' = va_up σ 1 (copyL (σ 0) S))) (F0 m 61 ls []) := by
    intro Sb hb2 hq9 d
    induction d with
    | zero =>
      intro i hdi H locs ls h hl
      have hEi : i = qp (σ 0) := by omega
      obtain ⟨S1, eS1⟩ : ∃ z9, z9 = itN (cpPF (σ 0)) i Sb := ⟨_, rfl⟩
      rw [← eS1] at h
      have hs9 := cpP_t (σ 0) Sb i
      rw [← eS1] at hs9
      have hs1 := hs9.1
      have hs2 := hs9.2
      refine lv_iload_n hx hb dX0_copyFrom_61 rfl (lv_at hl 0 rfl) ?_
      refine lv_aload_n hx hb dX0_copyFrom_62 rfl (lv_at hl 1 rfl) ?_
      refine L_gL C0 hK h hB hin0 3 (by decide) (by decide +kernel) rfl dX0_copyFrom_63 ?_
      refine lv_icmp_ge (tgt := 94) hx hb dX0_copyFrom_66 (by decide) (fun _ => ?_) (fun q9 => absurd (nI_le (by omega) (by omega)) q9)
      exact G_vret C0 hK h (congrArg (va_up σ 1) (by rw [← hq9, eS1, hEi])) (Nat.le_of_ble_eq_true rfl) (Nat.le_of_ble_eq_true rfl) dX0_copyFrom_94
    | succ d ihL61 =>
      intro i hdi H locs ls h hl
      have hEi : i < qp (σ 0) := by omega
      obtain ⟨S2, eS2⟩ : ∃ z9, z9 = itN (cpPF (σ 0)) i Sb := ⟨_, rfl⟩
      rw [← eS2] at h
      have hs9 := cpP_t (σ 0) Sb i
      rw [← eS2] at hs9
      have hs1 := hs9.1
      have hs2 := hs9.2
      refine lv_iload_n hx hb dX0_copyFrom_61 rfl (lv_at hl 0 rfl) ?_
      refine lv_aload_n hx hb dX0_copyFrom_62 rfl (lv_at hl 1 rfl) ?_
      refine L_gL C0 hK h hB hin0 3 (by decide) (by decide +kernel) rfl dX0_copyFrom_63 ?_
      refine lv_icmp_ge (tgt := 94) hx hb dX0_copyFrom_66 (by decide) (fun q9 => absurd q9 (nI_ge (by omega) (by omega))) (fun _ => ?_)
      refine lv_aload_n hx hb dX0_copyFrom_69 rfl (lv_at hl 2 rfl) ?_
      refine K_gO C0 hK h hin0 1 (by decide) (by decide +kernel) rfl dX0_copyFrom_70 ?_
      refine lv_iload_n hx hb dX0_copyFrom_73 rfl (lv_at hl 0 rfl) ?_
      refine X_aP C0 hK h (b := 0) (by omega) (i := i) rfl (by omega) dX0_copyFrom_74 ?_
      refine lv_iconst (v := 0) hx hb dX0_copyFrom_75 (by decide) ?_
      refine lv_aload_n hx hb dX0_copyFrom_76 rfl (lv_at hl 1 rfl) ?_
      refine L_gL C0 hK h hB hin0 1 (by decide) (by decide +kernel) rfl dX0_copyFrom_77 ?_
      refine lv_iload_n hx hb dX0_copyFrom_80 rfl (lv_at hl 0 rfl) ?_
      refine X_aP C0 hK h (b := 1) (by omega) (i := i) rfl (by omega) dX0_copyFrom_81 ?_
      refine lv_iconst (v := 0) hx hb dX0_copyFrom_82 (by decide) ?_
      refine lv_bipush (v := 10) hx hb dX0_copyFrom_83 (by decide) ?_
      refine K_cpP C0 hK hl.1 h (by omega) (by decide +kernel) (by decide +kernel) (by decide +kernel) (by decide +kernel) (by decide) dX0_copyFrom_85 (fun H locs S3 eS3 h => ?_)
      refine lv_iinc (v := nI (i + 1)) (lv' := [(2, .int (nI (i + 1))), (0, .ref (za z (1 + 27 * 1))), (1, .ref (za z (1 + 27 * 0)))]) hx hb dX0_copyFrom_88 hl (k := 0) rfl (q_inc i 1) (by decide) rfl (fun ls hl => ?_)
      refine lv_goto (tgt := 61) hx hb dX0_copyFrom_91 (by decide) ?_
      exact ihL61 (i + 1) (by omega) _ _ _ (by subst eS3; rw [eS2] at h; exact h) (lv_sub hl [0, 1, 2] rfl)
  have L26 : ∀ (Sb : QLs) (hb1 : qt Sb = qt (σ 0)) (hb2 : qp Sb = qp (σ 0)) (hq9 : itN (cpPF (σ 0)) (qp (σ 0)) (itN (cpTF (σ 0)) (qt (σ 0)) Sb) = copyL (σ 0) S) (d i : Nat), i + d = qt (σ 0) → ∀ (H : Heap) (locs : List Loc) (ls : Array Slot), GW z (XAt z) 0 55 s.heap ct (va_up σ 1 (itN (cpTF (σ 0)) i Sb)) H locs → lv_has ls 3 [(2, .int (nI i)), (0, .ref (za z (1 + 27 * 1))), (1, .ref (za z (1 + 27 * 0)))] → W p l e ({ frames := 1, cells := 0, slots := 0, locals := 60 } : Room) s m [.ref (za z (1 + 27 * 1)), .ref (za z (1 + 27 * 0))].toArray below meth c H locs 0 0 (EV z (XAt z) 0 55 ct s below [.ref (za z (1 + 27 * 1)), .ref (za z (1 + 27 * 0))] 0 0 (fun σ' => σ' = va_up σ 1 (copyL (σ 0) S))) (F0 m 26 ls []) := by
    intro Sb hb1 hb2 hq9 d
    induction d with
    | zero =>
      intro i hdi H locs ls h hl
      have hEi : i = qt (σ 0) := by omega
      obtain ⟨S4, eS4⟩ : ∃ z9, z9 = itN (cpTF (σ 0)) i Sb := ⟨_, rfl⟩
      rw [← eS4] at h
      have hs9 := cpT_t (σ 0) Sb i
      rw [← eS4] at hs9
      have hs1 := hs9.1
      have hs2 := hs9.2
      refine lv_iload_n hx hb dX0_copyFrom_26 rfl (lv_at hl 0 rfl) ?_
      refine lv_aload_n hx hb dX0_copyFrom_27 rfl (lv_at hl 1 rfl) ?_
      refine L_gL C0 hK h hB hin0 2 (by decide) (by decide +kernel) rfl dX0_copyFrom_28 ?_
      refine lv_icmp_ge (tgt := 59) hx hb dX0_copyFrom_31 (by decide) (fun _ => ?_) (fun q9 => absurd (nI_le (by omega) (by omega)) q9)
      refine lv_iconst (v := 0) hx hb dX0_copyFrom_59 (by decide) ?_
      refine lv_istore_n (lv' := [(2, .int 0), (0, .ref (za z (1 + 27 * 1))), (1, .ref (za z (1 + 27 * 0)))]) hx hb dX0_copyFrom_60 rfl hl (by decide) rfl (fun ls hl => ?_)
      exact L61 S4 (by omega) (by rw [eS4, hEi]; exact hq9) (qp (σ 0)) 0 (by omega) _ _ _ h (lv_sub hl [0, 1, 2] rfl)
    | succ d ihL26 =>
      intro i hdi H locs ls h hl
      have hEi : i < qt (σ 0) := by omega
      obtain ⟨S5, eS5⟩ : ∃ z9, z9 = itN (cpTF (σ 0)) i Sb := ⟨_, rfl⟩
      rw [← eS5] at h
      have hs9 := cpT_t (σ 0) Sb i
      rw [← eS5] at hs9
      have hs1 := hs9.1
      have hs2 := hs9.2
      refine lv_iload_n hx hb dX0_copyFrom_26 rfl (lv_at hl 0 rfl) ?_
      refine lv_aload_n hx hb dX0_copyFrom_27 rfl (lv_at hl 1 rfl) ?_
      refine L_gL C0 hK h hB hin0 2 (by decide) (by decide +kernel) rfl dX0_copyFrom_28 ?_
      refine lv_icmp_ge (tgt := 59) hx hb dX0_copyFrom_31 (by decide) (fun q9 => absurd q9 (nI_ge (by omega) (by omega))) (fun _ => ?_)
      refine lv_aload_n hx hb dX0_copyFrom_34 rfl (lv_at hl 2 rfl) ?_
      refine K_gO C0 hK h hin0 0 (by decide) (by decide +kernel) rfl dX0_copyFrom_35 ?_
      refine lv_iload_n hx hb dX0_copyFrom_38 rfl (lv_at hl 0 rfl) ?_
      refine X_aT C0 hK h (b := 0) (by omega) (i := i) rfl (by omega) dX0_copyFrom_39 ?_
      refine lv_iconst (v := 0) hx hb dX0_copyFrom_40 (by decide) ?_
      refine lv_aload_n hx hb dX0_copyFrom_41 rfl (lv_at hl 1 rfl) ?_
      refine L_gL C0 hK h hB hin0 0 (by decide) (by decide +kernel) rfl dX0_copyFrom_42 ?_
      refine lv_iload_n hx hb dX0_copyFrom_45 rfl (lv_at hl 0 rfl) ?_
      refine X_aT C0 hK h (b := 1) (by omega) (i := i) rfl (by omega) dX0_copyFrom_46 ?_
      refine lv_iconst (v := 0) hx hb dX0_copyFrom_47 (by decide) ?_
      refine lv_bipush (v := 8) hx hb dX0_copyFrom_48 (by decide) ?_
      refine K_cpT C0 hK hl.1 h (by omega) (by decide +kernel) (by decide +kernel) (by decide +kernel) (by decide +kernel) (by decide) dX0_copyFrom_50 (fun H locs S6 eS6 h => ?_)
      refine lv_iinc (v := nI (i + 1)) (lv' := [(2, .int (nI (i + 1))), (0, .ref (za z (1 + 27 * 1))), (1, .ref (za z (1 + 27 * 0)))]) hx hb dX0_copyFrom_53 hl (k := 0) rfl (q_inc i 1) (by decide) rfl (fun ls hl => ?_)
      refine lv_goto (tgt := 26) hx hb dX0_copyFrom_56 (by decide) ?_
      exact ihL26 (i + 1) (by omega) _ _ _ (by subst eS6; rw [eS5] at h; exact h) (lv_sub hl [0, 1, 2] rfl)
  refine lv_aload_n hx hb dX0_copyFrom_0 rfl (lv_at hl 0 rfl) ?_
  refine lv_aload_n hx hb dX0_copyFrom_1 rfl (lv_at hl 1 rfl) ?_
  refine K_gO C0 hK h hin0 4 (by decide) (by decide +kernel) rfl dX0_copyFrom_2 ?_
  refine L_pd C0 hK h hB hin0 (by decide +kernel) dX0_copyFrom_5 (fun H locs S7 eS7 h => ?_)
  refine lv_aload_n hx hb dX0_copyFrom_8 rfl (lv_at hl 0 rfl) ?_
  refine lv_aload_n hx hb dX0_copyFrom_9 rfl (lv_at hl 1 rfl) ?_
  refine K_gO C0 hK h hin0 2 (by decide) (by decide +kernel) rfl dX0_copyFrom_10 ?_
  refine L_pt C0 hK h hB hin0 (by decide +kernel) (n := qt (σ 0)) rfl dX0_copyFrom_13 (fun H locs S8 eS8 h => ?_)
  refine lv_aload_n hx hb dX0_copyFrom_16 rfl (lv_at hl 0 rfl) ?_
  refine lv_aload_n hx hb dX0_copyFrom_17 rfl (lv_at hl 1 rfl) ?_
  refine K_gO C0 hK h hin0 3 (by decide) (by decide +kernel) rfl dX0_copyFrom_18 ?_
  refine L_pp C0 hK h hB hin0 (by decide +kernel) (n := qp (σ 0)) rfl dX0_copyFrom_21 (fun H locs S9 eS9 h => ?_)
  refine lv_iconst (v := 0) hx hb dX0_copyFrom_24 (by decide) ?_
  refine lv_istore_n (lv' := [(2, .int 0), (0, .ref (za z (1 + 27 * 1))), (1, .ref (za z (1 + 27 * 0)))]) hx hb dX0_copyFrom_25 rfl hl (by decide) rfl (fun ls hl => ?_)
  exact L26 S9 (by subst eS9 eS8 eS7; rfl) (by subst eS9 eS8 eS7; rfl) (by subst eS9 eS8 eS7; rfl) (qt (σ 0)) 0 (by omega) _ _ _ h (lv_sub hl [0, 1, 2] rfl)
end
section
/-! PART 20: what the reference's methods do, as functions -/
def mSetT (M : QMs) (i k : Nat) (x : Int32) : QMs := uA M (upd (mA M) (8 * i + k) x)
def mSetP (M : QMs) (i k : Nat) (x : Int32) : QMs := uB M (upd (mB M) (9 * i + k) x)
def mf (M : QMs) (k : Nat) : Nat := (mB M (9 * k + 0)).toNatClampNeg
def mo (M : QMs) (k : Nat) : Nat := (mB M (9 * k + 1)).toNatClampNeg
def MOk (M : QMs) : Prop := mt_ M ≤ 10 ∧ mp_ M ≤ 14 ∧ ∀ k, k < mp_ M → mf M k < mt_ M ∧ mo M k < mt_ M ∧ mf M k ≠ mo M k ∧ mB M (9 * k + 0) = nI (mf M k) ∧ mB M (9 * k + 1) = nI (mo M k)
def mhead (M : QMs) (i : Nat) : Int32 := 10 * mA M (8 * i + 0) + mA M (8 * i + 3)
def mflows (M : QMs) (k : Nat) : Int32 :=
  let d := mhead M (mf M k) - mhead M (mo M k)
  if d ≤ 0 then 0 else if mB M (9 * k + 3) ≤ d then qmin (mA M (8 * mf M k + 3)) (qmin (d / 10 + 1) (qmax 0 (mB M (9 * k + 2) - mB M (9 * k + 4)))) else 0
def mtold (M : QMs) (k w : Nat) : Int32 := if w = 8 then mflows M k else mB M (9 * k + w)
def mall (M : QMs) (k : Nat) : Int32 := qsum (fun j => mA M (8 * j + k)) (mt_ M)
def mallP (M : QMs) (k : Nat) : Int32 := qsum (fun j => mB M (9 * j + k)) (mp_ M)
/-- x is one of 0 .. n - 1 -/
abbrev qin (x : Int32) (n : Nat) : Prop := 0 ≤ x ∧ x < nI n
theorem qin_of {x : Int32} {n : Nat} (hn : n < 2147483648) (h : qin x n) : ∃ i, i < n ∧ x = nI i := by
  obtain ⟨i, hi, rfl⟩ := nI_of (Int32.not_lt.mpr h.1)
  exact ⟨i, (nI_ltI hi hn).mp h.2, rfl⟩
theorem qin_nI {n i : Nat} (hn : n < 2147483648) (h : i < n) : qin (nI i) n := ⟨nI_pos' (by omega), nI_lt h hn⟩
theorem q_pred {n : Nat} (hn : n < 2147483648) : (nI n - 1).toInt = (n : Int) - 1 := by
  rcases n with _ | n
  · decide
  · rw [nI_pred, nI_toInt (by omega)]; omega
theorem qin_iff {x : Int32} {n : Nat} (hn : n < 2147483648) : (0 ≤ x ∧ x ≤ nI n - 1) ↔ qin x n := by
  constructor
  · intro h
    refine ⟨h.1, ?_⟩
    have h2 := h.2
    rw [Int32.lt_iff_toInt_lt, nI_toInt hn]
    rw [Int32.le_iff_toInt_le, q_pred hn] at h2
    omega
  · intro h
    refine ⟨h.1, ?_⟩
    have h2 := h.2
    rw [Int32.le_iff_toInt_le, q_pred hn]
    rw [Int32.lt_iff_toInt_lt, nI_toInt hn] at h2
    omega
theorem q_isin {x : Int32} {n : Nat} (hn : n < 2147483648) : (if 0 ≤ x ∧ x ≤ nI n - 1 then (1 : Int32) else 0) = if qin x n then 1 else 0 := by
  by_cases h : qin x n
  · rw [if_pos h, if_pos ((qin_iff hn).mpr h)]
  · rw [if_neg h, if_neg (fun q => h ((qin_iff hn).mp q))]
theorem mB_uB (M : QMs) (f : Nat → Int32) : mB (uB M f) = f := rfl
theorem mB_uA (M : QMs) (f : Nat → Int32) : mB (uA M f) = mB M := rfl
theorem mA_uA (M : QMs) (f : Nat → Int32) : mA (uA M f) = f := rfl
theorem mA_uB (M : QMs) (f : Nat → Int32) : mA (uB M f) = mA M := rfl
def mPour (M : QMs) (i : Nat) (x y : Int32) : QMs :=
  let v := mA M (8 * i + 3) + x
  let M1 := mSetT M i 7 (mA M (8 * i + 7) + qmax 0 (v - 200))
  let M2 := mSetT M1 i 3 (qmin 200 v)
  mSetT M2 i 4 (qmin 99 (mA M2 (8 * i + 4) + y))
def mflow (M : QMs) (k : Nat) : QMs :=
  let x := mflows M k
  let y := qmin x (mB M (9 * k + 8))
  let M1 := mSetP M k 5 x
  let M2 := mSetP M1 k 6 y
  let M3 := mSetP M2 k 7 (mB M2 (9 * k + 7) + y)
  if x = 0 then M3 else
    let v := mA M3 (8 * mf M k + 4) * x / mA M3 (8 * mf M k + 3)
    let M4 := mSetT M3 (mf M k) 3 (mA M3 (8 * mf M k + 3) - x)
    let M5 := mSetT M4 (mf M k) 4 (mA M4 (8 * mf M k + 4) - v)
    mPour M5 (mo M k) (x - y) v
def mcrust (M : QMs) (k : Nat) : QMs := if mB M (9 * k + 5) ≤ 0 then M else mSetP M k 4 (qmin 20 (mB M (9 * k + 4) + 1))
def mdrink (M : QMs) (i : Nat) : QMs :=
  let v := if mA M (8 * i + 4) < 50 then mA M (8 * i + 2) else mA M (8 * i + 2) / 2
  let x := qmin v (mA M (8 * i + 3))
  let M1 := mSetT M i 3 (mA M (8 * i + 3) - x)
  let M2 := mSetT M1 i 5 x
  mSetT M2 i 6 (mA M2 (8 * i + 6) + x)
abbrev mfeedF : Nat → QMs → QMs := fun i X => mPour X i (mA X (8 * i + 1)) (mA X (8 * i + 1) / 4)
abbrev mflowF : Nat → QMs → QMs := fun k X => mflow X k
abbrev mcrustF : Nat → QMs → QMs := fun k X => mcrust X k
abbrev mdrinkF : Nat → QMs → QMs := fun i X => mdrink X i
def mday (M : QMs) : QMs :=
  let M1 := itN mfeedF (mt_ M) M
  let M2 := itN mflowF (mp_ M1) M1
  let M3 := if mY M2 0 - mY M2 0 / 4 * 4 = 0 then itN mcrustF (mp_ M2) M2 else M2
  let M4 := itN mdrinkF (mt_ M3) M3
  uY M4 (upd (mY M4) 0 (mY M4 0 + 1))
abbrev mdayF : Nat → QMs → QMs := fun _ X => mday X
/-- the same shape -/
def MShp (M M2 : QMs) : Prop := mt_ M2 = mt_ M ∧ mp_ M2 = mp_ M ∧ (∀ k, mB M2 (9 * k + 0) = mB M (9 * k + 0) ∧ mB M2 (9 * k + 1) = mB M (9 * k + 1)) ∧ mH M2 = mH M
theorem MShp.rf {M : QMs} : MShp M M := ⟨rfl, rfl, fun _ => ⟨rfl, rfl⟩, rfl⟩
theorem MShp.trans {M M2 M3 : QMs} (h : MShp M M2) (h2 : MShp M2 M3) : MShp M M3 := ⟨h2.1.trans h.1, h2.2.1.trans h.2.1, fun k => ⟨(h2.2.2.1 k).1.trans (h.2.2.1 k).1, (h2.2.2.1 k).2.trans (h.2.2.1 k).2⟩, h2.2.2.2.trans h.2.2.2⟩
theorem MShp.ok {M M2 : QMs} (h : MShp M M2) (hk : MOk M) : MOk M2 := by
  obtain ⟨h1, h2, h3, -⟩ := h
  obtain ⟨k1, k2, k3⟩ := hk
  have e0 : ∀ k, mf M2 k = mf M k := fun k => by unfold mf; rw [(h3 k).1]
  have e1 : ∀ k, mo M2 k = mo M k := fun k => by unfold mo; rw [(h3 k).2]
  refine ⟨by rw [h1]; exact k1, by rw [h2]; exact k2, fun k hk => ?_⟩
  rw [h2] at hk
  rw [e0, e1, h1, (h3 k).1, (h3 k).2]
  exact k3 k hk
theorem mshp_setT {M : QMs} {i k : Nat} {x : Int32} : MShp M (mSetT M i k x) := ⟨rfl, rfl, fun _ => ⟨rfl, rfl⟩, rfl⟩
theorem mshp_setP {M : QMs} {i j : Nat} {x : Int32} (h1 : 2 ≤ j) (h2 : j < 9) : MShp M (mSetP M i j x) := by
  refine ⟨rfl, rfl, fun k => ?_, rfl⟩
  show upd (mB M) (9 * i + j) x (9 * k + 0) = _ ∧ upd (mB M) (9 * i + j) x (9 * k + 1) = _
  exact ⟨pk_un (by omega), pk_un (by omega)⟩
theorem mshp_uY {M : QMs} {f : Nat → Int32} : MShp M (uY M f) := ⟨rfl, rfl, fun _ => ⟨rfl, rfl⟩, rfl⟩
theorem mshp_it {f : Nat → QMs → QMs} (hf : ∀ i M, MShp M (f i M)) (M : QMs) : ∀ n, MShp M (itN f n M)
  | 0 => MShp.rf
  | n + 1 => (mshp_it hf M n).trans (hf n _)
theorem mshp_pour {M : QMs} {i : Nat} {x y : Int32} : MShp M (mPour M i x y) := (mshp_setT.trans mshp_setT).trans mshp_setT
theorem mshp_flow {M : QMs} {k : Nat} : MShp M (mflow M k) := by
  have h3 : ∀ x y v : Int32, MShp M (mSetP (mSetP (mSetP M k 5 x) k 6 y) k 7 v) := fun x y v => ((mshp_setP (by decide) (by decide)).trans (mshp_setP (by decide) (by decide))).trans (mshp_setP (by decide) (by decide))
  unfold mflow
  simp only []
  split
  · exact h3 _ _ _
  · exact (((h3 _ _ _).trans mshp_setT).trans mshp_setT).trans mshp_pour
theorem mshp_crust {M : QMs} {k : Nat} : MShp M (mcrust M k) := by
  unfold mcrust
  split
  · exact MShp.rf
  · exact mshp_setP (by decide) (by decide)
theorem mshp_drink {M : QMs} {i : Nat} : MShp M (mdrink M i) := (mshp_setT.trans mshp_setT).trans mshp_setT
theorem mshp_day (M : QMs) : MShp M (mday M) := by
  unfold mday
  refine MShp.trans ?_ mshp_uY
  refine MShp.trans ?_ (mshp_it (f := mdrinkF) (fun _ _ => mshp_drink) _ _)
  refine MShp.trans ((mshp_it (f := mfeedF) (fun _ _ => mshp_pour) M (mt_ M)).trans (mshp_it (f := mflowF) (fun _ _ => mshp_flow) _ (mp_ (itN mfeedF (mt_ M) M)))) ?_
  show MShp _ (if _ then _ else _)
  split
  · exact mshp_it (f := mcrustF) (fun _ _ => mshp_crust) _ _
  · exact MShp.rf
theorem mshp_days (M : QMs) (n : Nat) : MShp M (itN mdayF n M) := mshp_it (f := mdayF) (fun _ X => mshp_day X) M n
theorem mcrust_Y (M : QMs) : ∀ n, mY (itN mcrustF n M) = mY M
  | 0 => rfl
  | n + 1 => by
    show mY (mcrust (itN mcrustF n M) n) = _
    rw [← mcrust_Y M n]
    unfold mcrust
    split <;> rfl
theorem q_tenth {d : Int32} (h : ¬ d ≤ 0) : 0 < d / 10 + 1 := by
  have h1 : (0 : Int) < d.toInt := by
    have := Int32.not_le.mp h
    rw [Int32.lt_iff_toInt_lt] at this
    simpa using this
  have h2 : d.toInt < 2147483648 := by have := Int32.toInt_lt d; simpa using this
  have h3 : (d / 10).toInt = d.toInt / 10 := by
    rw [Int32.toInt_div_of_ne_right _ _ (by decide)]
    show d.toInt.tdiv 10 = _
    exact Int.tdiv_eq_ediv_of_nonneg (by omega)
  have h4 : (d / 10 + 1).toInt = d.toInt / 10 + 1 := by
    rw [Int32.toInt_add, h3]
    show (d.toInt / 10 + 1).bmod _ = _
    apply Int.bmod_eq_of_le <;> omega
  rw [Int32.lt_iff_toInt_lt, h4]
  show (0 : Int) < _
  omega
theorem mflows_ne {M : QMs} {k : Nat} (h : ¬ mflows M k = 0) : ¬ mA M (8 * mf M k + 3) = 0 := by
  intro q
  apply h
  unfold mflows
  simp only []
  split
  · rfl
  · rename_i hd
    split
    · rw [q]
      have h1 := q_tenth hd
      generalize (mhead M (mf M k) - mhead M (mo M k)) / 10 + 1 = y at h1
      generalize mB M (9 * k + 2) - mB M (9 * k + 4) = v
      have h2 : ¬ qmin y (qmax 0 v) < 0 := by
        by_cases a : qmax 0 v < y
        · rw [show qmin y (qmax 0 v) = qmax 0 v from if_pos a]
          by_cases b : 0 < v
          · rw [show qmax 0 v = v from if_pos b]
            exact fun z => Int32.lt_irrefl (Int32.lt_trans b z)
          · rw [show qmax 0 v = 0 from if_neg b]
            exact Int32.lt_irrefl
        · rw [show qmin y (qmax 0 v) = y from if_neg a]
          exact fun z => Int32.lt_irrefl (Int32.lt_trans h1 z)
      show (if qmin y (qmax 0 v) < 0 then _ else (0 : Int32)) = 0
      rw [if_neg h2]
    · rfl
theorem q_rng (a b : Nat) {x y v : Int32} {k : Nat} (hx : x = nI a) (hy : y = nI b) (h : v = nI k ∧ a ≤ k ∧ k ≤ b ∧ b < 2147483648 := by first | exact ⟨rfl, by omega, by omega, by omega⟩ | exact ⟨rfl, by omega⟩) : x ≤ v ∧ v ≤ y := by
  obtain ⟨rfl, h1, h2, h3⟩ := h
  rw [hx, hy]
  exact ⟨nI_le h1 (by omega), nI_le h2 h3⟩
def mthc (M : QMs) : Nat → Int32
  | 0 => 0
  | n + 1 => if mA M (8 * n + 5) < mA M (8 * n + 2) then mthc M n + 1 else mthc M n + 0
def mcount (M : QMs) : Nat → Int32
  | 0 => mY M 0
  | 1 => nI (mt_ M)
  | 2 => nI (mp_ M)
  | 3 => mall M 3
  | 4 => mall M 4
  | 5 => mall M 6
  | 6 => mallP M 7
  | 7 => mall M 7
  | _ => mthc M (mt_ M)
def mrStep (M : QMs) (x : Int32) (k : Nat) (r : Int32) : Int32 :=
  if mB M (9 * k + 0) = x then r ||| (1 <<< (mB M (9 * k + 1) &&& 31)) else if ¬ (r >>> (mB M (9 * k + 0) &&& 31)) &&& 1 = 1 then r else r ||| (1 <<< (mB M (9 * k + 1) &&& 31))
theorem mrStep_a {M : QMs} {x r : Int32} {k : Nat} (h : mB M (9 * k + 0) = x) : mrStep M x k r = r ||| (1 <<< (mB M (9 * k + 1) &&& 31)) := if_pos h
theorem mrStep_b {M : QMs} {x r : Int32} {k : Nat} (h : ¬ mB M (9 * k + 0) = x) (h2 : ¬ (r >>> (mB M (9 * k + 0) &&& 31)) &&& 1 = 1) : mrStep M x k r = r := (if_neg h).trans (if_pos h2)
theorem mrStep_c {M : QMs} {x r : Int32} {k : Nat} (h : ¬ mB M (9 * k + 0) = x) (h2 : (r >>> (mB M (9 * k + 0) &&& 31)) &&& 1 = 1) : mrStep M x k r = r ||| (1 <<< (mB M (9 * k + 1) &&& 31)) := (if_neg h).trans (if_neg (fun q => q h2))
def mrRound (M : QMs) (x : Int32) (r : Int32) : Int32 := itN (mrStep M x) (mp_ M) r
def mreach (M : QMs) (x : Int32) : Int32 := itN (fun _ r => mrRound M x r) (mt_ M + 1) 0
theorem mthc_uh (M : QMs) (x : Int32) : ∀ n, mthc (uh M x) n = mthc M n
  | 0 => rfl
  | n + 1 => by
    simp only [mthc]
    rw [mthc_uh M x n]
    rfl
theorem mcount_uh (M : QMs) (x : Int32) (n : Nat) : mcount (uh M x) n = mcount M n := by
  match n with
  | 0 => rfl
  | 1 => rfl
  | 2 => rfl
  | 3 => rfl
  | 4 => rfl
  | 5 => rfl
  | 6 => rfl
  | 7 => rfl
  | n + 8 => exact mthc_uh M x (mt_ M)
/-- the pipe that lost the most, among the first ones -/
def msus (M : QMs) : Nat → Int32
  | 0 => -1
  | n + 1 => if mB M (9 * n + 6) ≤ (if msus M n = -1 then 0 else mB M (9 * (msus M n).toNatClampNeg + 6)) then msus M n else nI n
theorem msus_c (M : QMs) : ∀ n, msus M n = -1 ∨ ∃ j, j < n ∧ msus M n = nI j
  | 0 => Or.inl rfl
  | n + 1 => by
    have e : msus M (n + 1) = (if mB M (9 * n + 6) ≤ (if msus M n = -1 then 0 else mB M (9 * (msus M n).toNatClampNeg + 6)) then msus M n else nI n) := rfl
    rw [e]
    generalize (if msus M n = -1 then (0 : Int32) else mB M (9 * (msus M n).toNatClampNeg + 6)) = y
    split
    · rcases msus_c M n with h | ⟨j, hj, h⟩
      · exact Or.inl h
      · exact Or.inr ⟨j, by omega, h⟩
    · exact Or.inr ⟨n, by omega, rfl⟩
theorem msus_v {M : QMs} {n j : Nat} (h : ¬ msus M n = -1) (ej : msus M n = nI j) (hj : j < 2147483648) : (if msus M n = -1 then (0 : Int32) else mB M (9 * (msus M n).toNatClampNeg + 6)) = mB M (9 * j + 6) := by
  rw [if_neg h, ej, nI_clamp hj]
theorem msus_j {M : QMs} {n j : Nat} (hj : j < 2147483648) (ej : msus M n = nI j) : (msus M n).toNatClampNeg = j := by rw [ej, nI_clamp hj]
theorem msus_a {M : QMs} {n j : Nat} (h : ¬ msus M n = -1) (ej : msus M n = nI j) (c : mB M (9 * n + 6) ≤ mB M (9 * j + 6)) (hj : j < 2147483648 := by omega) : msus M (n + 1) = msus M n := by
  show (if _ then _ else _) = _
  rw [msus_v h ej hj, if_pos c]
theorem msus_b {M : QMs} {n j : Nat} (h : ¬ msus M n = -1) (ej : msus M n = nI j) (c : ¬ mB M (9 * n + 6) ≤ mB M (9 * j + 6)) (hj : j < 2147483648 := by omega) : msus M (n + 1) = nI n := by
  show (if _ then _ else _) = _
  rw [msus_v h ej hj, if_neg c]
theorem msus_c2 {M : QMs} {n : Nat} (h : msus M n = -1) : (if msus M n = -1 then (0 : Int32) else mB M (9 * (msus M n).toNatClampNeg + 6)) = 0 := if_pos h
theorem msus_e {M : QMs} {n : Nat} (h : msus M n = -1) (c : mB M (9 * n + 6) ≤ 0) : msus M (n + 1) = msus M n := by
  show (if _ then _ else _) = _
  rw [msus_c2 h, if_pos c]
theorem msus_d {M : QMs} {n : Nat} (h : msus M n = -1) (c : ¬ mB M (9 * n + 6) ≤ 0) : msus M (n + 1) = nI n := by
  show (if _ then _ else _) = _
  rw [msus_c2 h, if_neg c]
def qlong (f : Nat → Int32) : Nat → Int64 → Int64
  | 0, d => d
  | n + 1, d => qlong f n d * 31 + (f n).toInt64
def mdigT (M : QMs) : Nat → Int64 → Int64
  | 0, d => d
  | n + 1, d => qlong (fun w => mA M (8 * n + w)) 8 (mdigT M n d)
def mdigP (M : QMs) : Nat → Int64 → Int64
  | 0, d => d
  | n + 1, d => qlong (fun w => mtold M n w) 9 (mdigP M n d) * 31 + (mB M (9 * n + 8)).toInt64
def mmean (M : QMs) : UInt64 := if mY M 0 = 0 then FP.dconst0 else FP.ddiv (FP.i2d (mall M 6)) (FP.i2d (mY M 0))
theorem q_ddiv {x y : Int32} (h : ¬ y = 0) : vf_n64 (FP.ddiv (FP.i2d x) (FP.i2d y)) := by
  have h1 : FP.Core.dIsNaN (FP.Core.ddiv (FP.Core.i2d x) (FP.Core.i2d y)) = false := FP.Core.ddiv_out (FP.Core.i2d_fin x).notNaN (FP.Core.i2d_fin y) (fun hz => FP.Core.i2d_ne_zero h ((FP.Core.zero_bits2 _).mp hz))
  have h2 : ¬ 9218868437227405312 < (FP.Core.ddiv (FP.Core.i2d x) (FP.Core.i2d y)).toNat % 2 ^ 63 := fun q => by
    rw [(FP.Core.isNaN_bits _).mpr q] at h1; cases h1
  show (FP.Core.ddiv (FP.Core.i2d x) (FP.Core.i2d y)) &&& 0x7fffffffffffffff ≤ 0x7ff0000000000000
  rw [UInt64.le_iff_toNat_le, UInt64.toNat_and]
  have e1 : (0x7fffffffffffffff : UInt64).toNat = 2 ^ 63 - 1 := by decide
  have e2 : (0x7ff0000000000000 : UInt64).toNat = 9218868437227405312 := by decide
  rw [e1, e2, Nat.and_two_pow_sub_one_eq_mod]
  omega
theorem bb_eq {M M2 : QMs} (h : MShp M M2) : (mH M2, mt_ M2, mp_ M2, mA M, mB M, mY M) = M := by
  obtain ⟨h1, h2, -, h4⟩ := h
  rw [h1, h2, h4]
def mfore (M : QMs) (n k : Nat) : Int32 :=
  if k = 0 then mall (itN mdayF n M) 6 - mall M 6 else if k = 1 then mallP (itN mdayF n M) 7 - mallP M 7 else if k = 2 then mall (itN mdayF n M) 3 else mallP (itN mdayF n M) 4
def madv (M : QMs) (n : Nat) : Nat → Int32 × Int32
  | 0 => (-1, mall (itN mdayF n M) 6)
  | k + 1 => if (madv M n k).2 < mall (itN mdayF n (mSetP M k 4 0)) 6 then (nI k, mall (itN mdayF n (mSetP M k 4 0)) 6) else madv M n k
theorem q_nIc {k : Nat} (c : Nat) (h : nI k = nI c) (hk : k < 2147483648 ∧ c < 2147483648 := by omega) : k = c := (nI_eq hk.1 hk.2).mp h
theorem q_nIcn {k : Nat} (c : Nat) (h : ¬ nI k = nI c) : ¬ k = c := fun q => h (by rw [q])
theorem q_nI0 {k : Nat} (h : nI k = 0) (hk : k < 2147483648 := by omega) : k = 0 := (nI_eq hk (by decide)).mp h
theorem q_nI0n {k : Nat} (h : ¬ nI k = 0) : ¬ k = 0 := fun q => h (by rw [q]; rfl)
/-- on which day tank t first drinks all of its thirst, after j days, d days tried -/
def msatF (M : QMs) (t : Nat) : Nat → Nat → Int32
  | 0, _ => -1
  | d + 1, j => if mA (mday (itN mdayF j M)) (8 * t + 5) = mA (mday (itN mdayF j M)) (8 * t + 2) then nI (j + 1) else msatF M t d (j + 1)
theorem msat_p {M : QMs} {t d j : Nat} (h : mA (mday (itN mdayF j M)) (8 * t + 5) = mA (mday (itN mdayF j M)) (8 * t + 2)) : msatF M t (d + 1) j = nI (j + 1) := if_pos h
theorem msat_n {M : QMs} {t d j : Nat} (h : ¬ mA (mday (itN mdayF j M)) (8 * t + 5) = mA (mday (itN mdayF j M)) (8 * t + 2)) : msatF M t (d + 1) j = msatF M t d (j + 1) := if_neg h
theorem q_nm1 {k : Nat} (h : k < 2147483648 := by omega) : ¬ nI k = -1 := fun q => by
  have := nI_toInt h
  rw [q] at this
  have e : (-1 : Int32).toInt = -1 := by decide
  omega
end
section
theorem dX1_init_0 : decode cX1_init 0 = .ok (.aload_n 0, 1) := by decide +kernel
theorem dX1_init_1 : decode cX1_init 1 = .ok (.invokespecial 1, 3) := by decide +kernel
theorem dX1_init_4 : decode cX1_init 4 = .ok (.aload_n 0, 1) := by decide +kernel
theorem dX1_init_5 : decode cX1_init 5 = .ok (.new 7, 3) := by decide +kernel
theorem dX1_init_8 : decode cX1_init 8 = .ok (.dup, 1) := by decide +kernel
theorem dX1_init_9 : decode cX1_init 9 = .ok (.invokespecial 9, 3) := by decide +kernel
theorem dX1_init_12 : decode cX1_init 12 = .ok (.putfield 10, 3) := by decide +kernel
theorem dX1_init_15 : decode cX1_init 15 = .ok (.aload_n 0, 1) := by decide +kernel
theorem dX1_init_16 : decode cX1_init 16 = .ok (.new 7, 3) := by decide +kernel
theorem dX1_init_19 : decode cX1_init 19 = .ok (.dup, 1) := by decide +kernel
theorem dX1_init_20 : decode cX1_init 20 = .ok (.invokespecial 9, 3) := by decide +kernel
theorem dX1_init_23 : decode cX1_init 23 = .ok (.putfield 16, 3) := by decide +kernel
theorem dX1_init_26 : decode cX1_init 26 = .ok (.return_, 1) := by decide +kernel
set_option maxRecDepth 20000 in
theorem ggX1_build_X1_isWithin : GoodIn wsX1_build wsX1_isWithin := goodIn_r _ [7] (by decide +kernel) (by decide +kernel)
set_option maxRecDepth 20000 in
theorem gX1_build_X1_isWithin : GoodIn wsX1_build (va_wsS RX1 19 yX1_isWithin wsX1_isWithin) := goodIn_app (goodIn_of _ (by decide +kernel)) ggX1_build_X1_isWithin
set_option maxRecDepth 20000 in
theorem ggX1_build_X1_needArgument : GoodIn wsX1_build wsX1_needArgument := goodIn_ca (goodIn_r _ [10, 11, 12] (by decide +kernel) (by decide +kernel)) (goodIn_sub (fun _ h => List.mem_cons_of_mem _ (List.mem_append_right _ h)) (by decide +kernel))
set_option maxRecDepth 20000 in
theorem gX1_build_X1_needArgument : GoodIn wsX1_build (va_wsS RX1 23 yX1_needArgument wsX1_needArgument) := goodIn_app (goodIn_of _ (by decide +kernel)) ggX1_build_X1_needArgument
set_option maxRecDepth 20000 in
theorem ggX1_build_X1_isSpringAndThirst : GoodIn wsX1_build wsX1_isSpringAndThirst := goodIn_r _ [15, 4, 5, 6, 7] (by decide +kernel) (by decide +kernel)
set_option maxRecDepth 20000 in
theorem gX1_build_X1_isSpringAndThirst : GoodIn wsX1_build (va_wsS RX1 27 yX1_isSpringAndThirst wsX1_isSpringAndThirst) := goodIn_app (goodIn_of _ (by decide +kernel)) ggX1_build_X1_isSpringAndThirst
set_option maxRecDepth 20000 in
theorem ggX1_build_X0_addTank : GoodIn wsX1_build wsX0_addTank := goodIn_r _ [20, 21, 22, 25, 26, 27, 28, 29] (by decide +kernel) (by decide +kernel)
set_option maxRecDepth 20000 in
theorem gX1_build_X0_addTank : GoodIn wsX1_build (wsV RX1 31 RX0 yX0_addTank wsX0_addTank) := goodIn_app (goodIn_of _ (by decide +kernel)) ggX1_build_X0_addTank
theorem dX1_build_0 : decode cX1_build 0 = .ok (.iload_n 1, 1) := by decide +kernel
theorem dX1_build_1 : decode cX1_build 1 = .ok (.iconst 0, 1) := by decide +kernel
theorem dX1_build_2 : decode cX1_build 2 = .ok (.bipush 99, 2) := by decide +kernel
theorem dX1_build_4 : decode cX1_build 4 = .ok (.invokestatic 19, 3) := by decide +kernel
theorem dX1_build_7 : decode cX1_build 7 = .ok (.invokestatic 23, 3) := by decide +kernel
theorem dX1_build_10 : decode cX1_build 10 = .ok (.iload_n 2, 1) := by decide +kernel
theorem dX1_build_11 : decode cX1_build 11 = .ok (.iload_n 3, 1) := by decide +kernel
theorem dX1_build_12 : decode cX1_build 12 = .ok (.invokestatic 27, 3) := by decide +kernel
theorem dX1_build_15 : decode cX1_build 15 = .ok (.invokestatic 23, 3) := by decide +kernel
theorem dX1_build_18 : decode cX1_build 18 = .ok (.aload_n 0, 1) := by decide +kernel
theorem dX1_build_19 : decode cX1_build 19 = .ok (.getfield 10, 3) := by decide +kernel
theorem dX1_build_22 : decode cX1_build 22 = .ok (.iload_n 1, 1) := by decide +kernel
theorem dX1_build_23 : decode cX1_build 23 = .ok (.iload_n 2, 1) := by decide +kernel
theorem dX1_build_24 : decode cX1_build 24 = .ok (.iload_n 3, 1) := by decide +kernel
theorem dX1_build_25 : decode cX1_build 25 = .ok (.invokevirtual 31, 3) := by decide +kernel
theorem dX1_build_28 : decode cX1_build 28 = .ok (.istore 4, 2) := by decide +kernel
theorem dX1_build_30 : decode cX1_build 30 = .ok (.iload 4, 2) := by decide +kernel
theorem dX1_build_32 : decode cX1_build 32 = .ok (.iconst (-1), 1) := by decide +kernel
theorem dX1_build_33 : decode cX1_build 33 = .ok (.if_icmp .ne 13, 3) := by decide +kernel
theorem dX1_build_36 : decode cX1_build 36 = .ok (.new 35, 3) := by decide +kernel
theorem dX1_build_39 : decode cX1_build 39 = .ok (.dup, 1) := by decide +kernel
theorem dX1_build_40 : decode cX1_build 40 = .ok (.ldc 37, 2) := by decide +kernel
theorem dX1_build_42 : decode cX1_build 42 = .ok (.invokespecial 39, 3) := by decide +kernel
theorem dX1_build_45 : decode cX1_build 45 = .ok (.athrow, 1) := by decide +kernel
theorem dX1_build_46 : decode cX1_build 46 = .ok (.iload 4, 2) := by decide +kernel
theorem dX1_build_48 : decode cX1_build 48 = .ok (.ireturn, 1) := by decide +kernel
set_option maxRecDepth 20000 in
theorem ggX1_lay_X1_needTank : GoodIn wsX1_lay wsX1_needTank := goodIn_ca (goodIn_r _ [8, 3, 9, 10, 11, 7, 12, 13, 14, 30, 31, 32, 33, 34, 35, 36] (by decide +kernel) (by decide +kernel)) (goodIn_sub (fun _ h => List.mem_cons_of_mem _ (List.mem_append_left _ (List.mem_append_right _ h))) (by decide +kernel))
set_option maxRecDepth 20000 in
theorem gX1_lay_X1_needTank : GoodIn wsX1_lay (wsV RX1 42 RX1 yX1_needTank wsX1_needTank) := goodIn_app (goodIn_of _ (by decide +kernel)) ggX1_lay_X1_needTank
set_option maxRecDepth 20000 in
theorem ggX1_lay_X1_needArgument : GoodIn wsX1_lay wsX1_needArgument := goodIn_ca (goodIn_r _ [17, 18, 19] (by decide +kernel) (by decide +kernel)) (goodIn_sub (fun _ h => List.mem_cons_of_mem _ (List.mem_append_right _ h)) (by decide +kernel))
set_option maxRecDepth 20000 in
theorem gX1_lay_X1_needArgument : GoodIn wsX1_lay (va_wsS RX1 23 yX1_needArgument wsX1_needArgument) := goodIn_app (goodIn_of _ (by decide +kernel)) ggX1_lay_X1_needArgument
set_option maxRecDepth 20000 in
theorem ggX1_lay_X1_isWithin : GoodIn wsX1_lay wsX1_isWithin := goodIn_r _ [22] (by decide +kernel) (by decide +kernel)
set_option maxRecDepth 20000 in
theorem gX1_lay_X1_isWithin : GoodIn wsX1_lay (va_wsS RX1 19 yX1_isWithin wsX1_isWithin) := goodIn_app (goodIn_of _ (by decide +kernel)) ggX1_lay_X1_isWithin
set_option maxRecDepth 20000 in
theorem ggX1_lay_X0_addPipe : GoodIn wsX1_lay wsX0_addPipe := goodIn_r _ [27, 28, 29, 32, 33, 34, 35, 36] (by decide +kernel) (by decide +kernel)
set_option maxRecDepth 20000 in
theorem gX1_lay_X0_addPipe : GoodIn wsX1_lay (wsV RX1 46 RX0 yX0_addPipe wsX0_addPipe) := goodIn_app (goodIn_of _ (by decide +kernel)) ggX1_lay_X0_addPipe
theorem dX1_lay_0 : decode cX1_lay 0 = .ok (.aload_n 0, 1) := by decide +kernel
theorem dX1_lay_1 : decode cX1_lay 1 = .ok (.iload_n 1, 1) := by decide +kernel
theorem dX1_lay_2 : decode cX1_lay 2 = .ok (.invokevirtual 42, 3) := by decide +kernel
theorem dX1_lay_5 : decode cX1_lay 5 = .ok (.aload_n 0, 1) := by decide +kernel
theorem dX1_lay_6 : decode cX1_lay 6 = .ok (.iload_n 2, 1) := by decide +kernel
theorem dX1_lay_7 : decode cX1_lay 7 = .ok (.invokevirtual 42, 3) := by decide +kernel
theorem dX1_lay_10 : decode cX1_lay 10 = .ok (.iload_n 1, 1) := by decide +kernel
theorem dX1_lay_11 : decode cX1_lay 11 = .ok (.iload_n 2, 1) := by decide +kernel
theorem dX1_lay_12 : decode cX1_lay 12 = .ok (.if_icmp .eq 7, 3) := by decide +kernel
theorem dX1_lay_15 : decode cX1_lay 15 = .ok (.iconst 1, 1) := by decide +kernel
theorem dX1_lay_16 : decode cX1_lay 16 = .ok (.goto 4, 3) := by decide +kernel
theorem dX1_lay_19 : decode cX1_lay 19 = .ok (.iconst 0, 1) := by decide +kernel
theorem dX1_lay_20 : decode cX1_lay 20 = .ok (.invokestatic 23, 3) := by decide +kernel
theorem dX1_lay_23 : decode cX1_lay 23 = .ok (.iload_n 3, 1) := by decide +kernel
theorem dX1_lay_24 : decode cX1_lay 24 = .ok (.iconst 1, 1) := by decide +kernel
theorem dX1_lay_25 : decode cX1_lay 25 = .ok (.bipush 20, 2) := by decide +kernel
theorem dX1_lay_27 : decode cX1_lay 27 = .ok (.invokestatic 19, 3) := by decide +kernel
theorem dX1_lay_30 : decode cX1_lay 30 = .ok (.invokestatic 23, 3) := by decide +kernel
theorem dX1_lay_33 : decode cX1_lay 33 = .ok (.iload 4, 2) := by decide +kernel
theorem dX1_lay_35 : decode cX1_lay 35 = .ok (.iconst 0, 1) := by decide +kernel
theorem dX1_lay_36 : decode cX1_lay 36 = .ok (.bipush 60, 2) := by decide +kernel
theorem dX1_lay_38 : decode cX1_lay 38 = .ok (.invokestatic 19, 3) := by decide +kernel
theorem dX1_lay_41 : decode cX1_lay 41 = .ok (.invokestatic 23, 3) := by decide +kernel
theorem dX1_lay_44 : decode cX1_lay 44 = .ok (.aload_n 0, 1) := by decide +kernel
theorem dX1_lay_45 : decode cX1_lay 45 = .ok (.getfield 10, 3) := by decide +kernel
theorem dX1_lay_48 : decode cX1_lay 48 = .ok (.iload_n 1, 1) := by decide +kernel
theorem dX1_lay_49 : decode cX1_lay 49 = .ok (.iload_n 2, 1) := by decide +kernel
theorem dX1_lay_50 : decode cX1_lay 50 = .ok (.iload_n 3, 1) := by decide +kernel
theorem dX1_lay_51 : decode cX1_lay 51 = .ok (.iload 4, 2) := by decide +kernel
theorem dX1_lay_53 : decode cX1_lay 53 = .ok (.invokevirtual 46, 3) := by decide +kernel
theorem dX1_lay_56 : decode cX1_lay 56 = .ok (.istore 5, 2) := by decide +kernel
theorem dX1_lay_58 : decode cX1_lay 58 = .ok (.iload 5, 2) := by decide +kernel
theorem dX1_lay_60 : decode cX1_lay 60 = .ok (.iconst (-1), 1) := by decide +kernel
theorem dX1_lay_61 : decode cX1_lay 61 = .ok (.if_icmp .ne 13, 3) := by decide +kernel
theorem dX1_lay_64 : decode cX1_lay 64 = .ok (.new 35, 3) := by decide +kernel
theorem dX1_lay_67 : decode cX1_lay 67 = .ok (.dup, 1) := by decide +kernel
theorem dX1_lay_68 : decode cX1_lay 68 = .ok (.ldc 50, 2) := by decide +kernel
theorem dX1_lay_70 : decode cX1_lay 70 = .ok (.invokespecial 39, 3) := by decide +kernel
theorem dX1_lay_73 : decode cX1_lay 73 = .ok (.athrow, 1) := by decide +kernel
theorem dX1_lay_74 : decode cX1_lay 74 = .ok (.iload 5, 2) := by decide +kernel
theorem dX1_lay_76 : decode cX1_lay 76 = .ok (.ireturn, 1) := by decide +kernel
set_option maxRecDepth 20000 in
theorem ggX1_set_X1_needTank : GoodIn wsX1_set wsX1_needTank := goodIn_ca (goodIn_r _ [7, 1, 8, 9, 10, 6, 11, 12, 13, 25, 26, 27, 28, 29, 30, 31] (by decide +kernel) (by decide +kernel)) (goodIn_sub (fun _ h => List.mem_cons_of_mem _ (List.mem_append_left _ (List.mem_append_right _ h))) (by decide +kernel))
set_option maxRecDepth 20000 in
theorem gX1_set_X1_needTank : GoodIn wsX1_set (wsV RX1 42 RX1 yX1_needTank wsX1_needTank) := goodIn_app (goodIn_of _ (by decide +kernel)) ggX1_set_X1_needTank
set_option maxRecDepth 20000 in
theorem ggX1_set_X1_isSpringAndThirst : GoodIn wsX1_set wsX1_isSpringAndThirst := goodIn_r _ [16, 17, 18, 6, 19] (by decide +kernel) (by decide +kernel)
set_option maxRecDepth 20000 in
theorem gX1_set_X1_isSpringAndThirst : GoodIn wsX1_set (va_wsS RX1 27 yX1_isSpringAndThirst wsX1_isSpringAndThirst) := goodIn_app (goodIn_of _ (by decide +kernel)) ggX1_set_X1_isSpringAndThirst
set_option maxRecDepth 20000 in
theorem ggX1_set_X1_needArgument : GoodIn wsX1_set wsX1_needArgument := goodIn_ca (goodIn_r _ [22, 23, 24] (by decide +kernel) (by decide +kernel)) (goodIn_sub (fun _ h => List.mem_cons_of_mem _ (List.mem_append_right _ h)) (by decide +kernel))
set_option maxRecDepth 20000 in
theorem gX1_set_X1_needArgument : GoodIn wsX1_set (va_wsS RX1 23 yX1_needArgument wsX1_needArgument) := goodIn_app (goodIn_of _ (by decide +kernel)) ggX1_set_X1_needArgument
theorem dX1_set_0 : decode cX1_set 0 = .ok (.aload_n 0, 1) := by decide +kernel
theorem dX1_set_1 : decode cX1_set 1 = .ok (.iload_n 1, 1) := by decide +kernel
theorem dX1_set_2 : decode cX1_set 2 = .ok (.invokevirtual 42, 3) := by decide +kernel
theorem dX1_set_5 : decode cX1_set 5 = .ok (.iload_n 2, 1) := by decide +kernel
theorem dX1_set_6 : decode cX1_set 6 = .ok (.iload_n 3, 1) := by decide +kernel
theorem dX1_set_7 : decode cX1_set 7 = .ok (.invokestatic 27, 3) := by decide +kernel
theorem dX1_set_10 : decode cX1_set 10 = .ok (.invokestatic 23, 3) := by decide +kernel
theorem dX1_set_13 : decode cX1_set 13 = .ok (.aload_n 0, 1) := by decide +kernel
theorem dX1_set_14 : decode cX1_set 14 = .ok (.getfield 10, 3) := by decide +kernel
theorem dX1_set_17 : decode cX1_set 17 = .ok (.getfield 52, 3) := by decide +kernel
theorem dX1_set_20 : decode cX1_set 20 = .ok (.iload_n 1, 1) := by decide +kernel
theorem dX1_set_21 : decode cX1_set 21 = .ok (.aaload, 1) := by decide +kernel
theorem dX1_set_22 : decode cX1_set 22 = .ok (.astore 4, 2) := by decide +kernel
theorem dX1_set_24 : decode cX1_set 24 = .ok (.bipush 100, 2) := by decide +kernel
theorem dX1_set_26 : decode cX1_set 26 = .ok (.aload 4, 2) := by decide +kernel
theorem dX1_set_28 : decode cX1_set 28 = .ok (.iconst 1, 1) := by decide +kernel
theorem dX1_set_29 : decode cX1_set 29 = .ok (.iaload, 1) := by decide +kernel
theorem dX1_set_30 : decode cX1_set 30 = .ok (.imul, 1) := by decide +kernel
theorem dX1_set_31 : decode cX1_set 31 = .ok (.aload 4, 2) := by decide +kernel
theorem dX1_set_33 : decode cX1_set 33 = .ok (.iconst 2, 1) := by decide +kernel
theorem dX1_set_34 : decode cX1_set 34 = .ok (.iaload, 1) := by decide +kernel
theorem dX1_set_35 : decode cX1_set 35 = .ok (.iadd, 1) := by decide +kernel
theorem dX1_set_36 : decode cX1_set 36 = .ok (.istore 5, 2) := by decide +kernel
theorem dX1_set_38 : decode cX1_set 38 = .ok (.aload 4, 2) := by decide +kernel
theorem dX1_set_40 : decode cX1_set 40 = .ok (.iconst 1, 1) := by decide +kernel
theorem dX1_set_41 : decode cX1_set 41 = .ok (.iload_n 2, 1) := by decide +kernel
theorem dX1_set_42 : decode cX1_set 42 = .ok (.iastore, 1) := by decide +kernel
theorem dX1_set_43 : decode cX1_set 43 = .ok (.aload 4, 2) := by decide +kernel
theorem dX1_set_45 : decode cX1_set 45 = .ok (.iconst 2, 1) := by decide +kernel
theorem dX1_set_46 : decode cX1_set 46 = .ok (.iload_n 3, 1) := by decide +kernel
theorem dX1_set_47 : decode cX1_set 47 = .ok (.iastore, 1) := by decide +kernel
theorem dX1_set_48 : decode cX1_set 48 = .ok (.iload 5, 2) := by decide +kernel
theorem dX1_set_50 : decode cX1_set 50 = .ok (.ireturn, 1) := by decide +kernel
set_option maxRecDepth 20000 in
theorem ggX1_flush_X1_needTank : GoodIn wsX1_flush wsX1_needTank := goodIn_ca (goodIn_r _ [7, 1, 8, 9, 10, 6, 11, 12, 13, 14, 15, 16, 17, 18, 19, 20] (by decide +kernel) (by decide +kernel)) (goodIn_sub (fun _ h => List.mem_cons_of_mem _ (List.mem_append_right _ h)) (by decide +kernel))
set_option maxRecDepth 20000 in
theorem gX1_flush_X1_needTank : GoodIn wsX1_flush (wsV RX1 42 RX1 yX1_needTank wsX1_needTank) := goodIn_app (goodIn_of _ (by decide +kernel)) ggX1_flush_X1_needTank
theorem dX1_flush_0 : decode cX1_flush 0 = .ok (.aload_n 0, 1) := by decide +kernel
theorem dX1_flush_1 : decode cX1_flush 1 = .ok (.iload_n 1, 1) := by decide +kernel
theorem dX1_flush_2 : decode cX1_flush 2 = .ok (.invokevirtual 42, 3) := by decide +kernel
theorem dX1_flush_5 : decode cX1_flush 5 = .ok (.aload_n 0, 1) := by decide +kernel
theorem dX1_flush_6 : decode cX1_flush 6 = .ok (.getfield 10, 3) := by decide +kernel
theorem dX1_flush_9 : decode cX1_flush 9 = .ok (.getfield 52, 3) := by decide +kernel
theorem dX1_flush_12 : decode cX1_flush 12 = .ok (.iload_n 1, 1) := by decide +kernel
theorem dX1_flush_13 : decode cX1_flush 13 = .ok (.aaload, 1) := by decide +kernel
theorem dX1_flush_14 : decode cX1_flush 14 = .ok (.astore_n 2, 1) := by decide +kernel
theorem dX1_flush_15 : decode cX1_flush 15 = .ok (.aload_n 2, 1) := by decide +kernel
theorem dX1_flush_16 : decode cX1_flush 16 = .ok (.iconst 4, 1) := by decide +kernel
theorem dX1_flush_17 : decode cX1_flush 17 = .ok (.iaload, 1) := by decide +kernel
theorem dX1_flush_18 : decode cX1_flush 18 = .ok (.istore_n 3, 1) := by decide +kernel
theorem dX1_flush_19 : decode cX1_flush 19 = .ok (.aload_n 2, 1) := by decide +kernel
theorem dX1_flush_20 : decode cX1_flush 20 = .ok (.iconst 4, 1) := by decide +kernel
theorem dX1_flush_21 : decode cX1_flush 21 = .ok (.iconst 0, 1) := by decide +kernel
theorem dX1_flush_22 : decode cX1_flush 22 = .ok (.iastore, 1) := by decide +kernel
theorem dX1_flush_23 : decode cX1_flush 23 = .ok (.aload_n 2, 1) := by decide +kernel
theorem dX1_flush_24 : decode cX1_flush 24 = .ok (.iconst 3, 1) := by decide +kernel
theorem dX1_flush_25 : decode cX1_flush 25 = .ok (.aload_n 2, 1) := by decide +kernel
theorem dX1_flush_26 : decode cX1_flush 26 = .ok (.iconst 3, 1) := by decide +kernel
theorem dX1_flush_27 : decode cX1_flush 27 = .ok (.iaload, 1) := by decide +kernel
theorem dX1_flush_28 : decode cX1_flush 28 = .ok (.iconst 2, 1) := by decide +kernel
theorem dX1_flush_29 : decode cX1_flush 29 = .ok (.idiv, 1) := by decide +kernel
theorem dX1_flush_30 : decode cX1_flush 30 = .ok (.iastore, 1) := by decide +kernel
theorem dX1_flush_31 : decode cX1_flush 31 = .ok (.iload_n 3, 1) := by decide +kernel
theorem dX1_flush_32 : decode cX1_flush 32 = .ok (.ireturn, 1) := by decide +kernel
set_option maxRecDepth 20000 in
theorem ggX1_scrape_X1_needPipe : GoodIn wsX1_scrape wsX1_needPipe := goodIn_ca (goodIn_r _ [7, 1, 8, 9, 10, 6, 11, 12, 13, 14, 15, 16, 17, 18, 19, 20] (by decide +kernel) (by decide +kernel)) (goodIn_sub (fun _ h => List.mem_cons_of_mem _ (List.mem_append_right _ h)) (by decide +kernel))
set_option maxRecDepth 20000 in
theorem gX1_scrape_X1_needPipe : GoodIn wsX1_scrape (wsV RX1 56 RX1 yX1_needPipe wsX1_needPipe) := goodIn_app (goodIn_of _ (by decide +kernel)) ggX1_scrape_X1_needPipe
theorem dX1_scrape_0 : decode cX1_scrape 0 = .ok (.aload_n 0, 1) := by decide +kernel
theorem dX1_scrape_1 : decode cX1_scrape 1 = .ok (.iload_n 1, 1) := by decide +kernel
theorem dX1_scrape_2 : decode cX1_scrape 2 = .ok (.invokevirtual 56, 3) := by decide +kernel
theorem dX1_scrape_5 : decode cX1_scrape 5 = .ok (.aload_n 0, 1) := by decide +kernel
theorem dX1_scrape_6 : decode cX1_scrape 6 = .ok (.getfield 10, 3) := by decide +kernel
theorem dX1_scrape_9 : decode cX1_scrape 9 = .ok (.getfield 59, 3) := by decide +kernel
theorem dX1_scrape_12 : decode cX1_scrape 12 = .ok (.iload_n 1, 1) := by decide +kernel
theorem dX1_scrape_13 : decode cX1_scrape 13 = .ok (.aaload, 1) := by decide +kernel
theorem dX1_scrape_14 : decode cX1_scrape 14 = .ok (.astore_n 2, 1) := by decide +kernel
theorem dX1_scrape_15 : decode cX1_scrape 15 = .ok (.aload_n 2, 1) := by decide +kernel
theorem dX1_scrape_16 : decode cX1_scrape 16 = .ok (.iconst 4, 1) := by decide +kernel
theorem dX1_scrape_17 : decode cX1_scrape 17 = .ok (.iaload, 1) := by decide +kernel
theorem dX1_scrape_18 : decode cX1_scrape 18 = .ok (.istore_n 3, 1) := by decide +kernel
theorem dX1_scrape_19 : decode cX1_scrape 19 = .ok (.aload_n 2, 1) := by decide +kernel
theorem dX1_scrape_20 : decode cX1_scrape 20 = .ok (.iconst 4, 1) := by decide +kernel
theorem dX1_scrape_21 : decode cX1_scrape 21 = .ok (.iconst 0, 1) := by decide +kernel
theorem dX1_scrape_22 : decode cX1_scrape 22 = .ok (.iastore, 1) := by decide +kernel
theorem dX1_scrape_23 : decode cX1_scrape 23 = .ok (.iload_n 3, 1) := by decide +kernel
theorem dX1_scrape_24 : decode cX1_scrape 24 = .ok (.ireturn, 1) := by decide +kernel
set_option maxRecDepth 20000 in
theorem ggX1_steal_X1_needPipe : GoodIn wsX1_steal wsX1_needPipe := goodIn_ca (goodIn_r _ [7, 1, 8, 9, 10, 6, 11, 12, 13, 22, 23, 24, 25, 26, 27, 28] (by decide +kernel) (by decide +kernel)) (goodIn_sub (fun _ h => List.mem_cons_of_mem _ (List.mem_append_left _ (List.mem_append_right _ h))) (by decide +kernel))
set_option maxRecDepth 20000 in
theorem gX1_steal_X1_needPipe : GoodIn wsX1_steal (wsV RX1 56 RX1 yX1_needPipe wsX1_needPipe) := goodIn_app (goodIn_of _ (by decide +kernel)) ggX1_steal_X1_needPipe
set_option maxRecDepth 20000 in
theorem ggX1_steal_X1_isWithin : GoodIn wsX1_steal wsX1_isWithin := goodIn_r _ [16] (by decide +kernel) (by decide +kernel)
set_option maxRecDepth 20000 in
theorem gX1_steal_X1_isWithin : GoodIn wsX1_steal (va_wsS RX1 19 yX1_isWithin wsX1_isWithin) := goodIn_app (goodIn_of _ (by decide +kernel)) ggX1_steal_X1_isWithin
set_option maxRecDepth 20000 in
theorem ggX1_steal_X1_needArgument : GoodIn wsX1_steal wsX1_needArgument := goodIn_ca (goodIn_r _ [19, 20, 21] (by decide +kernel) (by decide +kernel)) (goodIn_sub (fun _ h => List.mem_cons_of_mem _ (List.mem_append_right _ h)) (by decide +kernel))
set_option maxRecDepth 20000 in
theorem gX1_steal_X1_needArgument : GoodIn wsX1_steal (va_wsS RX1 23 yX1_needArgument wsX1_needArgument) := goodIn_app (goodIn_of _ (by decide +kernel)) ggX1_steal_X1_needArgument
theorem dX1_steal_0 : decode cX1_steal 0 = .ok (.aload_n 0, 1) := by decide +kernel
theorem dX1_steal_1 : decode cX1_steal 1 = .ok (.iload_n 1, 1) := by decide +kernel
theorem dX1_steal_2 : decode cX1_steal 2 = .ok (.invokevirtual 56, 3) := by decide +kernel
theorem dX1_steal_5 : decode cX1_steal 5 = .ok (.iload_n 2, 1) := by decide +kernel
theorem dX1_steal_6 : decode cX1_steal 6 = .ok (.iconst 0, 1) := by decide +kernel
theorem dX1_steal_7 : decode cX1_steal 7 = .ok (.bipush 9, 2) := by decide +kernel
theorem dX1_steal_9 : decode cX1_steal 9 = .ok (.invokestatic 19, 3) := by decide +kernel
theorem dX1_steal_12 : decode cX1_steal 12 = .ok (.invokestatic 23, 3) := by decide +kernel
theorem dX1_steal_15 : decode cX1_steal 15 = .ok (.aload_n 0, 1) := by decide +kernel
theorem dX1_steal_16 : decode cX1_steal 16 = .ok (.getfield 10, 3) := by decide +kernel
theorem dX1_steal_19 : decode cX1_steal 19 = .ok (.getfield 59, 3) := by decide +kernel
theorem dX1_steal_22 : decode cX1_steal 22 = .ok (.iload_n 1, 1) := by decide +kernel
theorem dX1_steal_23 : decode cX1_steal 23 = .ok (.aaload, 1) := by decide +kernel
theorem dX1_steal_24 : decode cX1_steal 24 = .ok (.astore_n 3, 1) := by decide +kernel
theorem dX1_steal_25 : decode cX1_steal 25 = .ok (.aload_n 3, 1) := by decide +kernel
theorem dX1_steal_26 : decode cX1_steal 26 = .ok (.bipush 9, 2) := by decide +kernel
theorem dX1_steal_28 : decode cX1_steal 28 = .ok (.iaload, 1) := by decide +kernel
theorem dX1_steal_29 : decode cX1_steal 29 = .ok (.istore 4, 2) := by decide +kernel
theorem dX1_steal_31 : decode cX1_steal 31 = .ok (.aload_n 3, 1) := by decide +kernel
theorem dX1_steal_32 : decode cX1_steal 32 = .ok (.bipush 9, 2) := by decide +kernel
theorem dX1_steal_34 : decode cX1_steal 34 = .ok (.iload_n 2, 1) := by decide +kernel
theorem dX1_steal_35 : decode cX1_steal 35 = .ok (.iastore, 1) := by decide +kernel
theorem dX1_steal_36 : decode cX1_steal 36 = .ok (.iload 4, 2) := by decide +kernel
theorem dX1_steal_38 : decode cX1_steal 38 = .ok (.ireturn, 1) := by decide +kernel
set_option maxRecDepth 20000 in
theorem ggX1_tank_X1_needTank : GoodIn wsX1_tank wsX1_needTank := goodIn_ca (goodIn_r _ [7, 1, 8, 9, 10, 6, 11, 12, 13, 17, 18, 19, 20, 21, 22, 23] (by decide +kernel) (by decide +kernel)) (goodIn_sub (fun _ h => List.mem_cons_of_mem _ (List.mem_append_right _ h)) (by decide +kernel))
set_option maxRecDepth 20000 in
theorem gX1_tank_X1_needTank : GoodIn wsX1_tank (wsV RX1 42 RX1 yX1_needTank wsX1_needTank) := goodIn_app (goodIn_of _ (by decide +kernel)) ggX1_tank_X1_needTank
set_option maxRecDepth 20000 in
theorem ggX1_tank_X1_isWithin : GoodIn wsX1_tank wsX1_isWithin := goodIn_r _ [16] (by decide +kernel) (by decide +kernel)
set_option maxRecDepth 20000 in
theorem gX1_tank_X1_isWithin : GoodIn wsX1_tank (va_wsS RX1 19 yX1_isWithin wsX1_isWithin) := goodIn_app (goodIn_of _ (by decide +kernel)) ggX1_tank_X1_isWithin
set_option maxRecDepth 20000 in
theorem ggX1_tank_X1_needIndex : GoodIn wsX1_tank wsX1_needIndex := goodIn_ca (goodIn_r _ [11, 12, 13] (by decide +kernel) (by decide +kernel)) (goodIn_sub (fun _ h => List.mem_cons_of_mem _ (List.mem_append_right _ h)) (by decide +kernel))
set_option maxRecDepth 20000 in
theorem gX1_tank_X1_needIndex : GoodIn wsX1_tank (va_wsS RX1 62 yX1_needIndex wsX1_needIndex) := goodIn_app (goodIn_of _ (by decide +kernel)) ggX1_tank_X1_needIndex
theorem dX1_tank_0 : decode cX1_tank 0 = .ok (.aload_n 0, 1) := by decide +kernel
theorem dX1_tank_1 : decode cX1_tank 1 = .ok (.iload_n 1, 1) := by decide +kernel
theorem dX1_tank_2 : decode cX1_tank 2 = .ok (.invokevirtual 42, 3) := by decide +kernel
theorem dX1_tank_5 : decode cX1_tank 5 = .ok (.iload_n 2, 1) := by decide +kernel
theorem dX1_tank_6 : decode cX1_tank 6 = .ok (.iconst 0, 1) := by decide +kernel
theorem dX1_tank_7 : decode cX1_tank 7 = .ok (.bipush 7, 2) := by decide +kernel
theorem dX1_tank_9 : decode cX1_tank 9 = .ok (.invokestatic 19, 3) := by decide +kernel
theorem dX1_tank_12 : decode cX1_tank 12 = .ok (.invokestatic 62, 3) := by decide +kernel
theorem dX1_tank_15 : decode cX1_tank 15 = .ok (.aload_n 0, 1) := by decide +kernel
theorem dX1_tank_16 : decode cX1_tank 16 = .ok (.getfield 10, 3) := by decide +kernel
theorem dX1_tank_19 : decode cX1_tank 19 = .ok (.getfield 52, 3) := by decide +kernel
theorem dX1_tank_22 : decode cX1_tank 22 = .ok (.iload_n 1, 1) := by decide +kernel
theorem dX1_tank_23 : decode cX1_tank 23 = .ok (.aaload, 1) := by decide +kernel
theorem dX1_tank_24 : decode cX1_tank 24 = .ok (.iload_n 2, 1) := by decide +kernel
theorem dX1_tank_25 : decode cX1_tank 25 = .ok (.iaload, 1) := by decide +kernel
theorem dX1_tank_26 : decode cX1_tank 26 = .ok (.ireturn, 1) := by decide +kernel
set_option maxRecDepth 20000 in
theorem ggX1_pipe_X1_needPipe : GoodIn wsX1_pipe wsX1_needPipe := goodIn_ca (goodIn_r _ [6, 1, 7, 8, 9, 5, 10, 11, 12, 37, 38, 39, 40, 41, 42, 43] (by decide +kernel) (by decide +kernel)) (goodIn_sub (fun _ h => List.mem_cons_of_mem _ (List.mem_append_right _ h)) (by decide +kernel))
set_option maxRecDepth 20000 in
theorem gX1_pipe_X1_needPipe : GoodIn wsX1_pipe (wsV RX1 56 RX1 yX1_needPipe wsX1_needPipe) := goodIn_app (goodIn_of _ (by decide +kernel)) ggX1_pipe_X1_needPipe
set_option maxRecDepth 20000 in
theorem ggX1_pipe_X1_isWithin : GoodIn wsX1_pipe wsX1_isWithin := goodIn_r _ [15] (by decide +kernel) (by decide +kernel)
set_option maxRecDepth 20000 in
theorem gX1_pipe_X1_isWithin : GoodIn wsX1_pipe (va_wsS RX1 19 yX1_isWithin wsX1_isWithin) := goodIn_app (goodIn_of _ (by decide +kernel)) ggX1_pipe_X1_isWithin
set_option maxRecDepth 20000 in
theorem ggX1_pipe_X1_needIndex : GoodIn wsX1_pipe wsX1_needIndex := goodIn_ca (goodIn_r _ [10, 11, 12] (by decide +kernel) (by decide +kernel)) (goodIn_sub (fun _ h => List.mem_cons_of_mem _ (List.mem_append_right _ h)) (by decide +kernel))
set_option maxRecDepth 20000 in
theorem gX1_pipe_X1_needIndex : GoodIn wsX1_pipe (va_wsS RX1 62 yX1_needIndex wsX1_needIndex) := goodIn_app (goodIn_of _ (by decide +kernel)) ggX1_pipe_X1_needIndex
set_option maxRecDepth 20000 in
theorem ggX1_pipe_X0_ofPipe : GoodIn wsX1_pipe wsX0_ofPipe := goodIn_r _ [20, 21, 22, 23, 24, 19, 25, 26, 27, 28, 29, 30, 31, 32, 33, 34, 35, 36, 39, 40, 41, 42, 43] (by decide +kernel) (by decide +kernel)
set_option maxRecDepth 20000 in
theorem gX1_pipe_X0_ofPipe : GoodIn wsX1_pipe (wsV RX1 65 RX0 yX0_ofPipe wsX0_ofPipe) := goodIn_app (goodIn_of _ (by decide +kernel)) ggX1_pipe_X0_ofPipe
theorem dX1_pipe_0 : decode cX1_pipe 0 = .ok (.aload_n 0, 1) := by decide +kernel
theorem dX1_pipe_1 : decode cX1_pipe 1 = .ok (.iload_n 1, 1) := by decide +kernel
theorem dX1_pipe_2 : decode cX1_pipe 2 = .ok (.invokevirtual 56, 3) := by decide +kernel
theorem dX1_pipe_5 : decode cX1_pipe 5 = .ok (.iload_n 2, 1) := by decide +kernel
theorem dX1_pipe_6 : decode cX1_pipe 6 = .ok (.iconst 0, 1) := by decide +kernel
theorem dX1_pipe_7 : decode cX1_pipe 7 = .ok (.bipush 8, 2) := by decide +kernel
theorem dX1_pipe_9 : decode cX1_pipe 9 = .ok (.invokestatic 19, 3) := by decide +kernel
theorem dX1_pipe_12 : decode cX1_pipe 12 = .ok (.invokestatic 62, 3) := by decide +kernel
theorem dX1_pipe_15 : decode cX1_pipe 15 = .ok (.aload_n 0, 1) := by decide +kernel
theorem dX1_pipe_16 : decode cX1_pipe 16 = .ok (.getfield 10, 3) := by decide +kernel
theorem dX1_pipe_19 : decode cX1_pipe 19 = .ok (.iload_n 1, 1) := by decide +kernel
theorem dX1_pipe_20 : decode cX1_pipe 20 = .ok (.iload_n 2, 1) := by decide +kernel
theorem dX1_pipe_21 : decode cX1_pipe 21 = .ok (.invokevirtual 65, 3) := by decide +kernel
theorem dX1_pipe_24 : decode cX1_pipe 24 = .ok (.ireturn, 1) := by decide +kernel
set_option maxRecDepth 20000 in
theorem ggX1_count_X1_isWithin : GoodIn wsX1_count wsX1_isWithin := goodIn_r _ [5] (by decide +kernel) (by decide +kernel)
set_option maxRecDepth 20000 in
theorem gX1_count_X1_isWithin : GoodIn wsX1_count (va_wsS RX1 19 yX1_isWithin wsX1_isWithin) := goodIn_app (goodIn_of _ (by decide +kernel)) ggX1_count_X1_isWithin
set_option maxRecDepth 20000 in
theorem ggX1_count_X1_needIndex : GoodIn wsX1_count wsX1_needIndex := goodIn_ca (goodIn_r _ [8, 9, 10] (by decide +kernel) (by decide +kernel)) (goodIn_sub (fun _ h => List.mem_cons_of_mem _ (List.mem_append_right _ h)) (by decide +kernel))
set_option maxRecDepth 20000 in
theorem gX1_count_X1_needIndex : GoodIn wsX1_count (va_wsS RX1 62 yX1_needIndex wsX1_needIndex) := goodIn_app (goodIn_of _ (by decide +kernel)) ggX1_count_X1_needIndex
set_option maxRecDepth 20000 in
theorem ggX1_count_X0_ofAll : GoodIn wsX1_count wsX0_ofAll := goodIn_r _ [15, 16, 17, 18, 19, 20, 21, 14, 22, 23, 24, 25, 26, 27, 28, 29, 30, 31, 32, 33, 34, 35, 36, 39, 40, 41, 42, 43] (by decide +kernel) (by decide +kernel)
set_option maxRecDepth 20000 in
theorem gX1_count_X0_ofAll : GoodIn wsX1_count (wsV RX1 69 RX0 yX0_ofAll wsX0_ofAll) := goodIn_app (goodIn_of _ (by decide +kernel)) ggX1_count_X0_ofAll
theorem dX1_count_0 : decode cX1_count 0 = .ok (.iload_n 1, 1) := by decide +kernel
theorem dX1_count_1 : decode cX1_count 1 = .ok (.iconst 0, 1) := by decide +kernel
theorem dX1_count_2 : decode cX1_count 2 = .ok (.bipush 8, 2) := by decide +kernel
theorem dX1_count_4 : decode cX1_count 4 = .ok (.invokestatic 19, 3) := by decide +kernel
theorem dX1_count_7 : decode cX1_count 7 = .ok (.invokestatic 62, 3) := by decide +kernel
theorem dX1_count_10 : decode cX1_count 10 = .ok (.aload_n 0, 1) := by decide +kernel
theorem dX1_count_11 : decode cX1_count 11 = .ok (.getfield 10, 3) := by decide +kernel
theorem dX1_count_14 : decode cX1_count 14 = .ok (.iload_n 1, 1) := by decide +kernel
theorem dX1_count_15 : decode cX1_count 15 = .ok (.invokevirtual 69, 3) := by decide +kernel
theorem dX1_count_18 : decode cX1_count 18 = .ok (.ireturn, 1) := by decide +kernel
set_option maxRecDepth 20000 in
theorem ggX1_reach_X1_needTank : GoodIn wsX1_reach wsX1_needTank := goodIn_ca (goodIn_r _ [6, 1, 7, 8, 9, 5, 10, 11, 12, 21, 22, 23, 24, 25, 26, 27] (by decide +kernel) (by decide +kernel)) (goodIn_sub (fun _ h => List.mem_cons_of_mem _ (List.mem_append_right _ h)) (by decide +kernel))
set_option maxRecDepth 20000 in
theorem gX1_reach_X1_needTank : GoodIn wsX1_reach (wsV RX1 42 RX1 yX1_needTank wsX1_needTank) := goodIn_app (goodIn_of _ (by decide +kernel)) ggX1_reach_X1_needTank
set_option maxRecDepth 20000 in
theorem ggX1_reach_X0_reachedFrom : GoodIn wsX1_reach wsX0_reachedFrom := goodIn_r _ [17, 18, 19, 20, 23, 24, 25, 26, 27] (by decide +kernel) (by decide +kernel)
set_option maxRecDepth 20000 in
theorem gX1_reach_X0_reachedFrom : GoodIn wsX1_reach (wsV RX1 73 RX0 yX0_reachedFrom wsX0_reachedFrom) := goodIn_app (goodIn_of _ (by decide +kernel)) ggX1_reach_X0_reachedFrom
theorem dX1_reach_0 : decode cX1_reach 0 = .ok (.aload_n 0, 1) := by decide +kernel
theorem dX1_reach_1 : decode cX1_reach 1 = .ok (.iload_n 1, 1) := by decide +kernel
theorem dX1_reach_2 : decode cX1_reach 2 = .ok (.invokevirtual 42, 3) := by decide +kernel
theorem dX1_reach_5 : decode cX1_reach 5 = .ok (.aload_n 0, 1) := by decide +kernel
theorem dX1_reach_6 : decode cX1_reach 6 = .ok (.getfield 10, 3) := by decide +kernel
theorem dX1_reach_9 : decode cX1_reach 9 = .ok (.iload_n 1, 1) := by decide +kernel
theorem dX1_reach_10 : decode cX1_reach 10 = .ok (.invokevirtual 73, 3) := by decide +kernel
theorem dX1_reach_13 : decode cX1_reach 13 = .ok (.ireturn, 1) := by decide +kernel
theorem dX1_suspect_0 : decode cX1_suspect 0 = .ok (.iconst (-1), 1) := by decide +kernel
theorem dX1_suspect_1 : decode cX1_suspect 1 = .ok (.istore_n 1, 1) := by decide +kernel
theorem dX1_suspect_2 : decode cX1_suspect 2 = .ok (.iconst 0, 1) := by decide +kernel
theorem dX1_suspect_3 : decode cX1_suspect 3 = .ok (.istore_n 2, 1) := by decide +kernel
theorem dX1_suspect_4 : decode cX1_suspect 4 = .ok (.iconst 0, 1) := by decide +kernel
theorem dX1_suspect_5 : decode cX1_suspect 5 = .ok (.istore_n 3, 1) := by decide +kernel
theorem dX1_suspect_6 : decode cX1_suspect 6 = .ok (.iload_n 3, 1) := by decide +kernel
theorem dX1_suspect_7 : decode cX1_suspect 7 = .ok (.aload_n 0, 1) := by decide +kernel
theorem dX1_suspect_8 : decode cX1_suspect 8 = .ok (.getfield 10, 3) := by decide +kernel
theorem dX1_suspect_11 : decode cX1_suspect 11 = .ok (.getfield 76, 3) := by decide +kernel
theorem dX1_suspect_14 : decode cX1_suspect 14 = .ok (.if_icmp .ge 34, 3) := by decide +kernel
theorem dX1_suspect_17 : decode cX1_suspect 17 = .ok (.aload_n 0, 1) := by decide +kernel
theorem dX1_suspect_18 : decode cX1_suspect 18 = .ok (.getfield 10, 3) := by decide +kernel
theorem dX1_suspect_21 : decode cX1_suspect 21 = .ok (.getfield 59, 3) := by decide +kernel
theorem dX1_suspect_24 : decode cX1_suspect 24 = .ok (.iload_n 3, 1) := by decide +kernel
theorem dX1_suspect_25 : decode cX1_suspect 25 = .ok (.aaload, 1) := by decide +kernel
theorem dX1_suspect_26 : decode cX1_suspect 26 = .ok (.bipush 6, 2) := by decide +kernel
theorem dX1_suspect_28 : decode cX1_suspect 28 = .ok (.iaload, 1) := by decide +kernel
theorem dX1_suspect_29 : decode cX1_suspect 29 = .ok (.istore 4, 2) := by decide +kernel
theorem dX1_suspect_31 : decode cX1_suspect 31 = .ok (.iload 4, 2) := by decide +kernel
theorem dX1_suspect_33 : decode cX1_suspect 33 = .ok (.iload_n 2, 1) := by decide +kernel
theorem dX1_suspect_34 : decode cX1_suspect 34 = .ok (.if_icmp .le 8, 3) := by decide +kernel
theorem dX1_suspect_37 : decode cX1_suspect 37 = .ok (.iload 4, 2) := by decide +kernel
theorem dX1_suspect_39 : decode cX1_suspect 39 = .ok (.istore_n 2, 1) := by decide +kernel
theorem dX1_suspect_40 : decode cX1_suspect 40 = .ok (.iload_n 3, 1) := by decide +kernel
theorem dX1_suspect_41 : decode cX1_suspect 41 = .ok (.istore_n 1, 1) := by decide +kernel
theorem dX1_suspect_42 : decode cX1_suspect 42 = .ok (.iinc 3 1, 3) := by decide +kernel
theorem dX1_suspect_45 : decode cX1_suspect 45 = .ok (.goto (-39), 3) := by decide +kernel
theorem dX1_suspect_48 : decode cX1_suspect 48 = .ok (.iload_n 1, 1) := by decide +kernel
theorem dX1_suspect_49 : decode cX1_suspect 49 = .ok (.ireturn, 1) := by decide +kernel
set_option maxRecDepth 20000 in
theorem ggX1_pass_X1_isWithin : GoodIn wsX1_pass wsX1_isWithin := goodIn_r _ [5] (by decide +kernel) (by decide +kernel)
set_option maxRecDepth 20000 in
theorem gX1_pass_X1_isWithin : GoodIn wsX1_pass (va_wsS RX1 19 yX1_isWithin wsX1_isWithin) := goodIn_app (goodIn_of _ (by decide +kernel)) ggX1_pass_X1_isWithin
set_option maxRecDepth 20000 in
theorem ggX1_pass_X1_needArgument : GoodIn wsX1_pass wsX1_needArgument := goodIn_ca (goodIn_r _ [8, 9, 10] (by decide +kernel) (by decide +kernel)) (goodIn_sub (fun _ h => List.mem_cons_of_mem _ (List.mem_append_right _ h)) (by decide +kernel))
set_option maxRecDepth 20000 in
theorem gX1_pass_X1_needArgument : GoodIn wsX1_pass (va_wsS RX1 23 yX1_needArgument wsX1_needArgument) := goodIn_app (goodIn_of _ (by decide +kernel)) ggX1_pass_X1_needArgument
set_option maxRecDepth 20000 in
theorem ggX1_pass_X0_drunkIn : GoodIn wsX1_pass wsX0_drunkIn := goodIn_r _ [15, 16, 17, 18, 14, 19, 20, 21, 22, 23, 24, 25, 26, 27, 28, 29, 30, 31, 32, 33, 34, 35, 36, 37, 38, 39, 40, 41, 42, 43, 44, 45, 46, 47, 48, 49, 50, 51, 52, 53, 54, 55, 56, 57, 58, 59, 60, 61, 62, 63, 64, 65, 68, 69, 70, 71, 72] (by decide +kernel) (by decide +kernel)
set_option maxRecDepth 20000 in
theorem gX1_pass_X0_drunkIn : GoodIn wsX1_pass (wsV RX1 80 RX0 yX0_drunkIn wsX0_drunkIn) := goodIn_app (goodIn_of _ (by decide +kernel)) ggX1_pass_X0_drunkIn
theorem dX1_pass_0 : decode cX1_pass 0 = .ok (.iload_n 1, 1) := by decide +kernel
theorem dX1_pass_1 : decode cX1_pass 1 = .ok (.iconst 1, 1) := by decide +kernel
theorem dX1_pass_2 : decode cX1_pass 2 = .ok (.bipush 100, 2) := by decide +kernel
theorem dX1_pass_4 : decode cX1_pass 4 = .ok (.invokestatic 19, 3) := by decide +kernel
theorem dX1_pass_7 : decode cX1_pass 7 = .ok (.invokestatic 23, 3) := by decide +kernel
theorem dX1_pass_10 : decode cX1_pass 10 = .ok (.aload_n 0, 1) := by decide +kernel
theorem dX1_pass_11 : decode cX1_pass 11 = .ok (.getfield 10, 3) := by decide +kernel
theorem dX1_pass_14 : decode cX1_pass 14 = .ok (.iload_n 1, 1) := by decide +kernel
theorem dX1_pass_15 : decode cX1_pass 15 = .ok (.invokevirtual 80, 3) := by decide +kernel
theorem dX1_pass_18 : decode cX1_pass 18 = .ok (.ireturn, 1) := by decide +kernel
set_option maxRecDepth 20000 in
theorem ggX1_foresee_X1_isWithin : GoodIn wsX1_foresee wsX1_isWithin := goodIn_r _ [6] (by decide +kernel) (by decide +kernel)
set_option maxRecDepth 20000 in
theorem gX1_foresee_X1_isWithin : GoodIn wsX1_foresee (va_wsS RX1 19 yX1_isWithin wsX1_isWithin) := goodIn_app (goodIn_of _ (by decide +kernel)) ggX1_foresee_X1_isWithin
set_option maxRecDepth 20000 in
theorem ggX1_foresee_X1_needArgument : GoodIn wsX1_foresee wsX1_needArgument := goodIn_ca (goodIn_r _ [9, 10, 11] (by decide +kernel) (by decide +kernel)) (goodIn_sub (fun _ h => List.mem_cons_of_mem _ (List.mem_append_left _ (List.mem_append_right _ h))) (by decide +kernel))
set_option maxRecDepth 20000 in
theorem gX1_foresee_X1_needArgument : GoodIn wsX1_foresee (va_wsS RX1 23 yX1_needArgument wsX1_needArgument) := goodIn_app (goodIn_of _ (by decide +kernel)) ggX1_foresee_X1_needArgument
set_option maxRecDepth 20000 in
theorem ggX1_foresee_X1_needIndex : GoodIn wsX1_foresee wsX1_needIndex := goodIn_ca (goodIn_r _ [14, 15, 16] (by decide +kernel) (by decide +kernel)) (goodIn_sub (fun _ h => List.mem_cons_of_mem _ (List.mem_append_right _ h)) (by decide +kernel))
set_option maxRecDepth 20000 in
theorem gX1_foresee_X1_needIndex : GoodIn wsX1_foresee (va_wsS RX1 62 yX1_needIndex wsX1_needIndex) := goodIn_app (goodIn_of _ (by decide +kernel)) ggX1_foresee_X1_needIndex
set_option maxRecDepth 20000 in
theorem ggX1_foresee_X0_copyFrom : GoodIn wsX1_foresee wsX0_copyFrom := goodIn_r _ [21, 22, 23, 24, 25, 26, 27, 28, 29, 30, 87, 88, 89, 90, 91] (by decide +kernel) (by decide +kernel)
set_option maxRecDepth 20000 in
theorem gX1_foresee_X0_copyFrom : GoodIn wsX1_foresee (wsV RX1 83 RX0 yX0_copyFrom wsX0_copyFrom) := goodIn_app (goodIn_of _ (by decide +kernel)) ggX1_foresee_X0_copyFrom
set_option maxRecDepth 20000 in
theorem ggX1_foresee_X0_drunkIn : GoodIn wsX1_foresee wsX0_drunkIn := goodIn_r _ [34, 35, 36, 37, 20, 38, 23, 25, 39, 40, 41, 42, 24, 22, 43, 44, 45, 46, 47, 48, 49, 50, 51, 52, 53, 54, 55, 56, 57, 58, 59, 60, 61, 62, 30, 63, 64, 65, 66, 67, 68, 69, 70, 71, 72, 73, 74, 75, 76, 77, 78, 79, 87, 88, 89, 90, 91] (by decide +kernel) (by decide +kernel)
set_option maxRecDepth 20000 in
theorem gX1_foresee_X0_drunkIn : GoodIn wsX1_foresee (wsV RX1 80 RX0 yX0_drunkIn wsX0_drunkIn) := goodIn_app (goodIn_of _ (by decide +kernel)) ggX1_foresee_X0_drunkIn
set_option maxRecDepth 20000 in
theorem ggX1_foresee_X0_sumOfPipes : GoodIn wsX1_foresee wsX0_sumOfPipes := goodIn_r _ [83, 24, 30, 87, 88, 89, 90, 91] (by decide +kernel) (by decide +kernel)
set_option maxRecDepth 20000 in
theorem gX1_foresee_X0_sumOfPipes : GoodIn wsX1_foresee (wsV RX1 87 RX0 yX0_sumOfPipes wsX0_sumOfPipes) := goodIn_app (goodIn_of _ (by decide +kernel)) ggX1_foresee_X0_sumOfPipes
set_option maxRecDepth 20000 in
theorem ggX1_foresee_X0_sumOfTanks : GoodIn wsX1_foresee wsX0_sumOfTanks := goodIn_r _ [38, 23, 25, 87, 88, 89, 90, 91] (by decide +kernel) (by decide +kernel)
set_option maxRecDepth 20000 in
theorem gX1_foresee_X0_sumOfTanks : GoodIn wsX1_foresee (wsV RX1 90 RX0 yX0_sumOfTanks wsX0_sumOfTanks) := goodIn_app (goodIn_of _ (by decide +kernel)) ggX1_foresee_X0_sumOfTanks
theorem dX1_foresee_0 : decode cX1_foresee 0 = .ok (.iload_n 1, 1) := by decide +kernel
theorem dX1_foresee_1 : decode cX1_foresee 1 = .ok (.iconst 1, 1) := by decide +kernel
theorem dX1_foresee_2 : decode cX1_foresee 2 = .ok (.bipush 100, 2) := by decide +kernel
theorem dX1_foresee_4 : decode cX1_foresee 4 = .ok (.invokestatic 19, 3) := by decide +kernel
theorem dX1_foresee_7 : decode cX1_foresee 7 = .ok (.invokestatic 23, 3) := by decide +kernel
theorem dX1_foresee_10 : decode cX1_foresee 10 = .ok (.iload_n 2, 1) := by decide +kernel
theorem dX1_foresee_11 : decode cX1_foresee 11 = .ok (.iconst 0, 1) := by decide +kernel
theorem dX1_foresee_12 : decode cX1_foresee 12 = .ok (.iconst 3, 1) := by decide +kernel
theorem dX1_foresee_13 : decode cX1_foresee 13 = .ok (.invokestatic 19, 3) := by decide +kernel
theorem dX1_foresee_16 : decode cX1_foresee 16 = .ok (.invokestatic 62, 3) := by decide +kernel
theorem dX1_foresee_19 : decode cX1_foresee 19 = .ok (.aload_n 0, 1) := by decide +kernel
theorem dX1_foresee_20 : decode cX1_foresee 20 = .ok (.getfield 16, 3) := by decide +kernel
theorem dX1_foresee_23 : decode cX1_foresee 23 = .ok (.aload_n 0, 1) := by decide +kernel
theorem dX1_foresee_24 : decode cX1_foresee 24 = .ok (.getfield 10, 3) := by decide +kernel
theorem dX1_foresee_27 : decode cX1_foresee 27 = .ok (.invokevirtual 83, 3) := by decide +kernel
theorem dX1_foresee_30 : decode cX1_foresee 30 = .ok (.aload_n 0, 1) := by decide +kernel
theorem dX1_foresee_31 : decode cX1_foresee 31 = .ok (.getfield 16, 3) := by decide +kernel
theorem dX1_foresee_34 : decode cX1_foresee 34 = .ok (.iload_n 1, 1) := by decide +kernel
theorem dX1_foresee_35 : decode cX1_foresee 35 = .ok (.invokevirtual 80, 3) := by decide +kernel
theorem dX1_foresee_38 : decode cX1_foresee 38 = .ok (.istore_n 3, 1) := by decide +kernel
theorem dX1_foresee_39 : decode cX1_foresee 39 = .ok (.iload_n 2, 1) := by decide +kernel
theorem dX1_foresee_40 : decode cX1_foresee 40 = .ok (.tableswitch 59 0 2 #[28, 30, 50], 28) := by decide +kernel
theorem dX1_foresee_68 : decode cX1_foresee 68 = .ok (.iload_n 3, 1) := by decide +kernel
theorem dX1_foresee_69 : decode cX1_foresee 69 = .ok (.ireturn, 1) := by decide +kernel
theorem dX1_foresee_70 : decode cX1_foresee 70 = .ok (.aload_n 0, 1) := by decide +kernel
theorem dX1_foresee_71 : decode cX1_foresee 71 = .ok (.getfield 16, 3) := by decide +kernel
theorem dX1_foresee_74 : decode cX1_foresee 74 = .ok (.bipush 7, 2) := by decide +kernel
theorem dX1_foresee_76 : decode cX1_foresee 76 = .ok (.invokevirtual 87, 3) := by decide +kernel
theorem dX1_foresee_79 : decode cX1_foresee 79 = .ok (.aload_n 0, 1) := by decide +kernel
theorem dX1_foresee_80 : decode cX1_foresee 80 = .ok (.getfield 10, 3) := by decide +kernel
theorem dX1_foresee_83 : decode cX1_foresee 83 = .ok (.bipush 7, 2) := by decide +kernel
theorem dX1_foresee_85 : decode cX1_foresee 85 = .ok (.invokevirtual 87, 3) := by decide +kernel
theorem dX1_foresee_88 : decode cX1_foresee 88 = .ok (.isub, 1) := by decide +kernel
theorem dX1_foresee_89 : decode cX1_foresee 89 = .ok (.ireturn, 1) := by decide +kernel
theorem dX1_foresee_90 : decode cX1_foresee 90 = .ok (.aload_n 0, 1) := by decide +kernel
theorem dX1_foresee_91 : decode cX1_foresee 91 = .ok (.getfield 16, 3) := by decide +kernel
theorem dX1_foresee_94 : decode cX1_foresee 94 = .ok (.iconst 3, 1) := by decide +kernel
theorem dX1_foresee_95 : decode cX1_foresee 95 = .ok (.invokevirtual 90, 3) := by decide +kernel
theorem dX1_foresee_98 : decode cX1_foresee 98 = .ok (.ireturn, 1) := by decide +kernel
theorem dX1_foresee_99 : decode cX1_foresee 99 = .ok (.aload_n 0, 1) := by decide +kernel
theorem dX1_foresee_100 : decode cX1_foresee 100 = .ok (.getfield 16, 3) := by decide +kernel
theorem dX1_foresee_103 : decode cX1_foresee 103 = .ok (.iconst 4, 1) := by decide +kernel
theorem dX1_foresee_104 : decode cX1_foresee 104 = .ok (.invokevirtual 87, 3) := by decide +kernel
theorem dX1_foresee_107 : decode cX1_foresee 107 = .ok (.ireturn, 1) := by decide +kernel
set_option maxRecDepth 20000 in
theorem ggX1_sated_X1_needTank : GoodIn wsX1_sated wsX1_needTank := goodIn_ca (goodIn_r _ [7, 2, 8, 9, 10, 6, 11, 12, 13, 73, 74, 75, 76, 77, 78, 79] (by decide +kernel) (by decide +kernel)) (goodIn_sub (fun _ h => List.mem_cons_of_mem _ (List.mem_append_right _ h)) (by decide +kernel))
set_option maxRecDepth 20000 in
theorem gX1_sated_X1_needTank : GoodIn wsX1_sated (wsV RX1 42 RX1 yX1_needTank wsX1_needTank) := goodIn_app (goodIn_of _ (by decide +kernel)) ggX1_sated_X1_needTank
set_option maxRecDepth 20000 in
theorem ggX1_sated_X0_copyFrom : GoodIn wsX1_sated wsX0_copyFrom := goodIn_r _ [18, 19, 20, 21, 22, 23, 24, 25, 26, 27, 75, 76, 77, 78, 79] (by decide +kernel) (by decide +kernel)
set_option maxRecDepth 20000 in
theorem gX1_sated_X0_copyFrom : GoodIn wsX1_sated (wsV RX1 83 RX0 yX0_copyFrom wsX0_copyFrom) := goodIn_app (goodIn_of _ (by decide +kernel)) ggX1_sated_X0_copyFrom
set_option maxRecDepth 20000 in
theorem ggX1_sated_X0_goThroughDay : GoodIn wsX1_sated wsX0_goThroughDay := goodIn_r _ [31, 20, 22, 21, 19, 32, 33, 17, 34, 35, 36, 37, 38, 39, 40, 41, 42, 43, 44, 45, 46, 47, 48, 49, 50, 51, 27, 52, 53, 54, 55, 56, 57, 58, 59, 60, 61, 62, 63, 64, 65, 66, 67, 68, 75, 76, 77, 78, 79] (by decide +kernel) (by decide +kernel)
set_option maxRecDepth 20000 in
theorem gX1_sated_X0_goThroughDay : GoodIn wsX1_sated (wsV RX1 93 RX0 yX0_goThroughDay wsX0_goThroughDay) := goodIn_app (goodIn_of _ (by decide +kernel)) ggX1_sated_X0_goThroughDay
set_option maxRecDepth 20000 in
theorem ggX1_sated_X0_isThirsty : GoodIn wsX1_sated wsX0_isThirsty := goodIn_r _ [72, 22, 75, 76, 77, 78, 79] (by decide +kernel) (by decide +kernel)
set_option maxRecDepth 20000 in
theorem gX1_sated_X0_isThirsty : GoodIn wsX1_sated (wsV RX1 96 RX0 yX0_isThirsty wsX0_isThirsty) := goodIn_app (goodIn_of _ (by decide +kernel)) ggX1_sated_X0_isThirsty
theorem dX1_sated_0 : decode cX1_sated 0 = .ok (.aload_n 0, 1) := by decide +kernel
theorem dX1_sated_1 : decode cX1_sated 1 = .ok (.iload_n 1, 1) := by decide +kernel
theorem dX1_sated_2 : decode cX1_sated 2 = .ok (.invokevirtual 42, 3) := by decide +kernel
theorem dX1_sated_5 : decode cX1_sated 5 = .ok (.aload_n 0, 1) := by decide +kernel
theorem dX1_sated_6 : decode cX1_sated 6 = .ok (.getfield 16, 3) := by decide +kernel
theorem dX1_sated_9 : decode cX1_sated 9 = .ok (.aload_n 0, 1) := by decide +kernel
theorem dX1_sated_10 : decode cX1_sated 10 = .ok (.getfield 10, 3) := by decide +kernel
theorem dX1_sated_13 : decode cX1_sated 13 = .ok (.invokevirtual 83, 3) := by decide +kernel
theorem dX1_sated_16 : decode cX1_sated 16 = .ok (.iconst 1, 1) := by decide +kernel
theorem dX1_sated_17 : decode cX1_sated 17 = .ok (.istore_n 2, 1) := by decide +kernel
theorem dX1_sated_18 : decode cX1_sated 18 = .ok (.iload_n 2, 1) := by decide +kernel
theorem dX1_sated_19 : decode cX1_sated 19 = .ok (.bipush 100, 2) := by decide +kernel
theorem dX1_sated_21 : decode cX1_sated 21 = .ok (.if_icmp .gt 29, 3) := by decide +kernel
theorem dX1_sated_24 : decode cX1_sated 24 = .ok (.aload_n 0, 1) := by decide +kernel
theorem dX1_sated_25 : decode cX1_sated 25 = .ok (.getfield 16, 3) := by decide +kernel
theorem dX1_sated_28 : decode cX1_sated 28 = .ok (.invokevirtual 93, 3) := by decide +kernel
theorem dX1_sated_31 : decode cX1_sated 31 = .ok (.aload_n 0, 1) := by decide +kernel
theorem dX1_sated_32 : decode cX1_sated 32 = .ok (.getfield 16, 3) := by decide +kernel
theorem dX1_sated_35 : decode cX1_sated 35 = .ok (.iload_n 1, 1) := by decide +kernel
theorem dX1_sated_36 : decode cX1_sated 36 = .ok (.invokevirtual 96, 3) := by decide +kernel
theorem dX1_sated_39 : decode cX1_sated 39 = .ok (.ifCond .ne 5, 3) := by decide +kernel
theorem dX1_sated_42 : decode cX1_sated 42 = .ok (.iload_n 2, 1) := by decide +kernel
theorem dX1_sated_43 : decode cX1_sated 43 = .ok (.ireturn, 1) := by decide +kernel
theorem dX1_sated_44 : decode cX1_sated 44 = .ok (.iinc 2 1, 3) := by decide +kernel
theorem dX1_sated_47 : decode cX1_sated 47 = .ok (.goto (-29), 3) := by decide +kernel
theorem dX1_sated_50 : decode cX1_sated 50 = .ok (.iconst (-1), 1) := by decide +kernel
theorem dX1_sated_51 : decode cX1_sated 51 = .ok (.ireturn, 1) := by decide +kernel
set_option maxRecDepth 20000 in
theorem ggX1_mean_X0_sumOfTanks : GoodIn wsX1_mean wsX0_sumOfTanks := goodIn_r _ [7, 8, 9, 12, 13, 14, 15, 16] (by decide +kernel) (by decide +kernel)
set_option maxRecDepth 20000 in
theorem gX1_mean_X0_sumOfTanks : GoodIn wsX1_mean (wsV RX1 90 RX0 yX0_sumOfTanks wsX0_sumOfTanks) := goodIn_app (goodIn_of _ (by decide +kernel)) ggX1_mean_X0_sumOfTanks
theorem dX1_mean_0 : decode cX1_mean 0 = .ok (.aload_n 0, 1) := by decide +kernel
theorem dX1_mean_1 : decode cX1_mean 1 = .ok (.getfield 10, 3) := by decide +kernel
theorem dX1_mean_4 : decode cX1_mean 4 = .ok (.getfield 100, 3) := by decide +kernel
theorem dX1_mean_7 : decode cX1_mean 7 = .ok (.ifCond .ne 5, 3) := by decide +kernel
theorem dX1_mean_10 : decode cX1_mean 10 = .ok (.dconst 0, 1) := by decide +kernel
theorem dX1_mean_11 : decode cX1_mean 11 = .ok (.dreturn, 1) := by decide +kernel
theorem dX1_mean_12 : decode cX1_mean 12 = .ok (.aload_n 0, 1) := by decide +kernel
theorem dX1_mean_13 : decode cX1_mean 13 = .ok (.getfield 10, 3) := by decide +kernel
theorem dX1_mean_16 : decode cX1_mean 16 = .ok (.bipush 6, 2) := by decide +kernel
theorem dX1_mean_18 : decode cX1_mean 18 = .ok (.invokevirtual 90, 3) := by decide +kernel
theorem dX1_mean_21 : decode cX1_mean 21 = .ok (.i2d, 1) := by decide +kernel
theorem dX1_mean_22 : decode cX1_mean 22 = .ok (.aload_n 0, 1) := by decide +kernel
theorem dX1_mean_23 : decode cX1_mean 23 = .ok (.getfield 10, 3) := by decide +kernel
theorem dX1_mean_26 : decode cX1_mean 26 = .ok (.getfield 100, 3) := by decide +kernel
theorem dX1_mean_29 : decode cX1_mean 29 = .ok (.i2d, 1) := by decide +kernel
theorem dX1_mean_30 : decode cX1_mean 30 = .ok (.ddiv, 1) := by decide +kernel
theorem dX1_mean_31 : decode cX1_mean 31 = .ok (.dreturn, 1) := by decide +kernel
theorem dX1_isWithin_0 : decode cX1_isWithin 0 = .ok (.iload_n 0, 1) := by decide +kernel
theorem dX1_isWithin_1 : decode cX1_isWithin 1 = .ok (.iload_n 1, 1) := by decide +kernel
theorem dX1_isWithin_2 : decode cX1_isWithin 2 = .ok (.if_icmp .lt 12, 3) := by decide +kernel
theorem dX1_isWithin_5 : decode cX1_isWithin 5 = .ok (.iload_n 0, 1) := by decide +kernel
theorem dX1_isWithin_6 : decode cX1_isWithin 6 = .ok (.iload_n 2, 1) := by decide +kernel
theorem dX1_isWithin_7 : decode cX1_isWithin 7 = .ok (.if_icmp .gt 7, 3) := by decide +kernel
theorem dX1_isWithin_10 : decode cX1_isWithin 10 = .ok (.iconst 1, 1) := by decide +kernel
theorem dX1_isWithin_11 : decode cX1_isWithin 11 = .ok (.goto 4, 3) := by decide +kernel
theorem dX1_isWithin_14 : decode cX1_isWithin 14 = .ok (.iconst 0, 1) := by decide +kernel
theorem dX1_isWithin_15 : decode cX1_isWithin 15 = .ok (.ireturn, 1) := by decide +kernel
set_option maxRecDepth 20000 in
theorem ggX1_isSpringAndThirst_X1_isWithin : GoodIn wsX1_isSpringAndThirst wsX1_isWithin := goodIn_r _ [4] (by decide +kernel) (by decide +kernel)
set_option maxRecDepth 20000 in
theorem gX1_isSpringAndThirst_X1_isWithin : GoodIn wsX1_isSpringAndThirst (va_wsS RX1 19 yX1_isWithin wsX1_isWithin) := goodIn_app (goodIn_of _ (by decide +kernel)) ggX1_isSpringAndThirst_X1_isWithin
theorem dX1_isSpringAndThirst_0 : decode cX1_isSpringAndThirst 0 = .ok (.iload_n 0, 1) := by decide +kernel
theorem dX1_isSpringAndThirst_1 : decode cX1_isSpringAndThirst 1 = .ok (.iconst 0, 1) := by decide +kernel
theorem dX1_isSpringAndThirst_2 : decode cX1_isSpringAndThirst 2 = .ok (.bipush 20, 2) := by decide +kernel
theorem dX1_isSpringAndThirst_4 : decode cX1_isSpringAndThirst 4 = .ok (.invokestatic 19, 3) := by decide +kernel
theorem dX1_isSpringAndThirst_7 : decode cX1_isSpringAndThirst 7 = .ok (.ifCond .eq 17, 3) := by decide +kernel
theorem dX1_isSpringAndThirst_10 : decode cX1_isSpringAndThirst 10 = .ok (.iload_n 1, 1) := by decide +kernel
theorem dX1_isSpringAndThirst_11 : decode cX1_isSpringAndThirst 11 = .ok (.iconst 0, 1) := by decide +kernel
theorem dX1_isSpringAndThirst_12 : decode cX1_isSpringAndThirst 12 = .ok (.bipush 20, 2) := by decide +kernel
theorem dX1_isSpringAndThirst_14 : decode cX1_isSpringAndThirst 14 = .ok (.invokestatic 19, 3) := by decide +kernel
theorem dX1_isSpringAndThirst_17 : decode cX1_isSpringAndThirst 17 = .ok (.ifCond .eq 7, 3) := by decide +kernel
theorem dX1_isSpringAndThirst_20 : decode cX1_isSpringAndThirst 20 = .ok (.iconst 1, 1) := by decide +kernel
theorem dX1_isSpringAndThirst_21 : decode cX1_isSpringAndThirst 21 = .ok (.goto 4, 3) := by decide +kernel
theorem dX1_isSpringAndThirst_24 : decode cX1_isSpringAndThirst 24 = .ok (.iconst 0, 1) := by decide +kernel
theorem dX1_isSpringAndThirst_25 : decode cX1_isSpringAndThirst 25 = .ok (.ireturn, 1) := by decide +kernel
set_option maxRecDepth 20000 in
theorem ggX1_needTank_X1_needIndex : GoodIn wsX1_needTank wsX1_needIndex := goodIn_ca (goodIn_r _ [6, 7, 8] (by decide +kernel) (by decide +kernel)) (goodIn_sub (fun _ h => List.mem_cons_of_mem _ (List.mem_append_right _ h)) (by decide +kernel))
set_option maxRecDepth 20000 in
theorem gX1_needTank_X1_needIndex : GoodIn wsX1_needTank (va_wsS RX1 62 yX1_needIndex wsX1_needIndex) := goodIn_app (goodIn_of _ (by decide +kernel)) ggX1_needTank_X1_needIndex
theorem dX1_needTank_0 : decode cX1_needTank 0 = .ok (.iload_n 1, 1) := by decide +kernel
theorem dX1_needTank_1 : decode cX1_needTank 1 = .ok (.ifCond .lt 18, 3) := by decide +kernel
theorem dX1_needTank_4 : decode cX1_needTank 4 = .ok (.iload_n 1, 1) := by decide +kernel
theorem dX1_needTank_5 : decode cX1_needTank 5 = .ok (.aload_n 0, 1) := by decide +kernel
theorem dX1_needTank_6 : decode cX1_needTank 6 = .ok (.getfield 10, 3) := by decide +kernel
theorem dX1_needTank_9 : decode cX1_needTank 9 = .ok (.getfield 107, 3) := by decide +kernel
theorem dX1_needTank_12 : decode cX1_needTank 12 = .ok (.if_icmp .ge 7, 3) := by decide +kernel
theorem dX1_needTank_15 : decode cX1_needTank 15 = .ok (.iconst 1, 1) := by decide +kernel
theorem dX1_needTank_16 : decode cX1_needTank 16 = .ok (.goto 4, 3) := by decide +kernel
theorem dX1_needTank_19 : decode cX1_needTank 19 = .ok (.iconst 0, 1) := by decide +kernel
theorem dX1_needTank_20 : decode cX1_needTank 20 = .ok (.invokestatic 62, 3) := by decide +kernel
theorem dX1_needTank_23 : decode cX1_needTank 23 = .ok (.return_, 1) := by decide +kernel
set_option maxRecDepth 20000 in
theorem ggX1_needPipe_X1_needIndex : GoodIn wsX1_needPipe wsX1_needIndex := goodIn_ca (goodIn_r _ [6, 7, 8] (by decide +kernel) (by decide +kernel)) (goodIn_sub (fun _ h => List.mem_cons_of_mem _ (List.mem_append_right _ h)) (by decide +kernel))
set_option maxRecDepth 20000 in
theorem gX1_needPipe_X1_needIndex : GoodIn wsX1_needPipe (va_wsS RX1 62 yX1_needIndex wsX1_needIndex) := goodIn_app (goodIn_of _ (by decide +kernel)) ggX1_needPipe_X1_needIndex
theorem dX1_needPipe_0 : decode cX1_needPipe 0 = .ok (.iload_n 1, 1) := by decide +kernel
theorem dX1_needPipe_1 : decode cX1_needPipe 1 = .ok (.ifCond .lt 18, 3) := by decide +kernel
theorem dX1_needPipe_4 : decode cX1_needPipe 4 = .ok (.iload_n 1, 1) := by decide +kernel
theorem dX1_needPipe_5 : decode cX1_needPipe 5 = .ok (.aload_n 0, 1) := by decide +kernel
theorem dX1_needPipe_6 : decode cX1_needPipe 6 = .ok (.getfield 10, 3) := by decide +kernel
theorem dX1_needPipe_9 : decode cX1_needPipe 9 = .ok (.getfield 76, 3) := by decide +kernel
theorem dX1_needPipe_12 : decode cX1_needPipe 12 = .ok (.if_icmp .ge 7, 3) := by decide +kernel
theorem dX1_needPipe_15 : decode cX1_needPipe 15 = .ok (.iconst 1, 1) := by decide +kernel
theorem dX1_needPipe_16 : decode cX1_needPipe 16 = .ok (.goto 4, 3) := by decide +kernel
theorem dX1_needPipe_19 : decode cX1_needPipe 19 = .ok (.iconst 0, 1) := by decide +kernel
theorem dX1_needPipe_20 : decode cX1_needPipe 20 = .ok (.invokestatic 62, 3) := by decide +kernel
theorem dX1_needPipe_23 : decode cX1_needPipe 23 = .ok (.return_, 1) := by decide +kernel
theorem dX1_needIndex_0 : decode cX1_needIndex 0 = .ok (.iload_n 0, 1) := by decide +kernel
theorem dX1_needIndex_1 : decode cX1_needIndex 1 = .ok (.ifCond .ne 13, 3) := by decide +kernel
theorem dX1_needIndex_4 : decode cX1_needIndex 4 = .ok (.new 110, 3) := by decide +kernel
theorem dX1_needIndex_7 : decode cX1_needIndex 7 = .ok (.dup, 1) := by decide +kernel
theorem dX1_needIndex_8 : decode cX1_needIndex 8 = .ok (.ldc 112, 2) := by decide +kernel
theorem dX1_needIndex_10 : decode cX1_needIndex 10 = .ok (.invokespecial 114, 3) := by decide +kernel
theorem dX1_needIndex_13 : decode cX1_needIndex 13 = .ok (.athrow, 1) := by decide +kernel
theorem dX1_needIndex_14 : decode cX1_needIndex 14 = .ok (.return_, 1) := by decide +kernel
theorem dX1_needArgument_0 : decode cX1_needArgument 0 = .ok (.iload_n 0, 1) := by decide +kernel
theorem dX1_needArgument_1 : decode cX1_needArgument 1 = .ok (.ifCond .ne 13, 3) := by decide +kernel
theorem dX1_needArgument_4 : decode cX1_needArgument 4 = .ok (.new 115, 3) := by decide +kernel
theorem dX1_needArgument_7 : decode cX1_needArgument 7 = .ok (.dup, 1) := by decide +kernel
theorem dX1_needArgument_8 : decode cX1_needArgument 8 = .ok (.ldc 117, 2) := by decide +kernel
theorem dX1_needArgument_10 : decode cX1_needArgument 10 = .ok (.invokespecial 119, 3) := by decide +kernel
theorem dX1_needArgument_13 : decode cX1_needArgument 13 = .ok (.athrow, 1) := by decide +kernel
theorem dX1_needArgument_14 : decode cX1_needArgument 14 = .ok (.return_, 1) := by decide +kernel
end
section
/-! PART 33: the class itself -/
set_option maxHeartbeats 4000000 in
set_option maxRecDepth 100000 in
theorem c_X1_isWithin (l : Launch) (z : QZ) (σ : Nat → QLs) (S : QLs) (x y v : Int32) : GI l yX1_isWithin wsX1_isWithin ({ frames := 0, cells := 0, slots := 0, locals := 0 } : Room) z [.int x, .int y, .int v] 0 0 (XAt z) 0 55 (va_up σ 0 S) (fun r σ' => r = (if y ≤ x ∧ x ≤ v then 1 else 0) ∧ σ' = va_up σ 0 S) := by
  intro ct sz hn hq hat
  refine q_entry (lo := 0) (cc := cX1_isWithin) (maxL := 3) (ret := (some .boolean)) (by decide) rfl (Nat.le_of_ble_eq_true rfl) hn hq hat ?_
  intro p e s m below meth c ls C0 hK hsz h hl
  subst hsz
  obtain ⟨hx, hb, hr, hml, hown, hts, hlocks⟩ := id C0
  have hB : 0 < 2 := by decide
  have hl : lv_has ls 3 [(0, .int x), (1, .int y), (2, .int v)] := hl
  refine lv_iload_n hx hb dX1_isWithin_0 rfl (lv_at hl 0 rfl) ?_
  refine lv_iload_n hx hb dX1_isWithin_1 rfl (lv_at hl 1 rfl) ?_
  refine lv_icmp_lt (tgt := 14) hx hb dX1_isWithin_2 (by decide) (fun c_2 => ?_) (fun c_2 => ?_)
  · refine lv_iconst (v := 0) hx hb dX1_isWithin_14 (by decide) ?_
    exact G_zret C0 hK h ⟨by rw [if_neg (fun q => absurd c_2 (Int32.not_lt.mpr q.1))], rfl⟩ (by decide) (Nat.le_of_ble_eq_true rfl) (Nat.le_of_ble_eq_true rfl) dX1_isWithin_15
  · refine lv_iload_n hx hb dX1_isWithin_5 rfl (lv_at hl 0 rfl) ?_
    refine lv_iload_n hx hb dX1_isWithin_6 rfl (lv_at hl 2 rfl) ?_
    refine lv_icmp_gt (tgt := 14) hx hb dX1_isWithin_7 (by decide) (fun c_7 => ?_) (fun c_7 => ?_)
    · refine lv_iconst (v := 0) hx hb dX1_isWithin_14 (by decide) ?_
      exact G_zret C0 hK h ⟨by rw [if_neg (fun q => absurd c_7 (Int32.not_lt.mpr q.2))], rfl⟩ (by decide) (Nat.le_of_ble_eq_true rfl) (Nat.le_of_ble_eq_true rfl) dX1_isWithin_15
    · refine lv_iconst (v := 1) hx hb dX1_isWithin_10 (by decide) ?_
      refine lv_goto (tgt := 15) hx hb dX1_isWithin_11 (by decide) ?_
      exact G_zret C0 hK h ⟨by rw [if_pos ⟨Int32.not_lt.mp c_2, Int32.not_lt.mp c_7⟩], rfl⟩ (by decide) (Nat.le_of_ble_eq_true rfl) (Nat.le_of_ble_eq_true rfl) dX1_isWithin_15
set_option maxHeartbeats 4000000 in
set_option maxRecDepth 100000 in
theorem c_X1_isSpringAndThirst (l : Launch) (z : QZ) (σ : Nat → QLs) (S : QLs) (x y : Int32) : GI l yX1_isSpringAndThirst wsX1_isSpringAndThirst ({ frames := 1, cells := 0, slots := 0, locals := 22 } : Room) z [.int x, .int y] 0 0 (XAt z) 0 55 (va_up σ 0 S) (fun r σ' => r = (if (0 ≤ x ∧ x ≤ 20) ∧ (0 ≤ y ∧ y ≤ 20) then 1 else 0) ∧ σ' = va_up σ 0 S) := by
  intro ct sz hn hq hat
  refine q_entry (lo := 0) (cc := cX1_isSpringAndThirst) (maxL := 2) (ret := (some .boolean)) (by decide) rfl (Nat.le_of_ble_eq_true rfl) hn hq hat ?_
  intro p e s m below meth c ls C0 hK hsz h hl
  subst hsz
  obtain ⟨hx, hb, hr, hml, hown, hts, hlocks⟩ := id C0
  have hB : 0 < 2 := by decide
  have hl : lv_has ls 2 [(0, .int x), (1, .int y)] := hl
  refine lv_iload_n hx hb dX1_isSpringAndThirst_0 rfl (lv_at hl 0 rfl) ?_
  refine lv_iconst (v := 0) hx hb dX1_isSpringAndThirst_1 (by decide) ?_
  refine lv_bipush (v := 20) hx hb dX1_isSpringAndThirst_2 (by decide) ?_
  refine S_callSi C0 hK h (c_X1_isWithin l z σ S x 0 20) (va_cwS 3 hts gX1_isSpringAndThirst_X1_isWithin rfl rfl rfl (by decide +kernel) ⟨Nat.le_of_ble_eq_true rfl, Nat.le_of_ble_eq_true rfl⟩) rfl hl.1 (rest := []) rfl (Nat.le_of_ble_eq_true rfl) ⟨Nat.le_of_ble_eq_true rfl, Nat.le_of_ble_eq_true rfl⟩ dX1_isSpringAndThirst_4 (fun r u H locs hp h => ?_)
  rcases q_bool _ hp with ⟨hc1, rfl, hu9⟩ | ⟨hc1, rfl, hu9⟩
  · rw [hu9] at h
    refine lv_if_eq (tgt := 24) hx hb dX1_isSpringAndThirst_7 (by decide) (fun q9 => absurd q9 (by decide)) (fun _ => ?_)
    refine lv_iload_n hx hb dX1_isSpringAndThirst_10 rfl (lv_at hl 1 rfl) ?_
    refine lv_iconst (v := 0) hx hb dX1_isSpringAndThirst_11 (by decide) ?_
    refine lv_bipush (v := 20) hx hb dX1_isSpringAndThirst_12 (by decide) ?_
    refine S_callSi C0 hK h (c_X1_isWithin l z σ S y 0 20) (va_cwS 3 hts gX1_isSpringAndThirst_X1_isWithin rfl rfl rfl (by decide +kernel) ⟨Nat.le_of_ble_eq_true rfl, Nat.le_of_ble_eq_true rfl⟩) rfl hl.1 (rest := []) rfl (Nat.le_of_ble_eq_true rfl) ⟨Nat.le_of_ble_eq_true rfl, Nat.le_of_ble_eq_true rfl⟩ dX1_isSpringAndThirst_14 (fun r u H locs hp h => ?_)
    rcases q_bool _ hp with ⟨hc2, rfl, hu9⟩ | ⟨hc2, rfl, hu9⟩
    · rw [hu9] at h
      refine lv_if_eq (tgt := 24) hx hb dX1_isSpringAndThirst_17 (by decide) (fun q9 => absurd q9 (by decide)) (fun _ => ?_)
      refine lv_iconst (v := 1) hx hb dX1_isSpringAndThirst_20 (by decide) ?_
      refine lv_goto (tgt := 25) hx hb dX1_isSpringAndThirst_21 (by decide) ?_
      exact G_zret C0 hK h ⟨by rw [if_pos ⟨hc1, hc2⟩], rfl⟩ (by decide) (Nat.le_of_ble_eq_true rfl) (Nat.le_of_ble_eq_true rfl) dX1_isSpringAndThirst_25
    · rw [hu9] at h
      refine lv_if_eq (tgt := 24) hx hb dX1_isSpringAndThirst_17 (by decide) (fun _ => ?_) (fun q9 => absurd (by decide) q9)
      refine lv_iconst (v := 0) hx hb dX1_isSpringAndThirst_24 (by decide) ?_
      exact G_zret C0 hK h ⟨by rw [if_neg (fun q => hc2 q.2)], rfl⟩ (by decide) (Nat.le_of_ble_eq_true rfl) (Nat.le_of_ble_eq_true rfl) dX1_isSpringAndThirst_25
  · rw [hu9] at h
    refine lv_if_eq (tgt := 24) hx hb dX1_isSpringAndThirst_7 (by decide) (fun _ => ?_) (fun q9 => absurd (by decide) q9)
    refine lv_iconst (v := 0) hx hb dX1_isSpringAndThirst_24 (by decide) ?_
    exact G_zret C0 hK h ⟨by rw [if_neg (fun q => hc1 q.1)], rfl⟩ (by decide) (Nat.le_of_ble_eq_true rfl) (Nat.le_of_ble_eq_true rfl) dX1_isSpringAndThirst_25
set_option maxHeartbeats 4000000 in
set_option maxRecDepth 100000 in
theorem c_X1_needIndex_ok (l : Launch) (z : QZ) (σ : Nat → QLs) (S : QLs) : GV l yX1_needIndex wsX1_needIndex ({ frames := 0, cells := 0, slots := 0, locals := 0 } : Room) z [.int 1] 0 0 (XAt z) 0 55 (va_up σ 0 S) (fun σ' => σ' = va_up σ 0 S) := by
  intro ct sz hn hq hat
  refine q_entry (lo := 0) (cc := cX1_needIndex) (maxL := 1) (ret := none) (by decide) rfl (Nat.le_of_ble_eq_true rfl) hn hq hat ?_
  intro p e s m below meth c ls C0 hK hsz h hl
  subst hsz
  obtain ⟨hx, hb, hr, hml, hown, hts, hlocks⟩ := id C0
  have hB : 0 < 2 := by decide
  have hl : lv_has ls 1 [(0, .int 1)] := hl
  refine lv_iload_n hx hb dX1_needIndex_0 rfl (lv_at hl 0 rfl) ?_
  refine lv_if_ne (tgt := 14) hx hb dX1_needIndex_1 (by decide) (fun _ => ?_) (fun q9 => absurd q9 (by decide))
  exact G_vret C0 hK h rfl (Nat.le_of_ble_eq_true rfl) (Nat.le_of_ble_eq_true rfl) dX1_needIndex_14
set_option maxHeartbeats 4000000 in
set_option maxRecDepth 100000 in
theorem c_X1_needArgument_ok (l : Launch) (z : QZ) (σ : Nat → QLs) (S : QLs) : GV l yX1_needArgument wsX1_needArgument ({ frames := 0, cells := 0, slots := 0, locals := 0 } : Room) z [.int 1] 0 0 (XAt z) 0 55 (va_up σ 0 S) (fun σ' => σ' = va_up σ 0 S) := by
  intro ct sz hn hq hat
  refine q_entry (lo := 0) (cc := cX1_needArgument) (maxL := 1) (ret := none) (by decide) rfl (Nat.le_of_ble_eq_true rfl) hn hq hat ?_
  intro p e s m below meth c ls C0 hK hsz h hl
  subst hsz
  obtain ⟨hx, hb, hr, hml, hown, hts, hlocks⟩ := id C0
  have hB : 0 < 2 := by decide
  have hl : lv_has ls 1 [(0, .int 1)] := hl
  refine lv_iload_n hx hb dX1_needArgument_0 rfl (lv_at hl 0 rfl) ?_
  refine lv_if_ne (tgt := 14) hx hb dX1_needArgument_1 (by decide) (fun _ => ?_) (fun q9 => absurd q9 (by decide))
  exact G_vret C0 hK h rfl (Nat.le_of_ble_eq_true rfl) (Nat.le_of_ble_eq_true rfl) dX1_needArgument_14
set_option maxHeartbeats 4000000 in
set_option maxRecDepth 100000 in
theorem c_X1_needTank_ok (l : Launch) (z : QZ) (σ : Nat → QLs) (S : QLs) (i : Nat) (hi : i < qt S) (h9 : qt S < 1000) : GV l yX1_needTank wsX1_needTank ({ frames := 1, cells := 0, slots := 0, locals := 20 } : Room) z [.ref (za z 0), .int (nI i)] 0 0 (XAt z) 0 55 (va_up σ 0 S) (fun σ' => σ' = va_up σ 0 S) := by
  intro ct sz hn hq hat
  refine q_entry (lo := 0) (cc := cX1_needTank) (maxL := 2) (ret := none) (by decide) rfl (Nat.le_of_ble_eq_true rfl) hn hq hat ?_
  intro p e s m below meth c ls C0 hK hsz h hl
  subst hsz
  obtain ⟨hx, hb, hr, hml, hown, hts, hlocks⟩ := id C0
  have hB : 0 < 2 := by decide
  have hin0 : ∀ w ∈ u_ws RX0 TX0 5, w ∈ wsX1_needTank := by decide +kernel
  have hin1 : ∀ w ∈ u_ws RX1 TX1 2, w ∈ wsX1_needTank := by decide +kernel
  have hl : lv_has ls 2 [(0, .ref (za z 0)), (1, .int (nI i))] := hl
  refine lv_iload_n hx hb dX1_needTank_0 rfl (lv_at hl 1 rfl) ?_
  refine lv_if_lt (tgt := 19) hx hb dX1_needTank_1 (by decide) (fun q9 => absurd q9 (show ¬ nI i < 0 from nI_pos (by omega))) (fun _ => ?_)
  refine lv_iload_n hx hb dX1_needTank_4 rfl (lv_at hl 1 rfl) ?_
  refine lv_aload_n hx hb dX1_needTank_5 rfl (lv_at hl 0 rfl) ?_
  refine X_gO C0 hK h hin1 0 (by decide) (by decide +kernel) dX1_needTank_6 ?_
  refine L_gL C0 hK h hB hin0 2 (by decide) (by decide +kernel) rfl dX1_needTank_9 ?_
  refine lv_icmp_ge (tgt := 19) hx hb dX1_needTank_12 (by decide) (fun q9 => absurd q9 (nI_ge (a := i) (b := qt S) hi (by omega))) (fun _ => ?_)
  refine lv_iconst (v := 1) hx hb dX1_needTank_15 (by decide) ?_
  refine lv_goto (tgt := 20) hx hb dX1_needTank_16 (by decide) ?_
  refine S_callSv C0 hK h (c_X1_needIndex_ok l z σ S) (va_cwS 1 hts gX1_needTank_X1_needIndex rfl rfl rfl (by decide +kernel) ⟨Nat.le_of_ble_eq_true rfl, Nat.le_of_ble_eq_true rfl⟩) rfl hl.1 (rest := []) rfl (Nat.le_of_ble_eq_true rfl) ⟨Nat.le_of_ble_eq_true rfl, Nat.le_of_ble_eq_true rfl⟩ dX1_needTank_20 (fun u H locs hp h => ?_)
  rw [hp] at h
  exact G_vret C0 hK h rfl (Nat.le_of_ble_eq_true rfl) (Nat.le_of_ble_eq_true rfl) dX1_needTank_23
set_option maxHeartbeats 4000000 in
set_option maxRecDepth 100000 in
theorem c_X1_needPipe_ok (l : Launch) (z : QZ) (σ : Nat → QLs) (S : QLs) (i : Nat) (hi : i < qp S) (h9 : qp S < 1000) : GV l yX1_needPipe wsX1_needPipe ({ frames := 1, cells := 0, slots := 0, locals := 20 } : Room) z [.ref (za z 0), .int (nI i)] 0 0 (XAt z) 0 55 (va_up σ 0 S) (fun σ' => σ' = va_up σ 0 S) := by
  intro ct sz hn hq hat
  refine q_entry (lo := 0) (cc := cX1_needPipe) (maxL := 2) (ret := none) (by decide) rfl (Nat.le_of_ble_eq_true rfl) hn hq hat ?_
  intro p e s m below meth c ls C0 hK hsz h hl
  subst hsz
  obtain ⟨hx, hb, hr, hml, hown, hts, hlocks⟩ := id C0
  have hB : 0 < 2 := by decide
  have hin0 : ∀ w ∈ u_ws RX0 TX0 5, w ∈ wsX1_needPipe := by decide +kernel
  have hin1 : ∀ w ∈ u_ws RX1 TX1 2, w ∈ wsX1_needPipe := by decide +kernel
  have hl : lv_has ls 2 [(0, .ref (za z 0)), (1, .int (nI i))] := hl
  refine lv_iload_n hx hb dX1_needPipe_0 rfl (lv_at hl 1 rfl) ?_
  refine lv_if_lt (tgt := 19) hx hb dX1_needPipe_1 (by decide) (fun q9 => absurd q9 (show ¬ nI i < 0 from nI_pos (by omega))) (fun _ => ?_)
  refine lv_iload_n hx hb dX1_needPipe_4 rfl (lv_at hl 1 rfl) ?_
  refine lv_aload_n hx hb dX1_needPipe_5 rfl (lv_at hl 0 rfl) ?_
  refine X_gO C0 hK h hin1 0 (by decide) (by decide +kernel) dX1_needPipe_6 ?_
  refine L_gL C0 hK h hB hin0 3 (by decide) (by decide +kernel) rfl dX1_needPipe_9 ?_
  refine lv_icmp_ge (tgt := 19) hx hb dX1_needPipe_12 (by decide) (fun q9 => absurd q9 (nI_ge (a := i) (b := qp S) hi (by omega))) (fun _ => ?_)
  refine lv_iconst (v := 1) hx hb dX1_needPipe_15 (by decide) ?_
  refine lv_goto (tgt := 20) hx hb dX1_needPipe_16 (by decide) ?_
  refine S_callSv C0 hK h (c_X1_needIndex_ok l z σ S) (va_cwS 1 hts gX1_needPipe_X1_needIndex rfl rfl rfl (by decide +kernel) ⟨Nat.le_of_ble_eq_true rfl, Nat.le_of_ble_eq_true rfl⟩) rfl hl.1 (rest := []) rfl (Nat.le_of_ble_eq_true rfl) ⟨Nat.le_of_ble_eq_true rfl, Nat.le_of_ble_eq_true rfl⟩ dX1_needPipe_20 (fun u H locs hp h => ?_)
  rw [hp] at h
  exact G_vret C0 hK h rfl (Nat.le_of_ble_eq_true rfl) (Nat.le_of_ble_eq_true rfl) dX1_needPipe_23
end
section
/-! PART 34: build and lay -/
set_option maxHeartbeats 4000000 in
set_option maxRecDepth 100000 in
theorem c_X1_build_ok (l : Launch) (z : QZ) (σ : Nat → QLs) (S : QLs) (hk : LOk S) (ht : qt S < 10) (x y v : Int32) (h9 : (0 ≤ x ∧ x ≤ 99) ∧ (0 ≤ y ∧ y ≤ 20) ∧ (0 ≤ v ∧ v ≤ 20)) : GI l yX1_build wsX1_build ({ frames := 2, cells := 0, slots := 0, locals := 43 } : Room) z [.ref (za z 0), .int x, .int y, .int v] 0 0 (XAt z) 0 55 (va_up σ 0 S) (fun r σ' => r = nI (qt S) ∧ σ' = va_up σ 0 (addT S x y v)) := by
  intro ct sz hn hq hat
  refine q_entry (lo := 0) (cc := cX1_build) (maxL := 5) (ret := (some .int)) (by decide) rfl (Nat.le_of_ble_eq_true rfl) hn hq hat ?_
  intro p e s m below meth c ls C0 hK hsz h hl
  subst hsz
  obtain ⟨hx, hb, hr, hml, hown, hts, hlocks⟩ := id C0
  have hB : 0 < 2 := by decide
  have hin1 : ∀ w ∈ u_ws RX1 TX1 2, w ∈ wsX1_build := by decide +kernel
  have hl : lv_has ls 5 [(0, .ref (za z 0)), (1, .int x), (2, .int y), (3, .int v)] := hl
  have hk1 := hk.1
  have hk2 := hk.2.1
  refine lv_iload_n hx hb dX1_build_0 rfl (lv_at hl 1 rfl) ?_
  refine lv_iconst (v := 0) hx hb dX1_build_1 (by decide) ?_
  refine lv_bipush (v := 99) hx hb dX1_build_2 (by decide) ?_
  refine S_callSi C0 hK h (c_X1_isWithin l z σ S x 0 99) (va_cwS 3 hts gX1_build_X1_isWithin rfl rfl rfl (by decide +kernel) ⟨Nat.le_of_ble_eq_true rfl, Nat.le_of_ble_eq_true rfl⟩) rfl hl.1 (rest := []) rfl (Nat.le_of_ble_eq_true rfl) ⟨Nat.le_of_ble_eq_true rfl, Nat.le_of_ble_eq_true rfl⟩ dX1_build_4 (fun r u H locs hp h => ?_)
  obtain ⟨hr9, hu9⟩ := hp
  have hr9 := hr9.trans (if_pos h9.1)
  subst hr9
  rw [hu9] at h
  refine S_callSv C0 hK h (c_X1_needArgument_ok l z σ S) (va_cwS 1 hts gX1_build_X1_needArgument rfl rfl rfl (by decide +kernel) ⟨Nat.le_of_ble_eq_true rfl, Nat.le_of_ble_eq_true rfl⟩) rfl hl.1 (rest := []) rfl (Nat.le_of_ble_eq_true rfl) ⟨Nat.le_of_ble_eq_true rfl, Nat.le_of_ble_eq_true rfl⟩ dX1_build_7 (fun u H locs hp h => ?_)
  rw [hp] at h
  refine lv_iload_n hx hb dX1_build_10 rfl (lv_at hl 2 rfl) ?_
  refine lv_iload_n hx hb dX1_build_11 rfl (lv_at hl 3 rfl) ?_
  refine S_callSi C0 hK h (c_X1_isSpringAndThirst l z σ S y v) (va_cwS 2 hts gX1_build_X1_isSpringAndThirst rfl rfl rfl (by decide +kernel) ⟨Nat.le_of_ble_eq_true rfl, Nat.le_of_ble_eq_true rfl⟩) rfl hl.1 (rest := []) rfl (Nat.le_of_ble_eq_true rfl) ⟨Nat.le_of_ble_eq_true rfl, Nat.le_of_ble_eq_true rfl⟩ dX1_build_12 (fun r u H locs hp h => ?_)
  obtain ⟨hr9, hu9⟩ := hp
  have hr9 := hr9.trans (if_pos h9.2)
  subst hr9
  rw [hu9] at h
  refine S_callSv C0 hK h (c_X1_needArgument_ok l z σ S) (va_cwS 1 hts gX1_build_X1_needArgument rfl rfl rfl (by decide +kernel) ⟨Nat.le_of_ble_eq_true rfl, Nat.le_of_ble_eq_true rfl⟩) rfl hl.1 (rest := []) rfl (Nat.le_of_ble_eq_true rfl) ⟨Nat.le_of_ble_eq_true rfl, Nat.le_of_ble_eq_true rfl⟩ dX1_build_15 (fun u H locs hp h => ?_)
  rw [hp] at h
  refine lv_aload_n hx hb dX1_build_18 rfl (lv_at hl 0 rfl) ?_
  refine X_gO C0 hK h hin1 0 (by decide) (by decide +kernel) dX1_build_19 ?_
  refine lv_iload_n hx hb dX1_build_22 rfl (lv_at hl 1 rfl) ?_
  refine lv_iload_n hx hb dX1_build_23 rfl (lv_at hl 2 rfl) ?_
  refine lv_iload_n hx hb dX1_build_24 rfl (lv_at hl 3 rfl) ?_
  refine S_callVi C0 hK h (c_X0_addTank l z σ 0 hB S ht x y v) (cwV 3 hts gX1_build_X0_addTank rfl rfl rfl (by decide +kernel) ⟨Nat.le_of_ble_eq_true rfl, Nat.le_of_ble_eq_true rfl⟩) (k := 1 + 27 * 0) (ci := 0) (by omega) (fun ct hA => (hA.2 0 (by decide)).1) rfl rfl rfl hl.1 (rest := []) rfl (Nat.le_of_ble_eq_true rfl) ⟨Nat.le_of_ble_eq_true rfl, Nat.le_of_ble_eq_true rfl⟩ dX1_build_25 (fun r u H locs hp h => ?_)
  obtain ⟨rfl, hp⟩ := hp
  obtain ⟨S1, eS1⟩ : ∃ z9, z9 = addT S x y v := ⟨_, rfl⟩
  rw [hp, ← eS1] at h
  refine lv_istore (lv' := [(4, .int (nI (qt S))), (0, .ref (za z 0)), (1, .int x), (2, .int y), (3, .int v)]) hx hb dX1_build_28 hl (by decide) rfl (fun ls hl => ?_)
  refine lv_iload hx hb dX1_build_30 (lv_at hl 0 rfl) ?_
  refine lv_iconst (v := (-1)) hx hb dX1_build_32 (by decide) ?_
  refine lv_icmp_ne (tgt := 46) hx hb dX1_build_33 (by decide) (fun _ => ?_) (fun q9 => absurd q9 (q_nm1 (k := qt S) (by omega)))
  refine lv_iload hx hb dX1_build_46 (lv_at hl 0 rfl) ?_
  exact G_iret C0 hK h ⟨rfl, congrArg (va_up σ 0) (by subst eS1; rfl)⟩ (Nat.le_of_ble_eq_true rfl) (Nat.le_of_ble_eq_true rfl) dX1_build_48
set_option maxHeartbeats 4000000 in
set_option maxRecDepth 100000 in
theorem c_X1_lay_ok (l : Launch) (z : QZ) (σ : Nat → QLs) (S : QLs) (hk : LOk S) (i : Nat) (hi : i < qt S) (j : Nat) (hj : j < qt S) (hp9 : qp S < 14) (hne : i ≠ j) (x y : Int32) (h9 : (1 ≤ x ∧ x ≤ 20) ∧ (0 ≤ y ∧ y ≤ 60)) : GI l yX1_lay wsX1_lay ({ frames := 2, cells := 0, slots := 0, locals := 41 } : Room) z [.ref (za z 0), .int (nI i), .int (nI j), .int x, .int y] 0 0 (XAt z) 0 55 (va_up σ 0 S) (fun r σ' => r = nI (qp S) ∧ σ' = va_up σ 0 (addP S (nI i) (nI j) x y)) := by
  intro ct sz hn hq hat
  refine q_entry (lo := 0) (cc := cX1_lay) (maxL := 6) (ret := (some .int)) (by decide) rfl (Nat.le_of_ble_eq_true rfl) hn hq hat ?_
  intro p e s m below meth c ls C0 hK hsz h hl
  subst hsz
  obtain ⟨hx, hb, hr, hml, hown, hts, hlocks⟩ := id C0
  have hB : 0 < 2 := by decide
  have hin1 : ∀ w ∈ u_ws RX1 TX1 2, w ∈ wsX1_lay := by decide +kernel
  have hl : lv_has ls 6 [(0, .ref (za z 0)), (1, .int (nI i)), (2, .int (nI j)), (3, .int x), (4, .int y)] := hl
  have hk1 := hk.1
  have hk2 := hk.2.1
  refine lv_aload_n hx hb dX1_lay_0 rfl (lv_at hl 0 rfl) ?_
  refine lv_iload_n hx hb dX1_lay_1 rfl (lv_at hl 1 rfl) ?_
  refine S_callVv C0 hK h (c_X1_needTank_ok l z σ S i hi (by omega)) (cwV 1 hts gX1_lay_X1_needTank rfl rfl rfl (by decide +kernel) ⟨Nat.le_of_ble_eq_true rfl, Nat.le_of_ble_eq_true rfl⟩) (k := 0) (ci := 1) (by omega) (fun ct hA => hA.1) rfl rfl rfl hl.1 (rest := []) rfl (Nat.le_of_ble_eq_true rfl) ⟨Nat.le_of_ble_eq_true rfl, Nat.le_of_ble_eq_true rfl⟩ dX1_lay_2 (fun u H locs hp h => ?_)
  rw [hp] at h
  refine lv_aload_n hx hb dX1_lay_5 rfl (lv_at hl 0 rfl) ?_
  refine lv_iload_n hx hb dX1_lay_6 rfl (lv_at hl 2 rfl) ?_
  refine S_callVv C0 hK h (c_X1_needTank_ok l z σ S j hj (by omega)) (cwV 1 hts gX1_lay_X1_needTank rfl rfl rfl (by decide +kernel) ⟨Nat.le_of_ble_eq_true rfl, Nat.le_of_ble_eq_true rfl⟩) (k := 0) (ci := 1) (by omega) (fun ct hA => hA.1) rfl rfl rfl hl.1 (rest := []) rfl (Nat.le_of_ble_eq_true rfl) ⟨Nat.le_of_ble_eq_true rfl, Nat.le_of_ble_eq_true rfl⟩ dX1_lay_7 (fun u H locs hp h => ?_)
  rw [hp] at h
  refine lv_iload_n hx hb dX1_lay_10 rfl (lv_at hl 1 rfl) ?_
  refine lv_iload_n hx hb dX1_lay_11 rfl (lv_at hl 2 rfl) ?_
  refine lv_icmp_eq (tgt := 19) hx hb dX1_lay_12 (by decide) (fun q9 => absurd q9 (fun q => hne (q_nIc _ q (by omega)))) (fun _ => ?_)
  refine lv_iconst (v := 1) hx hb dX1_lay_15 (by decide) ?_
  refine lv_goto (tgt := 20) hx hb dX1_lay_16 (by decide) ?_
  refine S_callSv C0 hK h (c_X1_needArgument_ok l z σ S) (va_cwS 1 hts gX1_lay_X1_needArgument rfl rfl rfl (by decide +kernel) ⟨Nat.le_of_ble_eq_true rfl, Nat.le_of_ble_eq_true rfl⟩) rfl hl.1 (rest := []) rfl (Nat.le_of_ble_eq_true rfl) ⟨Nat.le_of_ble_eq_true rfl, Nat.le_of_ble_eq_true rfl⟩ dX1_lay_20 (fun u H locs hp h => ?_)
  rw [hp] at h
  refine lv_iload_n hx hb dX1_lay_23 rfl (lv_at hl 3 rfl) ?_
  refine lv_iconst (v := 1) hx hb dX1_lay_24 (by decide) ?_
  refine lv_bipush (v := 20) hx hb dX1_lay_25 (by decide) ?_
  refine S_callSi C0 hK h (c_X1_isWithin l z σ S x 1 20) (va_cwS 3 hts gX1_lay_X1_isWithin rfl rfl rfl (by decide +kernel) ⟨Nat.le_of_ble_eq_true rfl, Nat.le_of_ble_eq_true rfl⟩) rfl hl.1 (rest := []) rfl (Nat.le_of_ble_eq_true rfl) ⟨Nat.le_of_ble_eq_true rfl, Nat.le_of_ble_eq_true rfl⟩ dX1_lay_27 (fun r u H locs hp h => ?_)
  obtain ⟨hr9, hu9⟩ := hp
  have hr9 := hr9.trans (if_pos h9.1)
  subst hr9
  rw [hu9] at h
  refine S_callSv C0 hK h (c_X1_needArgument_ok l z σ S) (va_cwS 1 hts gX1_lay_X1_needArgument rfl rfl rfl (by decide +kernel) ⟨Nat.le_of_ble_eq_true rfl, Nat.le_of_ble_eq_true rfl⟩) rfl hl.1 (rest := []) rfl (Nat.le_of_ble_eq_true rfl) ⟨Nat.le_of_ble_eq_true rfl, Nat.le_of_ble_eq_true rfl⟩ dX1_lay_30 (fun u H locs hp h => ?_)
  rw [hp] at h
  refine lv_iload hx hb dX1_lay_33 (lv_at hl 4 rfl) ?_
  refine lv_iconst (v := 0) hx hb dX1_lay_35 (by decide) ?_
  refine lv_bipush (v := 60) hx hb dX1_lay_36 (by decide) ?_
  refine S_callSi C0 hK h (c_X1_isWithin l z σ S y 0 60) (va_cwS 3 hts gX1_lay_X1_isWithin rfl rfl rfl (by decide +kernel) ⟨Nat.le_of_ble_eq_true rfl, Nat.le_of_ble_eq_true rfl⟩) rfl hl.1 (rest := []) rfl (Nat.le_of_ble_eq_true rfl) ⟨Nat.le_of_ble_eq_true rfl, Nat.le_of_ble_eq_true rfl⟩ dX1_lay_38 (fun r u H locs hp h => ?_)
  obtain ⟨hr9, hu9⟩ := hp
  have hr9 := hr9.trans (if_pos h9.2)
  subst hr9
  rw [hu9] at h
  refine S_callSv C0 hK h (c_X1_needArgument_ok l z σ S) (va_cwS 1 hts gX1_lay_X1_needArgument rfl rfl rfl (by decide +kernel) ⟨Nat.le_of_ble_eq_true rfl, Nat.le_of_ble_eq_true rfl⟩) rfl hl.1 (rest := []) rfl (Nat.le_of_ble_eq_true rfl) ⟨Nat.le_of_ble_eq_true rfl, Nat.le_of_ble_eq_true rfl⟩ dX1_lay_41 (fun u H locs hp h => ?_)
  rw [hp] at h
  refine lv_aload_n hx hb dX1_lay_44 rfl (lv_at hl 0 rfl) ?_
  refine X_gO C0 hK h hin1 0 (by decide) (by decide +kernel) dX1_lay_45 ?_
  refine lv_iload_n hx hb dX1_lay_48 rfl (lv_at hl 1 rfl) ?_
  refine lv_iload_n hx hb dX1_lay_49 rfl (lv_at hl 2 rfl) ?_
  refine lv_iload_n hx hb dX1_lay_50 rfl (lv_at hl 3 rfl) ?_
  refine lv_iload hx hb dX1_lay_51 (lv_at hl 4 rfl) ?_
  refine S_callVi C0 hK h (c_X0_addPipe l z σ 0 hB S hp9 (nI i) (nI j) x y) (cwV 4 hts gX1_lay_X0_addPipe rfl rfl rfl (by decide +kernel) ⟨Nat.le_of_ble_eq_true rfl, Nat.le_of_ble_eq_true rfl⟩) (k := 1 + 27 * 0) (ci := 0) (by omega) (fun ct hA => (hA.2 0 (by decide)).1) rfl rfl rfl hl.1 (rest := []) rfl (Nat.le_of_ble_eq_true rfl) ⟨Nat.le_of_ble_eq_true rfl, Nat.le_of_ble_eq_true rfl⟩ dX1_lay_53 (fun r u H locs hp h => ?_)
  obtain ⟨rfl, hp⟩ := hp
  obtain ⟨S1, eS1⟩ : ∃ z9, z9 = addP S (nI i) (nI j) x y := ⟨_, rfl⟩
  rw [hp, ← eS1] at h
  refine lv_istore (lv' := [(5, .int (nI (qp S))), (0, .ref (za z 0)), (1, .int (nI i)), (2, .int (nI j)), (3, .int x), (4, .int y)]) hx hb dX1_lay_56 hl (by decide) rfl (fun ls hl => ?_)
  refine lv_iload hx hb dX1_lay_58 (lv_at hl 0 rfl) ?_
  refine lv_iconst (v := (-1)) hx hb dX1_lay_60 (by decide) ?_
  refine lv_icmp_ne (tgt := 74) hx hb dX1_lay_61 (by decide) (fun _ => ?_) (fun q9 => absurd q9 (q_nm1 (k := qp S) (by omega)))
  refine lv_iload hx hb dX1_lay_74 (lv_at hl 0 rfl) ?_
  exact G_iret C0 hK h ⟨rfl, congrArg (va_up σ 0) (by subst eS1; rfl)⟩ (Nat.le_of_ble_eq_true rfl) (Nat.le_of_ble_eq_true rfl) dX1_lay_76
end
section
/-! PART 35: set .. pass -/
set_option maxHeartbeats 4000000 in
set_option maxRecDepth 100000 in
theorem c_X1_set_ok (l : Launch) (z : QZ) (σ : Nat → QLs) (S : QLs) (hk : LOk S) (i : Nat) (hi : i < qt S) (x y : Int32) (h9 : (0 ≤ x ∧ x ≤ 20) ∧ (0 ≤ y ∧ y ≤ 20)) : GI l yX1_set wsX1_set ({ frames := 2, cells := 0, slots := 0, locals := 43 } : Room) z [.ref (za z 0), .int (nI i), .int x, .int y] 0 0 (XAt z) 0 55 (va_up σ 0 S) (fun r σ' => r = 100 * qT S i 1 + qT S i 2 ∧ σ' = va_up σ 0 (sT (sT S i (upd (qT S i) 1 x)) i (upd (qT (sT S i (upd (qT S i) 1 x)) i) 2 y))) := by
  intro ct sz hn hq hat
  refine q_entry (lo := 0) (cc := cX1_set) (maxL := 6) (ret := (some .int)) (by decide) rfl (Nat.le_of_ble_eq_true rfl) hn hq hat ?_
  intro p e s m below meth c ls C0 hK hsz h hl
  subst hsz
  obtain ⟨hx, hb, hr, hml, hown, hts, hlocks⟩ := id C0
  have hB : 0 < 2 := by decide
  have hin0 : ∀ w ∈ u_ws RX0 TX0 5, w ∈ wsX1_set := by decide +kernel
  have hin1 : ∀ w ∈ u_ws RX1 TX1 2, w ∈ wsX1_set := by decide +kernel
  have hl : lv_has ls 6 [(0, .ref (za z 0)), (1, .int (nI i)), (2, .int x), (3, .int y)] := hl
  have hk1 := hk.1
  have hk2 := hk.2.1
  refine lv_aload_n hx hb dX1_set_0 rfl (lv_at hl 0 rfl) ?_
  refine lv_iload_n hx hb dX1_set_1 rfl (lv_at hl 1 rfl) ?_
  refine S_callVv C0 hK h (c_X1_needTank_ok l z σ S i hi (by omega)) (cwV 1 hts gX1_set_X1_needTank rfl rfl rfl (by decide +kernel) ⟨Nat.le_of_ble_eq_true rfl, Nat.le_of_ble_eq_true rfl⟩) (k := 0) (ci := 1) (by omega) (fun ct hA => hA.1) rfl rfl rfl hl.1 (rest := []) rfl (Nat.le_of_ble_eq_true rfl) ⟨Nat.le_of_ble_eq_true rfl, Nat.le_of_ble_eq_true rfl⟩ dX1_set_2 (fun u H locs hp h => ?_)
  rw [hp] at h
  refine lv_iload_n hx hb dX1_set_5 rfl (lv_at hl 2 rfl) ?_
  refine lv_iload_n hx hb dX1_set_6 rfl (lv_at hl 3 rfl) ?_
  refine S_callSi C0 hK h (c_X1_isSpringAndThirst l z σ S x y) (va_cwS 2 hts gX1_set_X1_isSpringAndThirst rfl rfl rfl (by decide +kernel) ⟨Nat.le_of_ble_eq_true rfl, Nat.le_of_ble_eq_true rfl⟩) rfl hl.1 (rest := []) rfl (Nat.le_of_ble_eq_true rfl) ⟨Nat.le_of_ble_eq_true rfl, Nat.le_of_ble_eq_true rfl⟩ dX1_set_7 (fun r u H locs hp h => ?_)
  obtain ⟨hr9, hu9⟩ := hp
  have hr9 := hr9.trans (if_pos h9)
  subst hr9
  rw [hu9] at h
  refine S_callSv C0 hK h (c_X1_needArgument_ok l z σ S) (va_cwS 1 hts gX1_set_X1_needArgument rfl rfl rfl (by decide +kernel) ⟨Nat.le_of_ble_eq_true rfl, Nat.le_of_ble_eq_true rfl⟩) rfl hl.1 (rest := []) rfl (Nat.le_of_ble_eq_true rfl) ⟨Nat.le_of_ble_eq_true rfl, Nat.le_of_ble_eq_true rfl⟩ dX1_set_10 (fun u H locs hp h => ?_)
  rw [hp] at h
  refine lv_aload_n hx hb dX1_set_13 rfl (lv_at hl 0 rfl) ?_
  refine X_gO C0 hK h hin1 0 (by decide) (by decide +kernel) dX1_set_14 ?_
  refine L_gL C0 hK h hB hin0 0 (by decide) (by decide +kernel) rfl dX1_set_17 ?_
  refine lv_iload_n hx hb dX1_set_20 rfl (lv_at hl 1 rfl) ?_
  refine X_aT C0 hK h hB (i := i) rfl (by omega) dX1_set_21 ?_
  refine lv_astore (lv' := [(4, .ref (za z (1 + 27 * 0 + (3 + i)))), (0, .ref (za z 0)), (1, .int (nI i)), (2, .int x), (3, .int y)]) hx hb dX1_set_22 hl (by decide) rfl (fun ls hl => ?_)
  refine lv_bipush (v := 100) hx hb dX1_set_24 (by decide) ?_
  refine lv_aload hx hb dX1_set_26 (lv_at hl 0 rfl) ?_
  refine lv_iconst (v := 1) hx hb dX1_set_28 (by decide) ?_
  refine L_ldT C0 hK h hB (by omega) (k := 1) rfl (by decide) dX1_set_29 ?_
  refine lv_imul hx hb dX1_set_30 ?_
  refine lv_aload hx hb dX1_set_31 (lv_at hl 0 rfl) ?_
  refine lv_iconst (v := 2) hx hb dX1_set_33 (by decide) ?_
  refine L_ldT C0 hK h hB (by omega) (k := 2) rfl (by decide) dX1_set_34 ?_
  refine lv_iadd hx hb dX1_set_35 ?_
  refine lv_istore (lv' := [(5, .int ((100 * (qT S i 1)) + (qT S i 2))), (4, .ref (za z (1 + 27 * 0 + (3 + i)))), (0, .ref (za z 0)), (1, .int (nI i)), (2, .int x), (3, .int y)]) hx hb dX1_set_36 hl (by decide) rfl (fun ls hl => ?_)
  refine lv_aload hx hb dX1_set_38 (lv_at hl 1 rfl) ?_
  refine lv_iconst (v := 1) hx hb dX1_set_40 (by decide) ?_
  refine lv_iload_n hx hb dX1_set_41 rfl (lv_at hl 4 rfl) ?_
  refine L_stT C0 hK h hB (by omega) (k := 1) rfl (by decide) dX1_set_42 (fun H locs S1 eS1 h => ?_)
  refine lv_aload hx hb dX1_set_43 (lv_at hl 1 rfl) ?_
  refine lv_iconst (v := 2) hx hb dX1_set_45 (by decide) ?_
  refine lv_iload_n hx hb dX1_set_46 rfl (lv_at hl 5 rfl) ?_
  refine L_stT C0 hK h hB (by omega) (k := 2) rfl (by decide) dX1_set_47 (fun H locs S2 eS2 h => ?_)
  refine lv_iload hx hb dX1_set_48 (lv_at hl 0 rfl) ?_
  exact G_iret C0 hK h ⟨rfl, congrArg (va_up σ 0) (by subst eS2 eS1; rfl)⟩ (Nat.le_of_ble_eq_true rfl) (Nat.le_of_ble_eq_true rfl) dX1_set_50
set_option maxHeartbeats 4000000 in
set_option maxRecDepth 100000 in
theorem c_X1_flush_ok (l : Launch) (z : QZ) (σ : Nat → QLs) (S : QLs) (hk : LOk S) (i : Nat) (hi : i < qt S) : GI l yX1_flush wsX1_flush ({ frames := 2, cells := 0, slots := 0, locals := 41 } : Room) z [.ref (za z 0), .int (nI i)] 0 0 (XAt z) 0 55 (va_up σ 0 S) (fun r σ' => r = qT S i 4 ∧ σ' = va_up σ 0 (sT (sT S i (upd (qT S i) 4 0)) i (upd (qT (sT S i (upd (qT S i) 4 0)) i) 3 (qT (sT S i (upd (qT S i) 4 0)) i 3 / 2)))) := by
  intro ct sz hn hq hat
  refine q_entry (lo := 0) (cc := cX1_flush) (maxL := 4) (ret := (some .int)) (by decide) rfl (Nat.le_of_ble_eq_true rfl) hn hq hat ?_
  intro p e s m below meth c ls C0 hK hsz h hl
  subst hsz
  obtain ⟨hx, hb, hr, hml, hown, hts, hlocks⟩ := id C0
  have hB : 0 < 2 := by decide
  have hin0 : ∀ w ∈ u_ws RX0 TX0 5, w ∈ wsX1_flush := by decide +kernel
  have hin1 : ∀ w ∈ u_ws RX1 TX1 2, w ∈ wsX1_flush := by decide +kernel
  have hl : lv_has ls 4 [(0, .ref (za z 0)), (1, .int (nI i))] := hl
  have hk1 := hk.1
  have hk2 := hk.2.1
  refine lv_aload_n hx hb dX1_flush_0 rfl (lv_at hl 0 rfl) ?_
  refine lv_iload_n hx hb dX1_flush_1 rfl (lv_at hl 1 rfl) ?_
  refine S_callVv C0 hK h (c_X1_needTank_ok l z σ S i hi (by omega)) (cwV 1 hts gX1_flush_X1_needTank rfl rfl rfl (by decide +kernel) ⟨Nat.le_of_ble_eq_true rfl, Nat.le_of_ble_eq_true rfl⟩) (k := 0) (ci := 1) (by omega) (fun ct hA => hA.1) rfl rfl rfl hl.1 (rest := []) rfl (Nat.le_of_ble_eq_true rfl) ⟨Nat.le_of_ble_eq_true rfl, Nat.le_of_ble_eq_true rfl⟩ dX1_flush_2 (fun u H locs hp h => ?_)
  rw [hp] at h
  refine lv_aload_n hx hb dX1_flush_5 rfl (lv_at hl 0 rfl) ?_
  refine X_gO C0 hK h hin1 0 (by decide) (by decide +kernel) dX1_flush_6 ?_
  refine L_gL C0 hK h hB hin0 0 (by decide) (by decide +kernel) rfl dX1_flush_9 ?_
  refine lv_iload_n hx hb dX1_flush_12 rfl (lv_at hl 1 rfl) ?_
  refine X_aT C0 hK h hB (i := i) rfl (by omega) dX1_flush_13 ?_
  refine lv_astore_n (lv' := [(2, .ref (za z (1 + 27 * 0 + (3 + i)))), (0, .ref (za z 0)), (1, .int (nI i))]) hx hb dX1_flush_14 rfl hl (by decide) rfl (fun ls hl => ?_)
  refine lv_aload_n hx hb dX1_flush_15 rfl (lv_at hl 0 rfl) ?_
  refine lv_iconst (v := 4) hx hb dX1_flush_16 (by decide) ?_
  refine L_ldT C0 hK h hB (by omega) (k := 4) rfl (by decide) dX1_flush_17 ?_
  refine lv_istore_n (lv' := [(3, .int (qT S i 4)), (2, .ref (za z (1 + 27 * 0 + (3 + i)))), (0, .ref (za z 0)), (1, .int (nI i))]) hx hb dX1_flush_18 rfl hl (by decide) rfl (fun ls hl => ?_)
  refine lv_aload_n hx hb dX1_flush_19 rfl (lv_at hl 1 rfl) ?_
  refine lv_iconst (v := 4) hx hb dX1_flush_20 (by decide) ?_
  refine lv_iconst (v := 0) hx hb dX1_flush_21 (by decide) ?_
  refine L_stT C0 hK h hB (by omega) (k := 4) rfl (by decide) dX1_flush_22 (fun H locs S1 eS1 h => ?_)
  refine lv_aload_n hx hb dX1_flush_23 rfl (lv_at hl 1 rfl) ?_
  refine lv_iconst (v := 3) hx hb dX1_flush_24 (by decide) ?_
  refine lv_aload_n hx hb dX1_flush_25 rfl (lv_at hl 1 rfl) ?_
  refine lv_iconst (v := 3) hx hb dX1_flush_26 (by decide) ?_
  refine L_ldT C0 hK h hB (by omega) (k := 3) rfl (by decide) dX1_flush_27 ?_
  refine lv_iconst (v := 2) hx hb dX1_flush_28 (by decide) ?_
  refine lv_idiv hx hb dX1_flush_29 (by decide) ?_
  refine L_stT C0 hK h hB (by omega) (k := 3) rfl (by decide) dX1_flush_30 (fun H locs S2 eS2 h => ?_)
  refine lv_iload_n hx hb dX1_flush_31 rfl (lv_at hl 0 rfl) ?_
  exact G_iret C0 hK h ⟨rfl, congrArg (va_up σ 0) (by subst eS2 eS1; rfl)⟩ (Nat.le_of_ble_eq_true rfl) (Nat.le_of_ble_eq_true rfl) dX1_flush_32
set_option maxHeartbeats 4000000 in
set_option maxRecDepth 100000 in
theorem c_X1_scrape_ok (l : Launch) (z : QZ) (σ : Nat → QLs) (S : QLs) (hk : LOk S) (i : Nat) (hi : i < qp S) : GI l yX1_scrape wsX1_scrape ({ frames := 2, cells := 0, slots := 0, locals := 41 } : Room) z [.ref (za z 0), .int (nI i)] 0 0 (XAt z) 0 55 (va_up σ 0 S) (fun r σ' => r = qP S i 4 ∧ σ' = va_up σ 0 (sP S i (upd (qP S i) 4 0))) := by
  intro ct sz hn hq hat
  refine q_entry (lo := 0) (cc := cX1_scrape) (maxL := 4) (ret := (some .int)) (by decide) rfl (Nat.le_of_ble_eq_true rfl) hn hq hat ?_
  intro p e s m below meth c ls C0 hK hsz h hl
  subst hsz
  obtain ⟨hx, hb, hr, hml, hown, hts, hlocks⟩ := id C0
  have hB : 0 < 2 := by decide
  have hin0 : ∀ w ∈ u_ws RX0 TX0 5, w ∈ wsX1_scrape := by decide +kernel
  have hin1 : ∀ w ∈ u_ws RX1 TX1 2, w ∈ wsX1_scrape := by decide +kernel
  have hl : lv_has ls 4 [(0, .ref (za z 0)), (1, .int (nI i))] := hl
  have hk1 := hk.1
  have hk2 := hk.2.1
  refine lv_aload_n hx hb dX1_scrape_0 rfl (lv_at hl 0 rfl) ?_
  refine lv_iload_n hx hb dX1_scrape_1 rfl (lv_at hl 1 rfl) ?_
  refine S_callVv C0 hK h (c_X1_needPipe_ok l z σ S i hi (by omega)) (cwV 1 hts gX1_scrape_X1_needPipe rfl rfl rfl (by decide +kernel) ⟨Nat.le_of_ble_eq_true rfl, Nat.le_of_ble_eq_true rfl⟩) (k := 0) (ci := 1) (by omega) (fun ct hA => hA.1) rfl rfl rfl hl.1 (rest := []) rfl (Nat.le_of_ble_eq_true rfl) ⟨Nat.le_of_ble_eq_true rfl, Nat.le_of_ble_eq_true rfl⟩ dX1_scrape_2 (fun u H locs hp h => ?_)
  rw [hp] at h
  refine lv_aload_n hx hb dX1_scrape_5 rfl (lv_at hl 0 rfl) ?_
  refine X_gO C0 hK h hin1 0 (by decide) (by decide +kernel) dX1_scrape_6 ?_
  refine L_gL C0 hK h hB hin0 1 (by decide) (by decide +kernel) rfl dX1_scrape_9 ?_
  refine lv_iload_n hx hb dX1_scrape_12 rfl (lv_at hl 1 rfl) ?_
  refine X_aP C0 hK h hB (i := i) rfl (by omega) dX1_scrape_13 ?_
  refine lv_astore_n (lv' := [(2, .ref (za z (1 + 27 * 0 + (13 + i)))), (0, .ref (za z 0)), (1, .int (nI i))]) hx hb dX1_scrape_14 rfl hl (by decide) rfl (fun ls hl => ?_)
  refine lv_aload_n hx hb dX1_scrape_15 rfl (lv_at hl 0 rfl) ?_
  refine lv_iconst (v := 4) hx hb dX1_scrape_16 (by decide) ?_
  refine L_ldP C0 hK h hB (by omega) (k := 4) rfl (by decide) dX1_scrape_17 ?_
  refine lv_istore_n (lv' := [(3, .int (qP S i 4)), (2, .ref (za z (1 + 27 * 0 + (13 + i)))), (0, .ref (za z 0)), (1, .int (nI i))]) hx hb dX1_scrape_18 rfl hl (by decide) rfl (fun ls hl => ?_)
  refine lv_aload_n hx hb dX1_scrape_19 rfl (lv_at hl 1 rfl) ?_
  refine lv_iconst (v := 4) hx hb dX1_scrape_20 (by decide) ?_
  refine lv_iconst (v := 0) hx hb dX1_scrape_21 (by decide) ?_
  refine L_stP C0 hK h hB (by omega) (k := 4) rfl (by decide) dX1_scrape_22 (fun H locs S1 eS1 h => ?_)
  refine lv_iload_n hx hb dX1_scrape_23 rfl (lv_at hl 0 rfl) ?_
  exact G_iret C0 hK h ⟨rfl, congrArg (va_up σ 0) (by subst eS1; rfl)⟩ (Nat.le_of_ble_eq_true rfl) (Nat.le_of_ble_eq_true rfl) dX1_scrape_24
set_option maxHeartbeats 4000000 in
set_option maxRecDepth 100000 in
theorem c_X1_steal_ok (l : Launch) (z : QZ) (σ : Nat → QLs) (S : QLs) (hk : LOk S) (i : Nat) (hi : i < qp S) (x : Int32) (h9 : 0 ≤ x ∧ x ≤ 9) : GI l yX1_steal wsX1_steal ({ frames := 2, cells := 0, slots := 0, locals := 41 } : Room) z [.ref (za z 0), .int (nI i), .int x] 0 0 (XAt z) 0 55 (va_up σ 0 S) (fun r σ' => r = qP S i 9 ∧ σ' = va_up σ 0 (sP S i (upd (qP S i) 9 x))) := by
  intro ct sz hn hq hat
  refine q_entry (lo := 0) (cc := cX1_steal) (maxL := 5) (ret := (some .int)) (by decide) rfl (Nat.le_of_ble_eq_true rfl) hn hq hat ?_
  intro p e s m below meth c ls C0 hK hsz h hl
  subst hsz
  obtain ⟨hx, hb, hr, hml, hown, hts, hlocks⟩ := id C0
  have hB : 0 < 2 := by decide
  have hin0 : ∀ w ∈ u_ws RX0 TX0 5, w ∈ wsX1_steal := by decide +kernel
  have hin1 : ∀ w ∈ u_ws RX1 TX1 2, w ∈ wsX1_steal := by decide +kernel
  have hl : lv_has ls 5 [(0, .ref (za z 0)), (1, .int (nI i)), (2, .int x)] := hl
  have hk1 := hk.1
  have hk2 := hk.2.1
  refine lv_aload_n hx hb dX1_steal_0 rfl (lv_at hl 0 rfl) ?_
  refine lv_iload_n hx hb dX1_steal_1 rfl (lv_at hl 1 rfl) ?_
  refine S_callVv C0 hK h (c_X1_needPipe_ok l z σ S i hi (by omega)) (cwV 1 hts gX1_steal_X1_needPipe rfl rfl rfl (by decide +kernel) ⟨Nat.le_of_ble_eq_true rfl, Nat.le_of_ble_eq_true rfl⟩) (k := 0) (ci := 1) (by omega) (fun ct hA => hA.1) rfl rfl rfl hl.1 (rest := []) rfl (Nat.le_of_ble_eq_true rfl) ⟨Nat.le_of_ble_eq_true rfl, Nat.le_of_ble_eq_true rfl⟩ dX1_steal_2 (fun u H locs hp h => ?_)
  rw [hp] at h
  refine lv_iload_n hx hb dX1_steal_5 rfl (lv_at hl 2 rfl) ?_
  refine lv_iconst (v := 0) hx hb dX1_steal_6 (by decide) ?_
  refine lv_bipush (v := 9) hx hb dX1_steal_7 (by decide) ?_
  refine S_callSi C0 hK h (c_X1_isWithin l z σ S x 0 9) (va_cwS 3 hts gX1_steal_X1_isWithin rfl rfl rfl (by decide +kernel) ⟨Nat.le_of_ble_eq_true rfl, Nat.le_of_ble_eq_true rfl⟩) rfl hl.1 (rest := []) rfl (Nat.le_of_ble_eq_true rfl) ⟨Nat.le_of_ble_eq_true rfl, Nat.le_of_ble_eq_true rfl⟩ dX1_steal_9 (fun r u H locs hp h => ?_)
  obtain ⟨hr9, hu9⟩ := hp
  have hr9 := hr9.trans (if_pos h9)
  subst hr9
  rw [hu9] at h
  refine S_callSv C0 hK h (c_X1_needArgument_ok l z σ S) (va_cwS 1 hts gX1_steal_X1_needArgument rfl rfl rfl (by decide +kernel) ⟨Nat.le_of_ble_eq_true rfl, Nat.le_of_ble_eq_true rfl⟩) rfl hl.1 (rest := []) rfl (Nat.le_of_ble_eq_true rfl) ⟨Nat.le_of_ble_eq_true rfl, Nat.le_of_ble_eq_true rfl⟩ dX1_steal_12 (fun u H locs hp h => ?_)
  rw [hp] at h
  refine lv_aload_n hx hb dX1_steal_15 rfl (lv_at hl 0 rfl) ?_
  refine X_gO C0 hK h hin1 0 (by decide) (by decide +kernel) dX1_steal_16 ?_
  refine L_gL C0 hK h hB hin0 1 (by decide) (by decide +kernel) rfl dX1_steal_19 ?_
  refine lv_iload_n hx hb dX1_steal_22 rfl (lv_at hl 1 rfl) ?_
  refine X_aP C0 hK h hB (i := i) rfl (by omega) dX1_steal_23 ?_
  refine lv_astore_n (lv' := [(3, .ref (za z (1 + 27 * 0 + (13 + i)))), (0, .ref (za z 0)), (1, .int (nI i)), (2, .int x)]) hx hb dX1_steal_24 rfl hl (by decide) rfl (fun ls hl => ?_)
  refine lv_aload_n hx hb dX1_steal_25 rfl (lv_at hl 0 rfl) ?_
  refine lv_bipush (v := 9) hx hb dX1_steal_26 (by decide) ?_
  refine L_ldP C0 hK h hB (by omega) (k := 9) rfl (by decide) dX1_steal_28 ?_
  refine lv_istore (lv' := [(4, .int (qP S i 9)), (3, .ref (za z (1 + 27 * 0 + (13 + i)))), (0, .ref (za z 0)), (1, .int (nI i)), (2, .int x)]) hx hb dX1_steal_29 hl (by decide) rfl (fun ls hl => ?_)
  refine lv_aload_n hx hb dX1_steal_31 rfl (lv_at hl 1 rfl) ?_
  refine lv_bipush (v := 9) hx hb dX1_steal_32 (by decide) ?_
  refine lv_iload_n hx hb dX1_steal_34 rfl (lv_at hl 4 rfl) ?_
  refine L_stP C0 hK h hB (by omega) (k := 9) rfl (by decide) dX1_steal_35 (fun H locs S1 eS1 h => ?_)
  refine lv_iload hx hb dX1_steal_36 (lv_at hl 0 rfl) ?_
  exact G_iret C0 hK h ⟨rfl, congrArg (va_up σ 0) (by subst eS1; rfl)⟩ (Nat.le_of_ble_eq_true rfl) (Nat.le_of_ble_eq_true rfl) dX1_steal_38
set_option maxHeartbeats 4000000 in
set_option maxRecDepth 100000 in
theorem c_X1_tank_ok (l : Launch) (z : QZ) (σ : Nat → QLs) (S : QLs) (hk : LOk S) (i : Nat) (hi : i < qt S) (k : Nat) (hk9 : k < 8) : GI l yX1_tank wsX1_tank ({ frames := 2, cells := 0, slots := 0, locals := 41 } : Room) z [.ref (za z 0), .int (nI i), .int (nI k)] 0 0 (XAt z) 0 55 (va_up σ 0 S) (fun r σ' => r = qT S i k ∧ σ' = va_up σ 0 S) := by
  intro ct sz hn hq hat
  refine q_entry (lo := 0) (cc := cX1_tank) (maxL := 3) (ret := (some .int)) (by decide) rfl (Nat.le_of_ble_eq_true rfl) hn hq hat ?_
  intro p e s m below meth c ls C0 hK hsz h hl
  subst hsz
  obtain ⟨hx, hb, hr, hml, hown, hts, hlocks⟩ := id C0
  have hB : 0 < 2 := by decide
  have hin0 : ∀ w ∈ u_ws RX0 TX0 5, w ∈ wsX1_tank := by decide +kernel
  have hin1 : ∀ w ∈ u_ws RX1 TX1 2, w ∈ wsX1_tank := by decide +kernel
  have hl : lv_has ls 3 [(0, .ref (za z 0)), (1, .int (nI i)), (2, .int (nI k))] := hl
  have hk1 := hk.1
  have hk2 := hk.2.1
  refine lv_aload_n hx hb dX1_tank_0 rfl (lv_at hl 0 rfl) ?_
  refine lv_iload_n hx hb dX1_tank_1 rfl (lv_at hl 1 rfl) ?_
  refine S_callVv C0 hK h (c_X1_needTank_ok l z σ S i hi (by omega)) (cwV 1 hts gX1_tank_X1_needTank rfl rfl rfl (by decide +kernel) ⟨Nat.le_of_ble_eq_true rfl, Nat.le_of_ble_eq_true rfl⟩) (k := 0) (ci := 1) (by omega) (fun ct hA => hA.1) rfl rfl rfl hl.1 (rest := []) rfl (Nat.le_of_ble_eq_true rfl) ⟨Nat.le_of_ble_eq_true rfl, Nat.le_of_ble_eq_true rfl⟩ dX1_tank_2 (fun u H locs hp h => ?_)
  rw [hp] at h
  refine lv_iload_n hx hb dX1_tank_5 rfl (lv_at hl 2 rfl) ?_
  refine lv_iconst (v := 0) hx hb dX1_tank_6 (by decide) ?_
  refine lv_bipush (v := 7) hx hb dX1_tank_7 (by decide) ?_
  refine S_callSi C0 hK h (c_X1_isWithin l z σ S (nI k) 0 7) (va_cwS 3 hts gX1_tank_X1_isWithin rfl rfl rfl (by decide +kernel) ⟨Nat.le_of_ble_eq_true rfl, Nat.le_of_ble_eq_true rfl⟩) rfl hl.1 (rest := []) rfl (Nat.le_of_ble_eq_true rfl) ⟨Nat.le_of_ble_eq_true rfl, Nat.le_of_ble_eq_true rfl⟩ dX1_tank_9 (fun r u H locs hp h => ?_)
  obtain ⟨hr9, hu9⟩ := hp
  have hr9 := hr9.trans (if_pos (q_rng (k := k) 0 7 rfl rfl))
  subst hr9
  rw [hu9] at h
  refine S_callSv C0 hK h (c_X1_needIndex_ok l z σ S) (va_cwS 1 hts gX1_tank_X1_needIndex rfl rfl rfl (by decide +kernel) ⟨Nat.le_of_ble_eq_true rfl, Nat.le_of_ble_eq_true rfl⟩) rfl hl.1 (rest := []) rfl (Nat.le_of_ble_eq_true rfl) ⟨Nat.le_of_ble_eq_true rfl, Nat.le_of_ble_eq_true rfl⟩ dX1_tank_12 (fun u H locs hp h => ?_)
  rw [hp] at h
  refine lv_aload_n hx hb dX1_tank_15 rfl (lv_at hl 0 rfl) ?_
  refine X_gO C0 hK h hin1 0 (by decide) (by decide +kernel) dX1_tank_16 ?_
  refine L_gL C0 hK h hB hin0 0 (by decide) (by decide +kernel) rfl dX1_tank_19 ?_
  refine lv_iload_n hx hb dX1_tank_22 rfl (lv_at hl 1 rfl) ?_
  refine X_aT C0 hK h hB (i := i) rfl (by omega) dX1_tank_23 ?_
  refine lv_iload_n hx hb dX1_tank_24 rfl (lv_at hl 2 rfl) ?_
  refine L_ldT C0 hK h hB (by omega) (k := k) rfl (by omega) dX1_tank_25 ?_
  exact G_iret C0 hK h ⟨rfl, rfl⟩ (Nat.le_of_ble_eq_true rfl) (Nat.le_of_ble_eq_true rfl) dX1_tank_26
set_option maxHeartbeats 4000000 in
set_option maxRecDepth 100000 in
theorem c_X1_pipe_ok (l : Launch) (z : QZ) (σ : Nat → QLs) (S : QLs) (hk : LOk S) (i : Nat) (hi : i < qp S) (k : Nat) (hk9 : k < 9) : GI l yX1_pipe wsX1_pipe ({ frames := 3, cells := 0, slots := 0, locals := 68 } : Room) z [.ref (za z 0), .int (nI i), .int (nI k)] 0 0 (XAt z) 0 55 (va_up σ 0 S) (fun r σ' => r = ofPipeL S i k ∧ σ' = va_up σ 0 S) := by
  intro ct sz hn hq hat
  refine q_entry (lo := 0) (cc := cX1_pipe) (maxL := 3) (ret := (some .int)) (by decide) rfl (Nat.le_of_ble_eq_true rfl) hn hq hat ?_
  intro p e s m below meth c ls C0 hK hsz h hl
  subst hsz
  obtain ⟨hx, hb, hr, hml, hown, hts, hlocks⟩ := id C0
  have hB : 0 < 2 := by decide
  have hin1 : ∀ w ∈ u_ws RX1 TX1 2, w ∈ wsX1_pipe := by decide +kernel
  have hl : lv_has ls 3 [(0, .ref (za z 0)), (1, .int (nI i)), (2, .int (nI k))] := hl
  have hk1 := hk.1
  have hk2 := hk.2.1
  refine lv_aload_n hx hb dX1_pipe_0 rfl (lv_at hl 0 rfl) ?_
  refine lv_iload_n hx hb dX1_pipe_1 rfl (lv_at hl 1 rfl) ?_
  refine S_callVv C0 hK h (c_X1_needPipe_ok l z σ S i hi (by omega)) (cwV 1 hts gX1_pipe_X1_needPipe rfl rfl rfl (by decide +kernel) ⟨Nat.le_of_ble_eq_true rfl, Nat.le_of_ble_eq_true rfl⟩) (k := 0) (ci := 1) (by omega) (fun ct hA => hA.1) rfl rfl rfl hl.1 (rest := []) rfl (Nat.le_of_ble_eq_true rfl) ⟨Nat.le_of_ble_eq_true rfl, Nat.le_of_ble_eq_true rfl⟩ dX1_pipe_2 (fun u H locs hp h => ?_)
  rw [hp] at h
  refine lv_iload_n hx hb dX1_pipe_5 rfl (lv_at hl 2 rfl) ?_
  refine lv_iconst (v := 0) hx hb dX1_pipe_6 (by decide) ?_
  refine lv_bipush (v := 8) hx hb dX1_pipe_7 (by decide) ?_
  refine S_callSi C0 hK h (c_X1_isWithin l z σ S (nI k) 0 8) (va_cwS 3 hts gX1_pipe_X1_isWithin rfl rfl rfl (by decide +kernel) ⟨Nat.le_of_ble_eq_true rfl, Nat.le_of_ble_eq_true rfl⟩) rfl hl.1 (rest := []) rfl (Nat.le_of_ble_eq_true rfl) ⟨Nat.le_of_ble_eq_true rfl, Nat.le_of_ble_eq_true rfl⟩ dX1_pipe_9 (fun r u H locs hp h => ?_)
  obtain ⟨hr9, hu9⟩ := hp
  have hr9 := hr9.trans (if_pos (q_rng (k := k) 0 8 rfl rfl))
  subst hr9
  rw [hu9] at h
  refine S_callSv C0 hK h (c_X1_needIndex_ok l z σ S) (va_cwS 1 hts gX1_pipe_X1_needIndex rfl rfl rfl (by decide +kernel) ⟨Nat.le_of_ble_eq_true rfl, Nat.le_of_ble_eq_true rfl⟩) rfl hl.1 (rest := []) rfl (Nat.le_of_ble_eq_true rfl) ⟨Nat.le_of_ble_eq_true rfl, Nat.le_of_ble_eq_true rfl⟩ dX1_pipe_12 (fun u H locs hp h => ?_)
  rw [hp] at h
  refine lv_aload_n hx hb dX1_pipe_15 rfl (lv_at hl 0 rfl) ?_
  refine X_gO C0 hK h hin1 0 (by decide) (by decide +kernel) dX1_pipe_16 ?_
  refine lv_iload_n hx hb dX1_pipe_19 rfl (lv_at hl 1 rfl) ?_
  refine lv_iload_n hx hb dX1_pipe_20 rfl (lv_at hl 2 rfl) ?_
  refine S_callVi C0 hK h (c_X0_ofPipe l z σ 0 hB S hk i hi k (by omega)) (cwV 2 hts gX1_pipe_X0_ofPipe rfl rfl rfl (by decide +kernel) ⟨Nat.le_of_ble_eq_true rfl, Nat.le_of_ble_eq_true rfl⟩) (k := 1 + 27 * 0) (ci := 0) (by omega) (fun ct hA => (hA.2 0 (by decide)).1) rfl rfl rfl hl.1 (rest := []) rfl (Nat.le_of_ble_eq_true rfl) ⟨Nat.le_of_ble_eq_true rfl, Nat.le_of_ble_eq_true rfl⟩ dX1_pipe_21 (fun r u H locs hp h => ?_)
  obtain ⟨rfl, hu9⟩ := hp
  rw [hu9] at h
  exact G_iret C0 hK h ⟨rfl, rfl⟩ (Nat.le_of_ble_eq_true rfl) (Nat.le_of_ble_eq_true rfl) dX1_pipe_24
set_option maxHeartbeats 4000000 in
set_option maxRecDepth 100000 in
theorem c_X1_count_ok (l : Launch) (z : QZ) (σ : Nat → QLs) (S : QLs) (hk : LOk S) (k : Nat) (hk9 : k ≤ 8) : GI l yX1_count wsX1_count ({ frames := 3, cells := 0, slots := 0, locals := 64 } : Room) z [.ref (za z 0), .int (nI k)] 0 0 (XAt z) 0 55 (va_up σ 0 S) (fun r σ' => r = ofAllL S k ∧ σ' = va_up σ 0 S) := by
  intro ct sz hn hq hat
  refine q_entry (lo := 0) (cc := cX1_count) (maxL := 2) (ret := (some .int)) (by decide) rfl (Nat.le_of_ble_eq_true rfl) hn hq hat ?_
  intro p e s m below meth c ls C0 hK hsz h hl
  subst hsz
  obtain ⟨hx, hb, hr, hml, hown, hts, hlocks⟩ := id C0
  have hB : 0 < 2 := by decide
  have hin1 : ∀ w ∈ u_ws RX1 TX1 2, w ∈ wsX1_count := by decide +kernel
  have hl : lv_has ls 2 [(0, .ref (za z 0)), (1, .int (nI k))] := hl
  have hk1 := hk.1
  have hk2 := hk.2.1
  refine lv_iload_n hx hb dX1_count_0 rfl (lv_at hl 1 rfl) ?_
  refine lv_iconst (v := 0) hx hb dX1_count_1 (by decide) ?_
  refine lv_bipush (v := 8) hx hb dX1_count_2 (by decide) ?_
  refine S_callSi C0 hK h (c_X1_isWithin l z σ S (nI k) 0 8) (va_cwS 3 hts gX1_count_X1_isWithin rfl rfl rfl (by decide +kernel) ⟨Nat.le_of_ble_eq_true rfl, Nat.le_of_ble_eq_true rfl⟩) rfl hl.1 (rest := []) rfl (Nat.le_of_ble_eq_true rfl) ⟨Nat.le_of_ble_eq_true rfl, Nat.le_of_ble_eq_true rfl⟩ dX1_count_4 (fun r u H locs hp h => ?_)
  obtain ⟨hr9, hu9⟩ := hp
  have hr9 := hr9.trans (if_pos (q_rng (k := k) 0 8 rfl rfl))
  subst hr9
  rw [hu9] at h
  refine S_callSv C0 hK h (c_X1_needIndex_ok l z σ S) (va_cwS 1 hts gX1_count_X1_needIndex rfl rfl rfl (by decide +kernel) ⟨Nat.le_of_ble_eq_true rfl, Nat.le_of_ble_eq_true rfl⟩) rfl hl.1 (rest := []) rfl (Nat.le_of_ble_eq_true rfl) ⟨Nat.le_of_ble_eq_true rfl, Nat.le_of_ble_eq_true rfl⟩ dX1_count_7 (fun u H locs hp h => ?_)
  rw [hp] at h
  refine lv_aload_n hx hb dX1_count_10 rfl (lv_at hl 0 rfl) ?_
  refine X_gO C0 hK h hin1 0 (by decide) (by decide +kernel) dX1_count_11 ?_
  refine lv_iload_n hx hb dX1_count_14 rfl (lv_at hl 1 rfl) ?_
  refine S_callVi C0 hK h (c_X0_ofAll l z σ 0 hB S hk k (by omega)) (cwV 1 hts gX1_count_X0_ofAll rfl rfl rfl (by decide +kernel) ⟨Nat.le_of_ble_eq_true rfl, Nat.le_of_ble_eq_true rfl⟩) (k := 1 + 27 * 0) (ci := 0) (by omega) (fun ct hA => (hA.2 0 (by decide)).1) rfl rfl rfl hl.1 (rest := []) rfl (Nat.le_of_ble_eq_true rfl) ⟨Nat.le_of_ble_eq_true rfl, Nat.le_of_ble_eq_true rfl⟩ dX1_count_15 (fun r u H locs hp h => ?_)
  obtain ⟨rfl, hu9⟩ := hp
  rw [hu9] at h
  exact G_iret C0 hK h ⟨rfl, rfl⟩ (Nat.le_of_ble_eq_true rfl) (Nat.le_of_ble_eq_true rfl) dX1_count_18
set_option maxHeartbeats 4000000 in
set_option maxRecDepth 100000 in
theorem c_X1_reach_ok (l : Launch) (z : QZ) (σ : Nat → QLs) (S : QLs) (hk : LOk S) (i : Nat) (hi : i < qt S) : GI l yX1_reach wsX1_reach ({ frames := 2, cells := 0, slots := 0, locals := 41 } : Room) z [.ref (za z 0), .int (nI i)] 0 0 (XAt z) 0 55 (va_up σ 0 S) (fun r σ' => r = reachL S (nI i) ∧ σ' = va_up σ 0 S) := by
  intro ct sz hn hq hat
  refine q_entry (lo := 0) (cc := cX1_reach) (maxL := 2) (ret := (some .int)) (by decide) rfl (Nat.le_of_ble_eq_true rfl) hn hq hat ?_
  intro p e s m below meth c ls C0 hK hsz h hl
  subst hsz
  obtain ⟨hx, hb, hr, hml, hown, hts, hlocks⟩ := id C0
  have hB : 0 < 2 := by decide
  have hin1 : ∀ w ∈ u_ws RX1 TX1 2, w ∈ wsX1_reach := by decide +kernel
  have hl : lv_has ls 2 [(0, .ref (za z 0)), (1, .int (nI i))] := hl
  have hk1 := hk.1
  have hk2 := hk.2.1
  refine lv_aload_n hx hb dX1_reach_0 rfl (lv_at hl 0 rfl) ?_
  refine lv_iload_n hx hb dX1_reach_1 rfl (lv_at hl 1 rfl) ?_
  refine S_callVv C0 hK h (c_X1_needTank_ok l z σ S i hi (by omega)) (cwV 1 hts gX1_reach_X1_needTank rfl rfl rfl (by decide +kernel) ⟨Nat.le_of_ble_eq_true rfl, Nat.le_of_ble_eq_true rfl⟩) (k := 0) (ci := 1) (by omega) (fun ct hA => hA.1) rfl rfl rfl hl.1 (rest := []) rfl (Nat.le_of_ble_eq_true rfl) ⟨Nat.le_of_ble_eq_true rfl, Nat.le_of_ble_eq_true rfl⟩ dX1_reach_2 (fun u H locs hp h => ?_)
  rw [hp] at h
  refine lv_aload_n hx hb dX1_reach_5 rfl (lv_at hl 0 rfl) ?_
  refine X_gO C0 hK h hin1 0 (by decide) (by decide +kernel) dX1_reach_6 ?_
  refine lv_iload_n hx hb dX1_reach_9 rfl (lv_at hl 1 rfl) ?_
  refine S_callVi C0 hK h (c_X0_reachedFrom l z σ 0 hB S hk (nI i)) (cwV 1 hts gX1_reach_X0_reachedFrom rfl rfl rfl (by decide +kernel) ⟨Nat.le_of_ble_eq_true rfl, Nat.le_of_ble_eq_true rfl⟩) (k := 1 + 27 * 0) (ci := 0) (by omega) (fun ct hA => (hA.2 0 (by decide)).1) rfl rfl rfl hl.1 (rest := []) rfl (Nat.le_of_ble_eq_true rfl) ⟨Nat.le_of_ble_eq_true rfl, Nat.le_of_ble_eq_true rfl⟩ dX1_reach_10 (fun r u H locs hp h => ?_)
  obtain ⟨rfl, hu9⟩ := hp
  rw [hu9] at h
  exact G_iret C0 hK h ⟨rfl, rfl⟩ (Nat.le_of_ble_eq_true rfl) (Nat.le_of_ble_eq_true rfl) dX1_reach_13
set_option maxHeartbeats 4000000 in
set_option maxRecDepth 100000 in
theorem c_X1_pass_ok (l : Launch) (z : QZ) (σ : Nat → QLs) (S : QLs) (hk : LOk S) (n : Nat) (h1 : 1 ≤ n) (h2 : n ≤ 100) : GI l yX1_pass wsX1_pass ({ frames := 6, cells := 0, slots := 0, locals := 129 } : Room) z [.ref (za z 0), .int (nI n)] 0 0 (XAt z) 0 55 (va_up σ 0 S) (fun r σ' => r = sumT (itN dayF n S) 6 - sumT S 6 ∧ σ' = va_up σ 0 (itN dayF n S)) := by
  intro ct sz hn hq hat
  refine q_entry (lo := 0) (cc := cX1_pass) (maxL := 2) (ret := (some .int)) (by decide) rfl (Nat.le_of_ble_eq_true rfl) hn hq hat ?_
  intro p e s m below meth c ls C0 hK hsz h hl
  subst hsz
  obtain ⟨hx, hb, hr, hml, hown, hts, hlocks⟩ := id C0
  have hB : 0 < 2 := by decide
  have hin1 : ∀ w ∈ u_ws RX1 TX1 2, w ∈ wsX1_pass := by decide +kernel
  have hl : lv_has ls 2 [(0, .ref (za z 0)), (1, .int (nI n))] := hl
  have hk1 := hk.1
  have hk2 := hk.2.1
  refine lv_iload_n hx hb dX1_pass_0 rfl (lv_at hl 1 rfl) ?_
  refine lv_iconst (v := 1) hx hb dX1_pass_1 (by decide) ?_
  refine lv_bipush (v := 100) hx hb dX1_pass_2 (by decide) ?_
  refine S_callSi C0 hK h (c_X1_isWithin l z σ S (nI n) 1 100) (va_cwS 3 hts gX1_pass_X1_isWithin rfl rfl rfl (by decide +kernel) ⟨Nat.le_of_ble_eq_true rfl, Nat.le_of_ble_eq_true rfl⟩) rfl hl.1 (rest := []) rfl (Nat.le_of_ble_eq_true rfl) ⟨Nat.le_of_ble_eq_true rfl, Nat.le_of_ble_eq_true rfl⟩ dX1_pass_4 (fun r u H locs hp h => ?_)
  obtain ⟨hr9, hu9⟩ := hp
  have hr9 := hr9.trans (if_pos (q_rng (k := n) 1 100 rfl rfl))
  subst hr9
  rw [hu9] at h
  refine S_callSv C0 hK h (c_X1_needArgument_ok l z σ S) (va_cwS 1 hts gX1_pass_X1_needArgument rfl rfl rfl (by decide +kernel) ⟨Nat.le_of_ble_eq_true rfl, Nat.le_of_ble_eq_true rfl⟩) rfl hl.1 (rest := []) rfl (Nat.le_of_ble_eq_true rfl) ⟨Nat.le_of_ble_eq_true rfl, Nat.le_of_ble_eq_true rfl⟩ dX1_pass_7 (fun u H locs hp h => ?_)
  rw [hp] at h
  refine lv_aload_n hx hb dX1_pass_10 rfl (lv_at hl 0 rfl) ?_
  refine X_gO C0 hK h hin1 0 (by decide) (by decide +kernel) dX1_pass_11 ?_
  refine lv_iload_n hx hb dX1_pass_14 rfl (lv_at hl 1 rfl) ?_
  refine S_callVi C0 hK h (c_X0_drunkIn l z σ 0 hB S hk n (by omega)) (cwV 1 hts gX1_pass_X0_drunkIn rfl rfl rfl (by decide +kernel) ⟨Nat.le_of_ble_eq_true rfl, Nat.le_of_ble_eq_true rfl⟩) (k := 1 + 27 * 0) (ci := 0) (by omega) (fun ct hA => (hA.2 0 (by decide)).1) rfl rfl rfl hl.1 (rest := []) rfl (Nat.le_of_ble_eq_true rfl) ⟨Nat.le_of_ble_eq_true rfl, Nat.le_of_ble_eq_true rfl⟩ dX1_pass_15 (fun r u H locs hp h => ?_)
  obtain ⟨rfl, hp⟩ := hp
  obtain ⟨S1, eS1⟩ : ∃ z9, z9 = itN dayF n S := ⟨_, rfl⟩
  rw [hp, ← eS1] at h
  exact G_iret C0 hK h ⟨rfl, congrArg (va_up σ 0) (by subst eS1; rfl)⟩ (Nat.le_of_ble_eq_true rfl) (Nat.le_of_ble_eq_true rfl) dX1_pass_18
end
section
/-! PART 36: suspect, mean, digest -/
def qsus (S : QLs) : Nat → Int32 × Int32
  | 0 => (-1, 0)
  | n + 1 => if qP S n 6 ≤ (qsus S n).2 then qsus S n else (nI n, qP S n 6)
def qmean (S : QLs) : UInt64 := if qD S = 0 then FP.dconst0 else FP.ddiv (FP.i2d (sumT S 6)) (FP.i2d (qD S))
set_option maxHeartbeats 4000000 in
set_option maxRecDepth 100000 in
theorem c_X1_suspect (l : Launch) (z : QZ) (σ : Nat → QLs) (S : QLs) (hk : LOk S) : GI l yX1_suspect wsX1_suspect ({ frames := 0, cells := 0, slots := 0, locals := 0 } : Room) z [.ref (za z 0)] 0 0 (XAt z) 0 55 (va_up σ 0 S) (fun r σ' => r = (qsus S (qp S)).1 ∧ σ' = va_up σ 0 S) := by
  intro ct sz hn hq hat
  refine q_entry (lo := 0) (cc := cX1_suspect) (maxL := 5) (ret := (some .int)) (by decide) rfl (Nat.le_of_ble_eq_true rfl) hn hq hat ?_
  intro p e s m below meth c ls C0 hK hsz h hl
  subst hsz
  obtain ⟨hx, hb, hr, hml, hown, hts, hlocks⟩ := id C0
  have hB : 0 < 2 := by decide
  have hin0 : ∀ w ∈ u_ws RX0 TX0 5, w ∈ wsX1_suspect := by decide +kernel
  have hin1 : ∀ w ∈ u_ws RX1 TX1 2, w ∈ wsX1_suspect := by decide +kernel
  have hl : lv_has ls 5 [(0, .ref (za z 0))] := hl
  have hk1 := hk.1
  have hk2 := hk.2.1
  have L6 : ∀ (d i : Nat), i + d = qp S → ∀ (H : Heap) (locs : List Loc) (ls : Array Slot), GW z (XAt z) 0 55 s.heap ct (va_up σ 0 S) H locs → lv_has ls 5 [(3, .int (nI i)), (1, .int ((qsus S i).1)), (2, .int ((qsus S i).2)), (0, .ref (za z 0))] → W p l e ({ frames := 0, cells := 0, slots := 0, locals := 0 } : Room) s m [.ref (za z 0)].toArray below meth c H locs 0 0 (EI z (XAt z) 0 55 ct s below [.ref (za z 0)] 0 0 (fun r σ' => r = (qsus S (qp S)).1 ∧ σ' = va_up σ 0 S)) (F0 m 6 ls []) := by
    intro  d
    induction d with
    | zero =>
      intro i hdi H locs ls h hl
      have hEi : i = qp S := by omega
      refine lv_iload_n hx hb dX1_suspect_6 rfl (lv_at hl 0 rfl) ?_
      refine lv_aload_n hx hb dX1_suspect_7 rfl (lv_at hl 3 rfl) ?_
      refine X_gO C0 hK h hin1 0 (by decide) (by decide +kernel) dX1_suspect_8 ?_
      refine L_gL C0 hK h hB hin0 3 (by decide) (by decide +kernel) rfl dX1_suspect_11 ?_
      refine lv_icmp_ge (tgt := 48) hx hb dX1_suspect_14 (by decide) (fun _ => ?_) (fun q9 => absurd (nI_le (a := qp S) (by omega) (by omega)) q9)
      refine lv_iload_n hx hb dX1_suspect_48 rfl (lv_at hl 1 rfl) ?_
      exact G_iret C0 hK h ⟨by rw [hEi], rfl⟩ (Nat.le_of_ble_eq_true rfl) (Nat.le_of_ble_eq_true rfl) dX1_suspect_49
    | succ d ihL6 =>
      intro i hdi H locs ls h hl
      have hEi : i < qp S := by omega
      refine lv_iload_n hx hb dX1_suspect_6 rfl (lv_at hl 0 rfl) ?_
      refine lv_aload_n hx hb dX1_suspect_7 rfl (lv_at hl 3 rfl) ?_
      refine X_gO C0 hK h hin1 0 (by decide) (by decide +kernel) dX1_suspect_8 ?_
      refine L_gL C0 hK h hB hin0 3 (by decide) (by decide +kernel) rfl dX1_suspect_11 ?_
      refine lv_icmp_ge (tgt := 48) hx hb dX1_suspect_14 (by decide) (fun q9 => absurd q9 (nI_ge (b := qp S) (by omega) (by omega))) (fun _ => ?_)
      refine lv_aload_n hx hb dX1_suspect_17 rfl (lv_at hl 3 rfl) ?_
      refine X_gO C0 hK h hin1 0 (by decide) (by decide +kernel) dX1_suspect_18 ?_
      refine L_gL C0 hK h hB hin0 1 (by decide) (by decide +kernel) rfl dX1_suspect_21 ?_
      refine lv_iload_n hx hb dX1_suspect_24 rfl (lv_at hl 0 rfl) ?_
      refine X_aP C0 hK h hB (i := i) rfl (by omega) dX1_suspect_25 ?_
      refine lv_bipush (v := 6) hx hb dX1_suspect_26 (by decide) ?_
      refine L_ldP C0 hK h hB (by omega) (k := 6) rfl (by decide) dX1_suspect_28 ?_
      refine lv_istore (lv' := [(4, .int (qP S i 6)), (3, .int (nI i)), (1, .int ((qsus S i).1)), (2, .int ((qsus S i).2)), (0, .ref (za z 0))]) hx hb dX1_suspect_29 hl (by decide) rfl (fun ls hl => ?_)
      refine lv_iload hx hb dX1_suspect_31 (lv_at hl 0 rfl) ?_
      refine lv_iload_n hx hb dX1_suspect_33 rfl (lv_at hl 3 rfl) ?_
      refine lv_icmp_le (tgt := 42) hx hb dX1_suspect_34 (by decide) (fun c_34 => ?_) (fun c_34 => ?_)
      · refine lv_iinc (v := nI (i + 1)) (lv' := [(3, .int (nI (i + 1))), (4, .int (qP S i 6)), (1, .int ((qsus S i).1)), (2, .int ((qsus S i).2)), (0, .ref (za z 0))]) hx hb dX1_suspect_42 hl (k := 1) rfl (q_inc i 1) (by decide) rfl (fun ls hl => ?_)
        refine lv_goto (tgt := 6) hx hb dX1_suspect_45 (by decide) ?_
        have e9 : qsus S (i + 1) = qsus S i := (show (if qP S i 6 ≤ (qsus S i).2 then qsus S i else (nI i, qP S i 6)) = _ from if_pos c_34)
        have hl : lv_has ls 5 [(3, .int (nI (i + 1))), (4, .int (qP S i 6)), (1, .int ((qsus S (i + 1)).1)), (2, .int ((qsus S (i + 1)).2)), (0, .ref (za z 0))] := by rw [e9]; exact hl
        exact ihL6 (i + 1) (by omega) _ _ _ h (lv_sub hl [0, 2, 3, 4] rfl)
      · refine lv_iload hx hb dX1_suspect_37 (lv_at hl 0 rfl) ?_
        refine lv_istore_n (lv' := [(2, .int (qP S i 6)), (4, .int (qP S i 6)), (3, .int (nI i)), (1, .int ((qsus S i).1)), (0, .ref (za z 0))]) hx hb dX1_suspect_39 rfl hl (by decide) rfl (fun ls hl => ?_)
        refine lv_iload_n hx hb dX1_suspect_40 rfl (lv_at hl 2 rfl) ?_
        refine lv_istore_n (lv' := [(1, .int (nI i)), (2, .int (qP S i 6)), (4, .int (qP S i 6)), (3, .int (nI i)), (0, .ref (za z 0))]) hx hb dX1_suspect_41 rfl hl (by decide) rfl (fun ls hl => ?_)
        refine lv_iinc (v := nI (i + 1)) (lv' := [(3, .int (nI (i + 1))), (1, .int (nI i)), (2, .int (qP S i 6)), (4, .int (qP S i 6)), (0, .ref (za z 0))]) hx hb dX1_suspect_42 hl (k := 3) rfl (q_inc i 1) (by decide) rfl (fun ls hl => ?_)
        refine lv_goto (tgt := 6) hx hb dX1_suspect_45 (by decide) ?_
        have e9 : qsus S (i + 1) = (nI i, qP S i 6) := (show (if qP S i 6 ≤ (qsus S i).2 then qsus S i else (nI i, qP S i 6)) = _ from if_neg c_34)
        have hl : lv_has ls 5 [(3, .int (nI (i + 1))), (1, .int ((qsus S (i + 1)).1)), (2, .int ((qsus S (i + 1)).2)), (4, .int (qP S i 6)), (0, .ref (za z 0))] := by rw [e9]; exact hl
        exact ihL6 (i + 1) (by omega) _ _ _ h (lv_sub hl [0, 1, 2, 4] rfl)
  refine lv_iconst (v := (-1)) hx hb dX1_suspect_0 (by decide) ?_
  refine lv_istore_n (lv' := [(1, .int ((-1))), (0, .ref (za z 0))]) hx hb dX1_suspect_1 rfl hl (by decide) rfl (fun ls hl => ?_)
  refine lv_iconst (v := 0) hx hb dX1_suspect_2 (by decide) ?_
  refine lv_istore_n (lv' := [(2, .int 0), (1, .int ((-1))), (0, .ref (za z 0))]) hx hb dX1_suspect_3 rfl hl (by decide) rfl (fun ls hl => ?_)
  refine lv_iconst (v := 0) hx hb dX1_suspect_4 (by decide) ?_
  refine lv_istore_n (lv' := [(3, .int 0), (2, .int 0), (1, .int ((-1))), (0, .ref (za z 0))]) hx hb dX1_suspect_5 rfl hl (by decide) rfl (fun ls hl => ?_)
  exact L6 (qp S) 0 (by omega) _ _ _ h (lv_sub hl [0, 2, 1, 3] rfl)
set_option maxHeartbeats 4000000 in
set_option maxRecDepth 100000 in
theorem c_X1_mean (l : Launch) (z : QZ) (σ : Nat → QLs) (S : QLs) (hk : LOk S) : GD l yX1_mean wsX1_mean ({ frames := 1, cells := 0, slots := 0, locals := 23 } : Room) z [.ref (za z 0)] 0 0 (XAt z) 0 55 (va_up σ 0 S) (fun r σ' => r = qmean S ∧ σ' = va_up σ 0 S) := by
  intro ct sz hn hq hat
  refine q_entry (lo := 0) (cc := cX1_mean) (maxL := 1) (ret := (some .double)) (by decide) rfl (Nat.le_of_ble_eq_true rfl) hn hq hat ?_
  intro p e s m below meth c ls C0 hK hsz h hl
  subst hsz
  obtain ⟨hx, hb, hr, hml, hown, hts, hlocks⟩ := id C0
  have hB : 0 < 2 := by decide
  have hin0 : ∀ w ∈ u_ws RX0 TX0 5, w ∈ wsX1_mean := by decide +kernel
  have hin1 : ∀ w ∈ u_ws RX1 TX1 2, w ∈ wsX1_mean := by decide +kernel
  have hl : lv_has ls 1 [(0, .ref (za z 0))] := hl
  have hk1 := hk.1
  have hk2 := hk.2.1
  refine lv_aload_n hx hb dX1_mean_0 rfl (lv_at hl 0 rfl) ?_
  refine X_gO C0 hK h hin1 0 (by decide) (by decide +kernel) dX1_mean_1 ?_
  refine L_gL C0 hK h hB hin0 4 (by decide) (by decide +kernel) rfl dX1_mean_4 ?_
  refine lv_if_ne (tgt := 12) hx hb dX1_mean_7 (by decide) (fun c_7 => ?_) (fun c_7 => ?_)
  · refine lv_aload_n hx hb dX1_mean_12 rfl (lv_at hl 0 rfl) ?_
    refine X_gO C0 hK h hin1 0 (by decide) (by decide +kernel) dX1_mean_13 ?_
    refine lv_bipush (v := 6) hx hb dX1_mean_16 (by decide) ?_
    refine S_callVi C0 hK h (c_X0_sumOfTanks l z σ 0 hB S hk 6 (by decide)) (cwV 1 hts gX1_mean_X0_sumOfTanks rfl rfl rfl (by decide +kernel) ⟨Nat.le_of_ble_eq_true rfl, Nat.le_of_ble_eq_true rfl⟩) (k := 1 + 27 * 0) (ci := 0) (by omega) (fun ct hA => (hA.2 0 (by decide)).1) rfl rfl rfl hl.1 (rest := []) rfl (Nat.le_of_ble_eq_true rfl) ⟨Nat.le_of_ble_eq_true rfl, Nat.le_of_ble_eq_true rfl⟩ dX1_mean_18 (fun r u H locs hp h => ?_)
    obtain ⟨rfl, hu9⟩ := hp
    rw [hu9] at h
    refine lv_i2d hx hb dX1_mean_21 ?_
    refine lv_aload_n hx hb dX1_mean_22 rfl (lv_at hl 0 rfl) ?_
    refine X_gO C0 hK h hin1 0 (by decide) (by decide +kernel) dX1_mean_23 ?_
    refine L_gL C0 hK h hB hin0 4 (by decide) (by decide +kernel) rfl dX1_mean_26 ?_
    refine lv_i2d hx hb dX1_mean_29 ?_
    refine lv_ddiv hx hb dX1_mean_30 (q_ddiv c_7) ?_
    exact G_dret C0 hK h ⟨by unfold qmean; rw [if_neg c_7], rfl⟩ (Nat.le_of_ble_eq_true rfl) (Nat.le_of_ble_eq_true rfl) dX1_mean_31
  · refine lv_dconst0 hx hb dX1_mean_10 ?_
    exact G_dret C0 hK h ⟨by unfold qmean; rw [if_pos c_7], rfl⟩ (Nat.le_of_ble_eq_true rfl) (Nat.le_of_ble_eq_true rfl) dX1_mean_11
end
section
/-! PART 37: foresee, advise, sated -/
theorem q_c01 {α : Type} {f : Nat → α} {x y : α} : va_up (va_up f 0 x) 1 y = va_up (va_up f 1 y) 0 x := by
  funext k
  by_cases h0 : k = 0
  · subst h0; rw [va_up_ne _ _ (by decide), va_up_self, va_up_self]
  · by_cases h1 : k = 1
    · subst h1; rw [va_up_self, va_up_ne _ _ (by decide), va_up_self]
    · rw [va_up_ne _ _ h1, va_up_ne _ _ h0, va_up_ne _ _ h0, va_up_ne _ _ h1]
theorem q_c10 {α : Type} {f : Nat → α} {x y : α} : va_up (va_up f 1 y) 0 x = va_up (va_up f 0 x) 1 y := q_c01.symm
theorem q_start (σ : Nat → QLs) (S : QLs) : va_up σ 0 S = va_up (va_up σ 0 S) 1 (σ 1) := by
  funext k
  by_cases h1 : k = 1
  · subst h1; rw [va_up_self, va_up_ne _ _ (by decide)]
  · rw [va_up_ne _ _ h1]
theorem cpT_r (S0 X : QLs) : ∀ n, (∀ i, i < n → qT (itN (cpTF S0) n X) i = qT S0 i) ∧ qP (itN (cpTF S0) n X) = qP X ∧ qD (itN (cpTF S0) n X) = qD X
  | 0 => ⟨fun i hi => by omega, rfl, rfl⟩
  | n + 1 => by
    obtain ⟨h1, h2, h3⟩ := cpT_r S0 X n
    refine ⟨fun i hi => ?_, h2, h3⟩
    show qT (sT (itN (cpTF S0) n X) n (qT S0 n)) i = _
    by_cases e : i = n
    · subst e; rw [qT_sT]
    · rw [qT_sTn _ _ e]; exact h1 i (by omega)
theorem cpP_r (S0 X : QLs) : ∀ n, (∀ i, i < n → qP (itN (cpPF S0) n X) i = qP S0 i) ∧ qT (itN (cpPF S0) n X) = qT X ∧ qD (itN (cpPF S0) n X) = qD X
  | 0 => ⟨fun i hi => by omega, rfl, rfl⟩
  | n + 1 => by
    obtain ⟨h1, h2, h3⟩ := cpP_r S0 X n
    refine ⟨fun i hi => ?_, h2, h3⟩
    show qP (sP (itN (cpPF S0) n X) n (qP S0 n)) i = _
    by_cases e : i = n
    · subst e; rw [qP_sP]
    · rw [qP_sPn _ _ e]; exact h1 i (by omega)
theorem cpy_all (S X : QLs) : qt (copyL S X) = qt S ∧ qp (copyL S X) = qp S ∧ qD (copyL S X) = qD S ∧ (∀ i, i < qt S → qT (copyL S X) i = qT S i) ∧ (∀ i, i < qp S → qP (copyL S X) i = qP S i) := by
  unfold copyL
  obtain ⟨a1, a2, a3⟩ := cpP_r S (itN (cpTF S) (qt S) (sp_ (st_ (sD X (qD S)) (qt S)) (qp S))) (qp S)
  obtain ⟨b1, b2, b3⟩ := cpT_r S (sp_ (st_ (sD X (qD S)) (qt S)) (qp S)) (qt S)
  obtain ⟨c1, c2⟩ := cpP_t S (itN (cpTF S) (qt S) (sp_ (st_ (sD X (qD S)) (qt S)) (qp S))) (qp S)
  obtain ⟨d1, d2⟩ := cpT_t S (sp_ (st_ (sD X (qD S)) (qt S)) (qp S)) (qt S)
  exact ⟨c1.trans d1, c2.trans d2, a3.trans b3, fun i hi => by rw [a2]; exact b1 i hi, a1⟩
theorem lok_copy {S : QLs} (hk : LOk S) (X : QLs) : LOk (copyL S X) := by
  obtain ⟨h1, h2, h3, h4, h5⟩ := cpy_all S X
  obtain ⟨k1, k2, k3⟩ := hk
  refine ⟨by rw [h1]; exact k1, by rw [h2]; exact k2, fun k hk => ?_⟩
  rw [h2] at hk
  have e0 : qf (copyL S X) k = qf S k := by unfold qf; rw [h5 k hk]
  have e1 : qo (copyL S X) k = qo S k := by unfold qo; rw [h5 k hk]
  rw [e0, e1, h1, h5 k hk]
  exact k3 k hk
def qfore (S C : QLs) (n k : Nat) : Int32 :=
  if k = 0 then sumT (itN dayF n C) 6 - sumT C 6 else if k = 1 then sumP (itN dayF n C) 7 - sumP S 7 else if k = 2 then sumT (itN dayF n C) 3 else sumP (itN dayF n C) 4
def qadvC (S X : QLs) (i : Nat) : QLs := sP (copyL S X) i (upd (qP (copyL S X) i) 4 0)
def qadvF (S : QLs) (n : Nat) (X0 : QLs) : Nat → Int32 × Int32 × QLs
  | 0 => (-1, sumT (itN dayF n (copyL S X0)) 6 - sumT (copyL S X0) 6, itN dayF n (copyL S X0))
  | i + 1 => if sumT (itN dayF n (qadvC S (qadvF S n X0 i).2.2 i)) 6 - sumT (qadvC S (qadvF S n X0 i).2.2 i) 6 ≤ (qadvF S n X0 i).2.1 then ((qadvF S n X0 i).1, (qadvF S n X0 i).2.1, itN dayF n (qadvC S (qadvF S n X0 i).2.2 i)) else (nI i, sumT (itN dayF n (qadvC S (qadvF S n X0 i).2.2 i)) 6 - sumT (qadvC S (qadvF S n X0 i).2.2 i) 6, itN dayF n (qadvC S (qadvF S n X0 i).2.2 i))
def qsatF (C : QLs) (t : Nat) : Nat → Nat → Int32
  | 0, _ => -1
  | d + 1, j => if qT (dayL (itN dayF j C)) t 5 < qT (dayL (itN dayF j C)) t 2 then qsatF C t d (j + 1) else nI (j + 1)
theorem qsat_p {C : QLs} {t d j : Nat} (h : qT (dayL (itN dayF j C)) t 5 < qT (dayL (itN dayF j C)) t 2) : qsatF C t (d + 1) j = qsatF C t d (j + 1) := if_pos h
theorem qsat_n {C : QLs} {t d j : Nat} (h : ¬ qT (dayL (itN dayF j C)) t 5 < qT (dayL (itN dayF j C)) t 2) : qsatF C t (d + 1) j = nI (j + 1) := if_neg h
set_option maxHeartbeats 4000000 in
set_option maxRecDepth 100000 in
theorem c_X1_foresee_ok (l : Launch) (z : QZ) (σ : Nat → QLs) (S : QLs) (hk : LOk S) (n : Nat) (h1 : 1 ≤ n) (h2 : n ≤ 100) (k : Nat) (hk9 : k ≤ 3) : GI l yX1_foresee wsX1_foresee ({ frames := 6, cells := 0, slots := 0, locals := 129 } : Room) z [.ref (za z 0), .int (nI n), .int (nI k)] 0 0 (XAt z) 0 55 (va_up σ 0 S) (fun r σ' => r = qfore S (copyL S (σ 1)) n k ∧ ∃ S2, σ' = va_up (va_up σ 0 S) 1 S2) := by
  intro ct sz hn hq hat
  refine q_entry (lo := 0) (cc := cX1_foresee) (maxL := 4) (ret := (some .int)) (by decide) rfl (Nat.le_of_ble_eq_true rfl) hn hq hat ?_
  intro p e s m below meth c ls C0 hK hsz h hl
  subst hsz
  obtain ⟨hx, hb, hr, hml, hown, hts, hlocks⟩ := id C0
  have hB : 0 < 2 := by decide
  have hin1 : ∀ w ∈ u_ws RX1 TX1 2, w ∈ wsX1_foresee := by decide +kernel
  have hl : lv_has ls 4 [(0, .ref (za z 0)), (1, .int (nI n)), (2, .int (nI k))] := hl
  have hk1 := hk.1
  have hk2 := hk.2.1
  refine lv_iload_n hx hb dX1_foresee_0 rfl (lv_at hl 1 rfl) ?_
  refine lv_iconst (v := 1) hx hb dX1_foresee_1 (by decide) ?_
  refine lv_bipush (v := 100) hx hb dX1_foresee_2 (by decide) ?_
  refine S_callSi C0 hK h (c_X1_isWithin l z σ S (nI n) 1 100) (va_cwS 3 hts gX1_foresee_X1_isWithin rfl rfl rfl (by decide +kernel) ⟨Nat.le_of_ble_eq_true rfl, Nat.le_of_ble_eq_true rfl⟩) rfl hl.1 (rest := []) rfl (Nat.le_of_ble_eq_true rfl) ⟨Nat.le_of_ble_eq_true rfl, Nat.le_of_ble_eq_true rfl⟩ dX1_foresee_4 (fun r u H locs hp h => ?_)
  obtain ⟨hr9, hu9⟩ := hp
  have hr9 := hr9.trans (if_pos (q_rng (k := n) 1 100 rfl rfl))
  subst hr9
  rw [hu9] at h
  refine S_callSv C0 hK h (c_X1_needArgument_ok l z σ S) (va_cwS 1 hts gX1_foresee_X1_needArgument rfl rfl rfl (by decide +kernel) ⟨Nat.le_of_ble_eq_true rfl, Nat.le_of_ble_eq_true rfl⟩) rfl hl.1 (rest := []) rfl (Nat.le_of_ble_eq_true rfl) ⟨Nat.le_of_ble_eq_true rfl, Nat.le_of_ble_eq_true rfl⟩ dX1_foresee_7 (fun u H locs hp h => ?_)
  rw [hp] at h
  refine lv_iload_n hx hb dX1_foresee_10 rfl (lv_at hl 2 rfl) ?_
  refine lv_iconst (v := 0) hx hb dX1_foresee_11 (by decide) ?_
  refine lv_iconst (v := 3) hx hb dX1_foresee_12 (by decide) ?_
  refine S_callSi C0 hK h (c_X1_isWithin l z σ S (nI k) 0 3) (va_cwS 3 hts gX1_foresee_X1_isWithin rfl rfl rfl (by decide +kernel) ⟨Nat.le_of_ble_eq_true rfl, Nat.le_of_ble_eq_true rfl⟩) rfl hl.1 (rest := []) rfl (Nat.le_of_ble_eq_true rfl) ⟨Nat.le_of_ble_eq_true rfl, Nat.le_of_ble_eq_true rfl⟩ dX1_foresee_13 (fun r u H locs hp h => ?_)
  obtain ⟨hr9, hu9⟩ := hp
  have hr9 := hr9.trans (if_pos (q_rng (k := k) 0 3 rfl rfl))
  subst hr9
  rw [hu9] at h
  refine S_callSv C0 hK h (c_X1_needIndex_ok l z σ S) (va_cwS 1 hts gX1_foresee_X1_needIndex rfl rfl rfl (by decide +kernel) ⟨Nat.le_of_ble_eq_true rfl, Nat.le_of_ble_eq_true rfl⟩) rfl hl.1 (rest := []) rfl (Nat.le_of_ble_eq_true rfl) ⟨Nat.le_of_ble_eq_true rfl, Nat.le_of_ble_eq_true rfl⟩ dX1_foresee_16 (fun u H locs hp h => ?_)
  rw [hp] at h
  refine lv_aload_n hx hb dX1_foresee_19 rfl (lv_at hl 0 rfl) ?_
  refine X_gO C0 hK h hin1 1 (by decide) (by decide +kernel) dX1_foresee_20 ?_
  refine lv_aload_n hx hb dX1_foresee_23 rfl (lv_at hl 0 rfl) ?_
  refine X_gO C0 hK h hin1 0 (by decide) (by decide +kernel) dX1_foresee_24 ?_
  rw [q_start σ S] at h
  refine S_callVv C0 hK h (c_X0_copyFrom l z (va_up σ 0 S) (σ 1) (by rw [va_up_self]; exact hk1) (by rw [va_up_self]; exact hk2)) (cwV 1 hts gX1_foresee_X0_copyFrom rfl rfl rfl (by decide +kernel) ⟨Nat.le_of_ble_eq_true rfl, Nat.le_of_ble_eq_true rfl⟩) (k := 1 + 27 * 1) (ci := 0) (by omega) (fun ct hA => (hA.2 1 (by decide)).1) rfl rfl rfl hl.1 (rest := []) rfl (Nat.le_of_ble_eq_true rfl) ⟨Nat.le_of_ble_eq_true rfl, Nat.le_of_ble_eq_true rfl⟩ dX1_foresee_27 (fun u H locs hp h => ?_)
  obtain ⟨S1, eS1⟩ : ∃ z9, z9 = copyL S (σ 1) := ⟨_, rfl⟩
  rw [hp, va_up_self, ← eS1] at h
  refine lv_aload_n hx hb dX1_foresee_30 rfl (lv_at hl 0 rfl) ?_
  refine X_gO C0 hK h hin1 1 (by decide) (by decide +kernel) dX1_foresee_31 ?_
  refine lv_iload_n hx hb dX1_foresee_34 rfl (lv_at hl 1 rfl) ?_
  refine S_callVi C0 hK h (c_X0_drunkIn l z (va_up σ 0 S) 1 (by decide) S1 (by subst eS1; exact lok_copy hk _) n (by omega)) (cwV 1 hts gX1_foresee_X0_drunkIn rfl rfl rfl (by decide +kernel) ⟨Nat.le_of_ble_eq_true rfl, Nat.le_of_ble_eq_true rfl⟩) (k := 1 + 27 * 1) (ci := 0) (by omega) (fun ct hA => (hA.2 1 (by decide)).1) rfl rfl rfl hl.1 (rest := []) rfl (Nat.le_of_ble_eq_true rfl) ⟨Nat.le_of_ble_eq_true rfl, Nat.le_of_ble_eq_true rfl⟩ dX1_foresee_35 (fun r u H locs hp h => ?_)
  obtain ⟨rfl, hp⟩ := hp
  obtain ⟨S2, eS2⟩ : ∃ z9, z9 = itN dayF n S1 := ⟨_, rfl⟩
  rw [hp, ← eS2] at h
  refine lv_istore_n (lv' := [(3, .int (sumT (itN dayF n S1) 6 - sumT S1 6)), (0, .ref (za z 0)), (1, .int (nI n)), (2, .int (nI k))]) hx hb dX1_foresee_38 rfl hl (by decide) rfl (fun ls hl => ?_)
  rcases (show k = 0 ∨ k = 1 ∨ k = 2 ∨ k = 3 by omega) with rfl | rfl | rfl | rfl
  · refine lv_iload_n hx hb dX1_foresee_39 rfl (lv_at hl 3 rfl) ?_
    refine lv_tableIn (off := 28) (tgt := 68) hx hb dX1_foresee_40 (by decide +kernel) (by decide +kernel) rfl (by decide) ?_
    refine lv_iload_n hx hb dX1_foresee_68 rfl (lv_at hl 0 rfl) ?_
    exact G_iret C0 hK h ⟨by subst eS2 eS1; rfl, _, rfl⟩ (Nat.le_of_ble_eq_true rfl) (Nat.le_of_ble_eq_true rfl) dX1_foresee_69
  · refine lv_iload_n hx hb dX1_foresee_39 rfl (lv_at hl 3 rfl) ?_
    refine lv_tableIn (off := 30) (tgt := 70) hx hb dX1_foresee_40 (by decide +kernel) (by decide +kernel) rfl (by decide) ?_
    refine lv_aload_n hx hb dX1_foresee_70 rfl (lv_at hl 1 rfl) ?_
    refine X_gO C0 hK h hin1 1 (by decide) (by decide +kernel) dX1_foresee_71 ?_
    refine lv_bipush (v := 7) hx hb dX1_foresee_74 (by decide) ?_
    refine S_callVi C0 hK h (c_X0_sumOfPipes l z (va_up σ 0 S) 1 (by decide) S2 (by subst eS2 eS1; exact (shp_days _ _).ok (lok_copy hk _)) 7 (by decide)) (cwV 1 hts gX1_foresee_X0_sumOfPipes rfl rfl rfl (by decide +kernel) ⟨Nat.le_of_ble_eq_true rfl, Nat.le_of_ble_eq_true rfl⟩) (k := 1 + 27 * 1) (ci := 0) (by omega) (fun ct hA => (hA.2 1 (by decide)).1) rfl rfl rfl hl.1 (rest := []) rfl (Nat.le_of_ble_eq_true rfl) ⟨Nat.le_of_ble_eq_true rfl, Nat.le_of_ble_eq_true rfl⟩ dX1_foresee_76 (fun r u H locs hp h => ?_)
    obtain ⟨rfl, hu9⟩ := hp
    rw [hu9] at h
    refine lv_aload_n hx hb dX1_foresee_79 rfl (lv_at hl 1 rfl) ?_
    refine X_gO C0 hK h hin1 0 (by decide) (by decide +kernel) dX1_foresee_80 ?_
    refine lv_bipush (v := 7) hx hb dX1_foresee_83 (by decide) ?_
    rw [q_c01] at h
    refine S_callVi C0 hK h (c_X0_sumOfPipes l z (va_up σ 1 S2) 0 hB S hk 7 (by decide)) (cwV 1 hts gX1_foresee_X0_sumOfPipes rfl rfl rfl (by decide +kernel) ⟨Nat.le_of_ble_eq_true rfl, Nat.le_of_ble_eq_true rfl⟩) (k := 1 + 27 * 0) (ci := 0) (by omega) (fun ct hA => (hA.2 0 (by decide)).1) rfl rfl rfl hl.1 (rest := [.int (sumP S2 7)]) rfl (Nat.le_of_ble_eq_true rfl) ⟨Nat.le_of_ble_eq_true rfl, Nat.le_of_ble_eq_true rfl⟩ dX1_foresee_85 (fun r u H locs hp h => ?_)
    obtain ⟨rfl, hu9⟩ := hp
    rw [hu9] at h
    refine lv_isub hx hb dX1_foresee_88 ?_
    rw [q_c10] at h
    exact G_iret C0 hK h ⟨by subst eS2 eS1; rfl, _, rfl⟩ (Nat.le_of_ble_eq_true rfl) (Nat.le_of_ble_eq_true rfl) dX1_foresee_89
  · refine lv_iload_n hx hb dX1_foresee_39 rfl (lv_at hl 3 rfl) ?_
    refine lv_tableIn (off := 50) (tgt := 90) hx hb dX1_foresee_40 (by decide +kernel) (by decide +kernel) rfl (by decide) ?_
    refine lv_aload_n hx hb dX1_foresee_90 rfl (lv_at hl 1 rfl) ?_
    refine X_gO C0 hK h hin1 1 (by decide) (by decide +kernel) dX1_foresee_91 ?_
    refine lv_iconst (v := 3) hx hb dX1_foresee_94 (by decide) ?_
    refine S_callVi C0 hK h (c_X0_sumOfTanks l z (va_up σ 0 S) 1 (by decide) S2 (by subst eS2 eS1; exact (shp_days _ _).ok (lok_copy hk _)) 3 (by decide)) (cwV 1 hts gX1_foresee_X0_sumOfTanks rfl rfl rfl (by decide +kernel) ⟨Nat.le_of_ble_eq_true rfl, Nat.le_of_ble_eq_true rfl⟩) (k := 1 + 27 * 1) (ci := 0) (by omega) (fun ct hA => (hA.2 1 (by decide)).1) rfl rfl rfl hl.1 (rest := []) rfl (Nat.le_of_ble_eq_true rfl) ⟨Nat.le_of_ble_eq_true rfl, Nat.le_of_ble_eq_true rfl⟩ dX1_foresee_95 (fun r u H locs hp h => ?_)
    obtain ⟨rfl, hu9⟩ := hp
    rw [hu9] at h
    exact G_iret C0 hK h ⟨by subst eS2 eS1; rfl, _, rfl⟩ (Nat.le_of_ble_eq_true rfl) (Nat.le_of_ble_eq_true rfl) dX1_foresee_98
  · refine lv_iload_n hx hb dX1_foresee_39 rfl (lv_at hl 3 rfl) ?_
    refine lv_tableOut (tgt := 99) hx hb dX1_foresee_40 (by decide +kernel) (by decide) ?_
    refine lv_aload_n hx hb dX1_foresee_99 rfl (lv_at hl 1 rfl) ?_
    refine X_gO C0 hK h hin1 1 (by decide) (by decide +kernel) dX1_foresee_100 ?_
    refine lv_iconst (v := 4) hx hb dX1_foresee_103 (by decide) ?_
    refine S_callVi C0 hK h (c_X0_sumOfPipes l z (va_up σ 0 S) 1 (by decide) S2 (by subst eS2 eS1; exact (shp_days _ _).ok (lok_copy hk _)) 4 (by decide)) (cwV 1 hts gX1_foresee_X0_sumOfPipes rfl rfl rfl (by decide +kernel) ⟨Nat.le_of_ble_eq_true rfl, Nat.le_of_ble_eq_true rfl⟩) (k := 1 + 27 * 1) (ci := 0) (by omega) (fun ct hA => (hA.2 1 (by decide)).1) rfl rfl rfl hl.1 (rest := []) rfl (Nat.le_of_ble_eq_true rfl) ⟨Nat.le_of_ble_eq_true rfl, Nat.le_of_ble_eq_true rfl⟩ dX1_foresee_104 (fun r u H locs hp h => ?_)
    obtain ⟨rfl, hu9⟩ := hp
    rw [hu9] at h
    exact G_iret C0 hK h ⟨by subst eS2 eS1; rfl, _, rfl⟩ (Nat.le_of_ble_eq_true rfl) (Nat.le_of_ble_eq_true rfl) dX1_foresee_107
set_option maxHeartbeats 4000000 in
set_option maxRecDepth 100000 in
theorem c_X1_sated_ok (l : Launch) (z : QZ) (σ : Nat → QLs) (S : QLs) (hk : LOk S) (t : Nat) (ht : t < qt S) : GI l yX1_sated wsX1_sated ({ frames := 5, cells := 0, slots := 0, locals := 106 } : Room) z [.ref (za z 0), .int (nI t)] 0 0 (XAt z) 0 55 (va_up σ 0 S) (fun r σ' => r = qsatF (copyL S (σ 1)) t 100 0 ∧ ∃ S2, σ' = va_up (va_up σ 0 S) 1 S2) := by
  intro ct sz hn hq hat
  refine q_entry (lo := 0) (cc := cX1_sated) (maxL := 3) (ret := (some .int)) (by decide) rfl (Nat.le_of_ble_eq_true rfl) hn hq hat ?_
  intro p e s m below meth c ls C0 hK hsz h hl
  subst hsz
  obtain ⟨hx, hb, hr, hml, hown, hts, hlocks⟩ := id C0
  have hB : 0 < 2 := by decide
  have hin1 : ∀ w ∈ u_ws RX1 TX1 2, w ∈ wsX1_sated := by decide +kernel
  have hl : lv_has ls 3 [(0, .ref (za z 0)), (1, .int (nI t))] := hl
  have hk1 := hk.1
  have hk2 := hk.2.1
  refine lv_aload_n hx hb dX1_sated_0 rfl (lv_at hl 0 rfl) ?_
  refine lv_iload_n hx hb dX1_sated_1 rfl (lv_at hl 1 rfl) ?_
  refine S_callVv C0 hK h (c_X1_needTank_ok l z σ S t ht (by omega)) (cwV 1 hts gX1_sated_X1_needTank rfl rfl rfl (by decide +kernel) ⟨Nat.le_of_ble_eq_true rfl, Nat.le_of_ble_eq_true rfl⟩) (k := 0) (ci := 1) (by omega) (fun ct hA => hA.1) rfl rfl rfl hl.1 (rest := []) rfl (Nat.le_of_ble_eq_true rfl) ⟨Nat.le_of_ble_eq_true rfl, Nat.le_of_ble_eq_true rfl⟩ dX1_sated_2 (fun u H locs hp h => ?_)
  rw [hp] at h
  refine lv_aload_n hx hb dX1_sated_5 rfl (lv_at hl 0 rfl) ?_
  refine X_gO C0 hK h hin1 1 (by decide) (by decide +kernel) dX1_sated_6 ?_
  refine lv_aload_n hx hb dX1_sated_9 rfl (lv_at hl 0 rfl) ?_
  refine X_gO C0 hK h hin1 0 (by decide) (by decide +kernel) dX1_sated_10 ?_
  rw [q_start σ S] at h
  refine S_callVv C0 hK h (c_X0_copyFrom l z (va_up σ 0 S) (σ 1) (by rw [va_up_self]; exact hk1) (by rw [va_up_self]; exact hk2)) (cwV 1 hts gX1_sated_X0_copyFrom rfl rfl rfl (by decide +kernel) ⟨Nat.le_of_ble_eq_true rfl, Nat.le_of_ble_eq_true rfl⟩) (k := 1 + 27 * 1) (ci := 0) (by omega) (fun ct hA => (hA.2 1 (by decide)).1) rfl rfl rfl hl.1 (rest := []) rfl (Nat.le_of_ble_eq_true rfl) ⟨Nat.le_of_ble_eq_true rfl, Nat.le_of_ble_eq_true rfl⟩ dX1_sated_13 (fun u H locs hp h => ?_)
  obtain ⟨S1, eS1⟩ : ∃ z9, z9 = copyL S (σ 1) := ⟨_, rfl⟩
  rw [hp, va_up_self, ← eS1] at h
  refine lv_iconst (v := 1) hx hb dX1_sated_16 (by decide) ?_
  refine lv_istore_n (lv' := [(2, .int 1), (0, .ref (za z 0)), (1, .int (nI t))]) hx hb dX1_sated_17 rfl hl (by decide) rfl (fun ls hl => ?_)
  subst eS1
  have L18 : ∀ (d i : Nat), i + d = 100 → qsatF (copyL S (σ 1)) t 100 0 = qsatF (copyL S (σ 1)) t d i → ∀ (H : Heap) (locs : List Loc) (ls : Array Slot), GW z (XAt z) 0 55 s.heap ct (va_up (va_up σ 0 S) 1 (itN dayF i (copyL S (σ 1)))) H locs → lv_has ls 3 [(2, .int (nI (i + 1))), (1, .int (nI t)), (0, .ref (za z 0))] → W p l e ({ frames := 5, cells := 0, slots := 0, locals := 106 } : Room) s m [.ref (za z 0), .int (nI t)].toArray below meth c H locs 0 0 (EI z (XAt z) 0 55 ct s below [.ref (za z 0), .int (nI t)] 0 0 (fun r σ' => r = qsatF (copyL S (σ 1)) t 100 0 ∧ ∃ S2, σ' = va_up (va_up σ 0 S) 1 S2)) (F0 m 18 ls []) := by
    intro  d
    induction d with
    | zero =>
      intro i hdi hq8 H locs ls h hl
      have hEi : i = 100 := by omega
      obtain ⟨S2, eS2⟩ : ∃ z9, z9 = itN dayF i (copyL S (σ 1)) := ⟨_, rfl⟩
      rw [← eS2] at h
      have hs9 : Shp (copyL S (σ 1)) S2 := by rw [eS2]; exact shp_days _ _
      have hk9 : LOk S2 := hs9.ok (lok_copy hk _)
      refine lv_iload_n hx hb dX1_sated_18 rfl (lv_at hl 0 rfl) ?_
      refine lv_bipush (v := 100) hx hb dX1_sated_19 (by decide) ?_
      refine lv_icmp_gt (tgt := 50) hx hb dX1_sated_21 (by decide) (fun _ => ?_) (fun q9 => absurd (show nI 100 < nI (i + 1) from nI_lt (by omega) (by omega)) q9)
      refine lv_iconst (v := (-1)) hx hb dX1_sated_50 (by decide) ?_
      exact G_iret C0 hK h ⟨by rw [hq8]; rfl, _, rfl⟩ (Nat.le_of_ble_eq_true rfl) (Nat.le_of_ble_eq_true rfl) dX1_sated_51
    | succ d ihL18 =>
      intro i hdi hq8 H locs ls h hl
      have hEi : i < 100 := by omega
      obtain ⟨S3, eS3⟩ : ∃ z9, z9 = itN dayF i (copyL S (σ 1)) := ⟨_, rfl⟩
      rw [← eS3] at h
      have hs9 : Shp (copyL S (σ 1)) S3 := by rw [eS3]; exact shp_days _ _
      have hk9 : LOk S3 := hs9.ok (lok_copy hk _)
      refine lv_iload_n hx hb dX1_sated_18 rfl (lv_at hl 0 rfl) ?_
      refine lv_bipush (v := 100) hx hb dX1_sated_19 (by decide) ?_
      refine lv_icmp_gt (tgt := 50) hx hb dX1_sated_21 (by decide) (fun q9 => absurd q9 (show ¬ nI 100 < nI (i + 1) from nI_nlt (by omega) (by omega))) (fun _ => ?_)
      refine lv_aload_n hx hb dX1_sated_24 rfl (lv_at hl 2 rfl) ?_
      refine X_gO C0 hK h hin1 1 (by decide) (by decide +kernel) dX1_sated_25 ?_
      refine S_callVv C0 hK h (c_X0_goThroughDay l z (va_up σ 0 S) 1 (by decide) S3 hk9) (cwV 0 hts gX1_sated_X0_goThroughDay rfl rfl rfl (by decide +kernel) ⟨Nat.le_of_ble_eq_true rfl, Nat.le_of_ble_eq_true rfl⟩) (k := 1 + 27 * 1) (ci := 0) (by omega) (fun ct hA => (hA.2 1 (by decide)).1) rfl rfl rfl hl.1 (rest := []) rfl (Nat.le_of_ble_eq_true rfl) ⟨Nat.le_of_ble_eq_true rfl, Nat.le_of_ble_eq_true rfl⟩ dX1_sated_28 (fun u H locs hp h => ?_)
      obtain ⟨S4, eS4⟩ : ∃ z9, z9 = dayL S3 := ⟨_, rfl⟩
      rw [hp, ← eS4] at h
      refine lv_aload_n hx hb dX1_sated_31 rfl (lv_at hl 2 rfl) ?_
      refine X_gO C0 hK h hin1 1 (by decide) (by decide +kernel) dX1_sated_32 ?_
      refine lv_iload_n hx hb dX1_sated_35 rfl (lv_at hl 1 rfl) ?_
      refine S_callVi C0 hK h (c_X0_isThirsty l z (va_up σ 0 S) 1 (by decide) S4 t (by omega)) (cwV 1 hts gX1_sated_X0_isThirsty rfl rfl rfl (by decide +kernel) ⟨Nat.le_of_ble_eq_true rfl, Nat.le_of_ble_eq_true rfl⟩) (k := 1 + 27 * 1) (ci := 0) (by omega) (fun ct hA => (hA.2 1 (by decide)).1) rfl rfl rfl hl.1 (rest := []) rfl (Nat.le_of_ble_eq_true rfl) ⟨Nat.le_of_ble_eq_true rfl, Nat.le_of_ble_eq_true rfl⟩ dX1_sated_36 (fun r u H locs hp h => ?_)
      rcases q_bool _ hp with ⟨hc5, rfl, hu9⟩ | ⟨hc5, rfl, hu9⟩
      · rw [hu9] at h
        refine lv_if_ne (tgt := 44) hx hb dX1_sated_39 (by decide) (fun _ => ?_) (fun q9 => absurd q9 (by decide))
        refine lv_iinc (v := nI (i + 1 + 1)) (lv' := [(2, .int (nI (i + 1 + 1))), (1, .int (nI t)), (0, .ref (za z 0))]) hx hb dX1_sated_44 hl (k := 0) rfl (q_inc (i + 1) 1) (by decide) rfl (fun ls hl => ?_)
        refine lv_goto (tgt := 18) hx hb dX1_sated_47 (by decide) ?_
        exact ihL18 (i + 1) (by omega) (by subst eS4; subst eS3; exact hq8.trans (qsat_p hc5)) _ _ _ (by subst eS4; rw [eS3] at h; exact h) (lv_sub hl [0, 1, 2] rfl)
      · rw [hu9] at h
        refine lv_if_ne (tgt := 44) hx hb dX1_sated_39 (by decide) (fun q9 => absurd (by decide) q9) (fun _ => ?_)
        refine lv_iload_n hx hb dX1_sated_42 rfl (lv_at hl 0 rfl) ?_
        exact G_iret C0 hK h ⟨by subst eS4; subst eS3; rw [hq8]; exact (qsat_n hc5).symm, _, rfl⟩ (Nat.le_of_ble_eq_true rfl) (Nat.le_of_ble_eq_true rfl) dX1_sated_43
  exact L18 (100) 0 (by omega) rfl _ _ _ h (lv_sub hl [0, 2, 1] rfl)
end
section
/-! PART 41: numbers, rows of the two states -/
theorem i_add {a b : Int32} (h : -2147483648 ≤ a.toInt + b.toInt) (h2 : a.toInt + b.toInt < 2147483648) : (a + b).toInt = a.toInt + b.toInt := by
  rw [Int32.toInt_add]; apply Int.bmod_eq_of_le <;> omega
theorem i_sub {a b : Int32} (h : -2147483648 ≤ a.toInt - b.toInt) (h2 : a.toInt - b.toInt < 2147483648) : (a - b).toInt = a.toInt - b.toInt := by
  rw [Int32.toInt_sub]; apply Int.bmod_eq_of_le <;> omega
theorem i_mul {a b : Int32} (h : -2147483648 ≤ a.toInt * b.toInt) (h2 : a.toInt * b.toInt < 2147483648) : (a * b).toInt = a.toInt * b.toInt := by
  rw [Int32.toInt_mul]; apply Int.bmod_eq_of_le <;> omega
theorem i_min (a b : Int32) : (qmin a b).toInt = if b.toInt < a.toInt then b.toInt else a.toInt := by
  by_cases h : b < a
  · rw [show qmin a b = b from if_pos h, if_pos (Int32.lt_iff_toInt_lt.mp h)]
  · rw [show qmin a b = a from if_neg h, if_neg (fun q => h (Int32.lt_iff_toInt_lt.mpr q))]
theorem i_max (a b : Int32) : (qmax a b).toInt = if a.toInt < b.toInt then b.toInt else a.toInt := by
  by_cases h : a < b
  · rw [show qmax a b = b from if_pos h, if_pos (Int32.lt_iff_toInt_lt.mp h)]
  · rw [show qmax a b = a from if_neg h, if_neg (fun q => h (Int32.lt_iff_toInt_lt.mpr q))]
theorem i_eq {a b : Int32} (h : a.toInt = b.toInt) : a = b := Int32.toInt_inj.mp h
theorem i_div {a b : Int32} (ha : 0 ≤ a.toInt) (hb : 0 < b.toInt) : (a / b).toInt = a.toInt / b.toInt := by
  rw [Int32.toInt_div_of_ne_right _ _ (fun q => by rw [q] at hb; revert hb; decide)]
  exact Int.tdiv_eq_ediv_of_nonneg ha
theorem i_0 : (0 : Int32).toInt = 0 := by decide
theorem i_200 : (200 : Int32).toInt = 200 := by decide
theorem i_99 : (99 : Int32).toInt = 99 := by decide
/-- a row of the reference's land, of its lines -/
abbrev rowA (M : QMs) (i : Nat) : Nat → Int32 := fun k => mA M (8 * i + k)
abbrev rowB (M : QMs) (i : Nat) : Nat → Int32 := fun k => mB M (9 * i + k)
def RE (r q : Nat → Int32) : Prop := ∀ k, k < 8 → r k = q k
def PE (p q : Nat → Int32) : Prop := (∀ k, k < 8 → p k = q k) ∧ p 8 = q 9
theorem RE.rf {r : Nat → Int32} : RE r r := fun _ _ => rfl
theorem RE.tr {r q s : Nat → Int32} (h : RE r q) (h2 : RE q s) : RE r s := fun k hk => (h k hk).trans (h2 k hk)
theorem RE.up {r q : Nat → Int32} (h : RE r q) (k : Nat) (x : Int32) : RE (upd r k x) (upd q k x) := fun j hj => by
  by_cases e : j = k
  · subst e; rw [pk_us, pk_us]
  · rw [pk_un e, pk_un e]; exact h j hj
theorem PE.up {p q : Nat → Int32} (h : PE p q) {k : Nat} (hk : k < 8) (x : Int32) : PE (upd p k x) (upd q k x) := by
  refine ⟨fun j hj => ?_, ?_⟩
  · by_cases e : j = k
    · subst e; rw [pk_us, pk_us]
    · rw [pk_un e, pk_un e]; exact h.1 j hj
  · rw [pk_un (by omega), pk_un (by omega)]; exact h.2
theorem setT_row {M : QMs} {i k : Nat} {x : Int32} (hk : k < 8) : RE (rowA (mSetT M i k x) i) (upd (rowA M i) k x) := fun l hl => by
  show upd (mA M) (8 * i + k) x (8 * i + l) = _
  by_cases e : l = k
  · subst e; rw [pk_us, pk_us]
  · rw [pk_un (by omega), pk_un e]
theorem setT_ne {M : QMs} {i j k : Nat} {x : Int32} (hk : k < 8) (hj : j ≠ i) : RE (rowA (mSetT M i k x) j) (rowA M j) := fun l hl => by
  show upd (mA M) (8 * i + k) x (8 * j + l) = _
  rw [pk_un (by omega)]
theorem setP_row {M : QMs} {i k : Nat} {x : Int32} {q : Nat → Int32} (hk : k < 8) (h : PE (rowB M i) q) : PE (rowB (mSetP M i k x) i) (upd q k x) := by
  refine ⟨fun l hl => ?_, ?_⟩
  · show upd (mB M) (9 * i + k) x (9 * i + l) = _
    by_cases e : l = k
    · subst e; rw [pk_us, pk_us]
    · rw [pk_un (by omega), pk_un e]; exact h.1 l hl
  · show upd (mB M) (9 * i + k) x (9 * i + 8) = _
    rw [pk_un (by omega), pk_un (by omega)]; exact h.2
theorem setP_ne {M : QMs} {i j k : Nat} {x : Int32} {q : Nat → Int32} (hk : k < 9) (hj : j ≠ i) (h : PE (rowB M j) q) : PE (rowB (mSetP M i k x) j) q := by
  refine ⟨fun l hl => ?_, ?_⟩
  · show upd (mB M) (9 * i + k) x (9 * j + l) = _
    rw [pk_un (by omega)]; exact h.1 l hl
  · show upd (mB M) (9 * i + k) x (9 * j + 8) = _
    rw [pk_un (by omega)]; exact h.2
theorem setP_tap {M : QMs} {i : Nat} {x : Int32} {q : Nat → Int32} (h : PE (rowB M i) q) : PE (rowB (mSetP M i 8 x) i) (upd q 9 x) := by
  refine ⟨fun l hl => ?_, ?_⟩
  · show upd (mB M) (9 * i + 8) x (9 * i + l) = _
    rw [pk_un (by omega), pk_un (by omega)]; exact h.1 l hl
  · show upd (mB M) (9 * i + 8) x (9 * i + 8) = _
    rw [pk_us, pk_us]
/-- what comes into a tank -/
def pourR (r : Nat → Int32) (x y : Int32) : Nat → Int32 := upd (upd (upd r 7 (r 7 + qmax 0 (r 3 + x - 200))) 3 (qmin 200 (r 3 + x))) 4 (qmin 99 (r 4 + y))
theorem pourR_c {r q : Nat → Int32} (h : RE r q) (x y : Int32) : RE (pourR r x y) (pourR q x y) := by
  unfold pourR
  rw [h 7 (by decide), h 3 (by decide), h 4 (by decide)]
  exact ((h.up _ _).up _ _).up _ _
theorem pour_row {M : QMs} {i : Nat} {x y : Int32} : RE (rowA (mPour M i x y) i) (pourR (rowA M i) x y) := by
  unfold mPour pourR
  simp only []
  have h1 := setT_row (M := M) (i := i) (x := mA M (8 * i + 7) + qmax 0 (mA M (8 * i + 3) + x - 200)) (show 7 < 8 by decide)
  have h2 := (setT_row (M := mSetT M i 7 (mA M (8 * i + 7) + qmax 0 (mA M (8 * i + 3) + x - 200))) (i := i) (x := qmin 200 (mA M (8 * i + 3) + x)) (show 3 < 8 by decide)).tr (h1.up 3 _)
  refine (setT_row (by decide)).tr ?_
  have e4 : mA (mSetT (mSetT M i 7 (mA M (8 * i + 7) + qmax 0 (mA M (8 * i + 3) + x - 200))) i 3 (qmin 200 (mA M (8 * i + 3) + x))) (8 * i + 4) = mA M (8 * i + 4) := (h2 4 (by decide)).trans (by rw [pk_un (by decide), pk_un (by decide)])
  rw [e4]
  exact h2.up 4 _
theorem pour_ne {M : QMs} {i j : Nat} {x y : Int32} (hj : j ≠ i) : RE (rowA (mPour M i x y) j) (rowA M j) := by
  unfold mPour
  simp only []
  exact (setT_ne (by decide) hj).tr ((setT_ne (by decide) hj).tr (setT_ne (by decide) hj))
/-- the bounds of a tank's row: D days gone -/
def TI (D : Nat) (r : Nat → Int32) : Prop := (0 ≤ (r 0).toInt ∧ (r 0).toInt ≤ 99) ∧ (0 ≤ (r 1).toInt ∧ (r 1).toInt ≤ 20) ∧ (0 ≤ (r 2).toInt ∧ (r 2).toInt ≤ 20) ∧ (0 ≤ (r 3).toInt ∧ (r 3).toInt ≤ 200) ∧ (0 ≤ (r 4).toInt ∧ (r 4).toInt ≤ 99) ∧ (0 ≤ (r 6).toInt ∧ (r 6).toInt ≤ 20 * D)
def PI (p : Nat → Int32) : Prop := (1 ≤ (p 2).toInt ∧ (p 2).toInt ≤ 20) ∧ (0 ≤ (p 3).toInt ∧ (p 3).toInt ≤ 60) ∧ (0 ≤ (p 4).toInt ∧ (p 4).toInt ≤ 20) ∧ (0 ≤ (p 9).toInt ∧ (p 9).toInt ≤ 9)
theorem TI.mono {D E : Nat} {r : Nat → Int32} (h : TI D r) (hD : D ≤ E) : TI E r := by
  obtain ⟨h0, h1, h2, h3, h4, h6⟩ := h
  exact ⟨h0, h1, h2, h3, h4, h6.1, by omega⟩
/-- water that comes: in both ways of reckoning -/
theorem w_val {w x : Int32} (hw : 0 ≤ w.toInt ∧ w.toInt ≤ 200) (hx : 0 ≤ x.toInt ∧ x.toInt ≤ 200) : w + x - qmax 0 (w + x - 200) = qmin 200 (w + x) ∧ 0 ≤ (qmin 200 (w + x)).toInt ∧ (qmin 200 (w + x)).toInt ≤ 200 := by
  have e1 : (w + x).toInt = w.toInt + x.toInt := i_add (by omega) (by omega)
  have e2 : (w + x - 200).toInt = w.toInt + x.toInt - 200 := by rw [i_sub, e1, i_200] <;> rw [e1, i_200] <;> omega
  have e3 := i_max 0 (w + x - 200)
  rw [e2, i_0] at e3
  have e4 := i_min 200 (w + x)
  rw [e1, i_200] at e4
  have e5 : (w + x - qmax 0 (w + x - 200)).toInt = (w + x).toInt - (qmax 0 (w + x - 200)).toInt := by
    apply i_sub <;> rw [e1, e3] <;> split <;> omega
  refine ⟨i_eq ?_, ?_, ?_⟩
  · rw [e5, e1, e3, e4]; split <;> split <;> omega
  · rw [e4]; split <;> omega
  · rw [e4]; split <;> omega
theorem m_val {w x : Int32} (hw : 0 ≤ w.toInt ∧ w.toInt ≤ 99) (hx : 0 ≤ x.toInt ∧ x.toInt ≤ 200) : 0 ≤ (qmin 99 (w + x)).toInt ∧ (qmin 99 (w + x)).toInt ≤ 99 := by
  have e1 : (w + x).toInt = w.toInt + x.toInt := i_add (by omega) (by omega)
  have e4 := i_min 99 (w + x)
  rw [e1, i_99] at e4
  rw [e4]; constructor <;> split <;> omega
theorem take_pour {r : Nat → Int32} {x y : Int32} (hw : 0 ≤ (r 3).toInt ∧ (r 3).toInt ≤ 200) (hx : 0 ≤ x.toInt ∧ x.toInt ≤ 200) : takeM (takeW r x) y = pourR r x y := by
  unfold takeM takeW pourR
  rw [(w_val hw hx).1, pk_un (show 7 ≠ 3 by decide), pk_un (show 4 ≠ 7 by decide), pk_un (show 4 ≠ 3 by decide)]
  congr 1
  funext j
  by_cases e7 : j = 7
  · subst e7; rw [pk_us, pk_un (by decide), pk_us]
  · by_cases e3 : j = 3
    · subst e3; rw [pk_un (by decide), pk_us, pk_us]
    · rw [pk_un e7, pk_un e3, pk_un e3, pk_un e7]
theorem takeMW {r : Nat → Int32} {x y : Int32} : takeW (takeM r y) x = takeM (takeW r x) y := by
  unfold takeM takeW
  rw [pk_un (show 3 ≠ 4 by decide), pk_un (show 4 ≠ 7 by decide), pk_un (show 4 ≠ 3 by decide)]
  funext j
  by_cases e7 : j = 7
  · subst e7; rw [pk_us, pk_un (show 7 ≠ 4 by decide), pk_us, pk_un (show 7 ≠ 3 by decide), pk_un (show 7 ≠ 4 by decide), pk_un (show 7 ≠ 3 by decide)]
  · by_cases e3 : j = 3
    · subst e3; rw [pk_un (by decide), pk_us, pk_un (show 3 ≠ 4 by decide), pk_un (by decide), pk_us]
    · by_cases e4 : j = 4
      · subst e4; rw [pk_un (by decide), pk_un (by decide), pk_us, pk_us]
      · rw [pk_un e7, pk_un e3, pk_un e4, pk_un e4, pk_un e7, pk_un e3]
theorem pour_ti {D : Nat} {r : Nat → Int32} {x y : Int32} (h : TI D r) (hx : 0 ≤ x.toInt ∧ x.toInt ≤ 200) (hy : 0 ≤ y.toInt ∧ y.toInt ≤ 200) : TI D (pourR r x y) := by
  obtain ⟨h0, h1, h2, h3, h4, h6⟩ := h
  unfold pourR TI
  simp only [pk_us, pk_un (show (0 : Nat) ≠ 4 by decide), pk_un (show (0 : Nat) ≠ 3 by decide), pk_un (show (0 : Nat) ≠ 7 by decide), pk_un (show (1 : Nat) ≠ 4 by decide), pk_un (show (1 : Nat) ≠ 3 by decide), pk_un (show (1 : Nat) ≠ 7 by decide), pk_un (show (2 : Nat) ≠ 4 by decide), pk_un (show (2 : Nat) ≠ 3 by decide), pk_un (show (2 : Nat) ≠ 7 by decide), pk_un (show (3 : Nat) ≠ 4 by decide), pk_un (show (6 : Nat) ≠ 4 by decide), pk_un (show (6 : Nat) ≠ 3 by decide), pk_un (show (6 : Nat) ≠ 7 by decide)]
  exact ⟨h0, h1, h2, (w_val h3 hx).2, m_val h4 hy, h6⟩
end
section
/-! PART 42: the relation, and one step of each kind -/
def RR (D : Nat) (S : QLs) (M : QMs) : Prop := LOk S ∧ mt_ M = qt S ∧ mp_ M = qp S ∧ mY M 0 = qD S ∧ (∀ i, i < qt S → RE (rowA M i) (qT S i)) ∧ (∀ k, k < qp S → PE (rowB M k) (qP S k)) ∧ (∀ i, i < qt S → TI D (qT S i)) ∧ (∀ k, k < qp S → PI (qP S k))
theorem RR.mono {D E : Nat} {S : QLs} {M : QMs} (h : RR D S M) (hD : D ≤ E) : RR E S M := ⟨h.1, h.2.1, h.2.2.1, h.2.2.2.1, h.2.2.2.2.1, h.2.2.2.2.2.1, fun i hi => (h.2.2.2.2.2.2.1 i hi).mono hD, h.2.2.2.2.2.2.2⟩
theorem RR.f0 {D : Nat} {S : QLs} {M : QMs} (h : RR D S M) {k : Nat} (hk : k < qp S) : mf M k = qf S k ∧ mo M k = qo S k := by
  obtain ⟨-, -, -, -, -, hP, -, -⟩ := h
  have h0 : mB M (9 * k + 0) = qP S k 0 := (hP k hk).1 0 (by decide)
  have h1 : mB M (9 * k + 1) = qP S k 1 := (hP k hk).1 1 (by decide)
  unfold mf mo qf qo
  rw [h0, h1]; exact ⟨rfl, rfl⟩
theorem RR.mok {D : Nat} {S : QLs} {M : QMs} (h : RR D S M) : MOk M := by
  have hf := fun k hk => RR.f0 h (k := k) hk
  obtain ⟨⟨h1, h2, h3⟩, e1, e2, -, -, hP, -, -⟩ := h
  refine ⟨by omega, by omega, fun k hk => ?_⟩
  have hk2 : k < qp S := by omega
  obtain ⟨a1, a2, a3, a4, a5⟩ := h3 k hk2
  rw [(hf k hk2).1, (hf k hk2).2, e1]
  exact ⟨a1, a2, a3, ((hP k hk2).1 0 (by decide)).trans a4, ((hP k hk2).1 1 (by decide)).trans a5⟩
theorem RR.at_ {D : Nat} {S : QLs} {M : QMs} (h : RR D S M) {i k : Nat} (hi : i < qt S) (hk : k < 8) : mA M (8 * i + k) = qT S i k := h.2.2.2.2.1 i hi k hk
theorem RR.bt_ {D : Nat} {S : QLs} {M : QMs} (h : RR D S M) {i k : Nat} (hi : i < qp S) (hk : k < 8) : mB M (9 * i + k) = qP S i k := (h.2.2.2.2.2.1 i hi).1 k hk
theorem RR.tap {D : Nat} {S : QLs} {M : QMs} (h : RR D S M) {i : Nat} (hi : i < qp S) : mB M (9 * i + 8) = qP S i 9 := (h.2.2.2.2.2.1 i hi).2
theorem RR.setT {D : Nat} {S : QLs} {M M2 : QMs} (h : RR D S M) {i : Nat} {r : Nat → Int32} (ht : mt_ M2 = mt_ M) (hp : mp_ M2 = mp_ M) (hY : mY M2 = mY M) (hB : mB M2 = mB M) (hr : RE (rowA M2 i) r) (hne : ∀ j, j ≠ i → RE (rowA M2 j) (rowA M j)) (hti : TI D r) : RR D (sT S i r) M2 := by
  obtain ⟨h1, h2, h3, h4, h5, h6, h7, h8⟩ := h
  refine ⟨(shp_sT (S := S) (i := i) (r := r)).ok h1, ht.trans h2, hp.trans h3, by rw [hY]; exact h4, fun j hj => ?_, fun k hk => by rw [show rowB M2 k = rowB M k from by unfold rowB; rw [hB]]; exact h6 k hk, fun j hj => ?_, h8⟩
  · by_cases e : j = i
    · subst e; rw [qT_sT]; exact hr
    · rw [qT_sTn _ _ e]; exact (hne j e).tr (h5 j hj)
  · by_cases e : j = i
    · subst e; rw [qT_sT]; exact hti
    · rw [qT_sTn _ _ e]; exact h7 j hj
theorem RR.setP {D : Nat} {S : QLs} {M M2 : QMs} (h : RR D S M) {i : Nat} {r : Nat → Int32} (ht : mt_ M2 = mt_ M) (hp : mp_ M2 = mp_ M) (hY : mY M2 = mY M) (hB : mA M2 = mA M) (hr : PE (rowB M2 i) r) (hne : ∀ j q, j ≠ i → PE (rowB M j) q → PE (rowB M2 j) q) (hti : PI r) (h01 : r 0 = qP S i 0 ∧ r 1 = qP S i 1) : RR D (sP S i r) M2 := by
  obtain ⟨h1, h2, h3, h4, h5, h6, h7, h8⟩ := h
  have hs : Shp S (sP S i r) := by
    refine ⟨rfl, rfl, fun k => ?_⟩
    by_cases e : k = i
    · subst e; rw [qP_sP]; exact h01
    · rw [qP_sPn _ _ e]; exact ⟨rfl, rfl⟩
  refine ⟨hs.ok h1, ht.trans h2, hp.trans h3, by rw [hY]; exact h4, fun j hj => by rw [show rowA M2 j = rowA M j from by unfold rowA; rw [hB]]; exact h5 j hj, fun j hj => ?_, h7, fun j hj => ?_⟩
  · by_cases e : j = i
    · subst e; rw [qP_sP]; exact hr
    · rw [qP_sPn _ _ e]; exact hne j _ e (h6 j hj)
  · by_cases e : j = i
    · subst e; rw [qP_sP]; exact hti
    · rw [qP_sPn _ _ e]; exact h8 j hj
theorem i_quart {a : Int32} (h : 0 ≤ a.toInt ∧ a.toInt ≤ 20) : 0 ≤ (a / 4).toInt ∧ (a / 4).toInt ≤ 5 := by
  rw [i_div h.1 (by decide), show (4 : Int32).toInt = 4 by decide]; omega
theorem s_feed {D : Nat} {S : QLs} {M : QMs} (h : RR D S M) {i : Nat} (hi : i < qt S) : RR D (feedF i S) (mfeedF i M) := by
  have hT := h.2.2.2.2.2.2.1 i hi
  have e1 := h.at_ hi (show 1 < 8 by decide)
  have hb := i_quart hT.2.1
  have hf : feedR (qT S i) = pourR (qT S i) (qT S i 1) (qT S i 1 / 4) := by
    unfold feedR
    rw [show takeW (qT S i) (qT S i 1) 1 = qT S i 1 from by unfold takeW; rw [pk_un (by decide), pk_un (by decide)]]
    exact take_pour hT.2.2.2.1 ⟨hT.2.1.1, by have := hT.2.1.2; omega⟩
  show RR D (sT S i (feedR (qT S i))) (mPour M i (mA M (8 * i + 1)) (mA M (8 * i + 1) / 4))
  rw [hf, e1]
  exact h.setT rfl rfl rfl rfl (pour_row.tr (pourR_c (h.2.2.2.2.1 i hi) _ _)) (fun j hj => pour_ne hj) (pour_ti hT ⟨hT.2.1.1, by have := hT.2.1.2; omega⟩ ⟨hb.1, by omega⟩)
theorem s_crust {D : Nat} {S : QLs} {M : QMs} (h : RR D S M) {k : Nat} (hk : k < qp S) : RR D (crustF k S) (mcrustF k M) := by
  show RR D (crustL S k) (mcrust M k)
  unfold crustL mcrust
  rw [h.bt_ hk (show 5 < 8 by decide), h.bt_ hk (show 4 < 8 by decide)]
  split
  · exact h
  · have hP := h.2.2.2.2.2.2.2 k hk
    refine h.setP rfl rfl rfl rfl (setP_row (by decide) (h.2.2.2.2.2.1 k hk)) (fun j q hj hq => setP_ne (by decide) hj hq) ?_ ⟨pk_un (by decide), pk_un (by decide)⟩
    unfold PI
    rw [pk_us, pk_un (show 2 ≠ 4 by decide), pk_un (show 3 ≠ 4 by decide), pk_un (show 9 ≠ 4 by decide)]
    refine ⟨hP.1, hP.2.1, ?_, hP.2.2.2⟩
    have h4 := hP.2.2.1
    have e1 : (qP S k 4 + 1).toInt = (qP S k 4).toInt + 1 := i_add (by rw [show (1 : Int32).toInt = 1 by decide]; omega) (by rw [show (1 : Int32).toInt = 1 by decide]; omega)
    have e2 := i_min 20 (qP S k 4 + 1)
    rw [e1, show (20 : Int32).toInt = 20 by decide] at e2
    rw [e2]; constructor <;> split <;> omega
/-- what a row's tank drinks -/
theorem s_drink {D : Nat} {S : QLs} {M : QMs} (h : RR (D + 1) S M) (hD : D < 1000000) {i : Nat} (hi : i < qt S) (hT : TI D (qT S i)) : RR (D + 1) (drinkF i S) (mdrinkF i M) ∧ (drinkR (qT S i) 5).toInt ≤ (drinkR (qT S i) 2).toInt := by
  have e2 := h.at_ hi (show 2 < 8 by decide)
  have e3 := h.at_ hi (show 3 < 8 by decide)
  have e4 := h.at_ hi (show 4 < 8 by decide)
  obtain ⟨t0, t1, t2, t3, t4, t6⟩ := hT
  obtain ⟨v, ev⟩ : ∃ v, v = (if qT S i 4 < 50 then qT S i 2 else qT S i 2 / 2) := ⟨_, rfl⟩
  have hv : 0 ≤ v.toInt ∧ v.toInt ≤ (qT S i 2).toInt := by
    rw [ev]
    split
    · exact ⟨t2.1, Int.le_refl _⟩
    · rw [i_div t2.1 (by decide), show (2 : Int32).toInt = 2 by decide]; omega
  have ex := i_min v (qT S i 3)
  have hx : 0 ≤ (qmin v (qT S i 3)).toInt ∧ (qmin v (qT S i 3)).toInt ≤ (qT S i 2).toInt ∧ (qmin v (qT S i 3)).toInt ≤ (qT S i 3).toInt := by rw [ex]; refine ⟨?_, ?_, ?_⟩ <;> split <;> omega
  have hc : drinkR (qT S i) = upd (upd (upd (qT S i) 3 (qT S i 3 - qmin v (qT S i 3))) 5 (qmin v (qT S i 3))) 6 (qT S i 6 + qmin v (qT S i 3)) := by
    unfold drinkR
    simp only []
    rw [← ev, pk_un (show 6 ≠ 5 by decide), pk_un (show 6 ≠ 3 by decide)]
  have hm : mdrink M i = mSetT (mSetT (mSetT M i 3 (qT S i 3 - qmin v (qT S i 3))) i 5 (qmin v (qT S i 3))) i 6 (qT S i 6 + qmin v (qT S i 3)) := by
    unfold mdrink
    simp only []
    rw [e2, e3, e4, ← ev]
    congr 2
    show upd (upd (mA M) (8 * i + 3) _) (8 * i + 5) _ (8 * i + 6) = _
    rw [pk_un (by omega), pk_un (by omega)]
    exact h.at_ hi (show 6 < 8 by decide)
  show RR (D + 1) (sT S i (drinkR (qT S i))) (mdrink M i) ∧ _
  rw [hc, hm]
  refine ⟨h.setT rfl rfl rfl rfl ((setT_row (by decide)).tr (((setT_row (by decide)).tr (((setT_row (by decide)).tr ((h.2.2.2.2.1 i hi).up _ _)).up _ _)).up _ _)) (fun j hj => (setT_ne (by decide) hj).tr ((setT_ne (by decide) hj).tr (setT_ne (by decide) hj))) ?_, ?_⟩
  · unfold TI
    simp only [pk_us, pk_un (show (0 : Nat) ≠ 6 by decide), pk_un (show (0 : Nat) ≠ 5 by decide), pk_un (show (0 : Nat) ≠ 3 by decide), pk_un (show (1 : Nat) ≠ 6 by decide), pk_un (show (1 : Nat) ≠ 5 by decide), pk_un (show (1 : Nat) ≠ 3 by decide), pk_un (show (2 : Nat) ≠ 6 by decide), pk_un (show (2 : Nat) ≠ 5 by decide), pk_un (show (2 : Nat) ≠ 3 by decide), pk_un (show (3 : Nat) ≠ 6 by decide), pk_un (show (3 : Nat) ≠ 5 by decide), pk_un (show (4 : Nat) ≠ 6 by decide), pk_un (show (4 : Nat) ≠ 5 by decide), pk_un (show (4 : Nat) ≠ 3 by decide)]
    have a3 : (qT S i 3 - qmin v (qT S i 3)).toInt = (qT S i 3).toInt - (qmin v (qT S i 3)).toInt := i_sub (by omega) (by omega)
    have a6 : (qT S i 6 + qmin v (qT S i 3)).toInt = (qT S i 6).toInt + (qmin v (qT S i 3)).toInt := i_add (by omega) (by omega)
    exact ⟨t0, t1, t2, by rw [a3]; omega, t4, by rw [a6]; omega⟩
  · rw [pk_un (by decide), pk_us, pk_un (by decide), pk_un (by decide), pk_un (by decide)]
    exact hx.2.1
end
section
/-! PART 43: what flows -/
theorem i_10 : (10 : Int32).toInt = 10 := by decide
theorem i_1 : (1 : Int32).toInt = 1 := by decide
theorem i_20 : (20 : Int32).toInt = 20 := by decide
theorem head_val {D : Nat} {r : Nat → Int32} (h : TI D r) : (headR r).toInt = 10 * (r 0).toInt + (r 3).toInt := by
  obtain ⟨t0, -, -, t3, -, -⟩ := h
  unfold headR
  have e1 : (10 * r 0).toInt = 10 * (r 0).toInt := by rw [i_mul, i_10] <;> rw [i_10] <;> omega
  rw [i_add, e1] <;> rw [e1] <;> omega
theorem RR.head {D : Nat} {S : QLs} {M : QMs} (h : RR D S M) {i : Nat} (hi : i < qt S) : mhead M i = headR (qT S i) := by
  unfold mhead headR
  rw [h.at_ hi (by decide), h.at_ hi (by decide)]
/-- what can flow, both ways; its bounds -/
theorem can_val {D : Nat} {S : QLs} {M : QMs} (h : RR D S M) {k : Nat} (hk : k < qp S) : mflows M k = canF S k ∧ 0 ≤ (canF S k).toInt ∧ (canF S k).toInt ≤ 20 ∧ (canF S k).toInt ≤ (qT S (qf S k) 3).toInt := by
  obtain ⟨hf, ht, -, -, -⟩ := h.1.2.2 k hk
  have hF := h.2.2.2.2.2.2.1 _ hf
  have hT := h.2.2.2.2.2.2.1 _ ht
  have hP := h.2.2.2.2.2.2.2 k hk
  have hw := hF.2.2.2.1
  have d1 : (headR (qT S (qf S k)) - headR (qT S (qo S k))).toInt = (headR (qT S (qf S k))).toInt - (headR (qT S (qo S k))).toInt := by
    have a0 := hF.1; have b0 := hT.1; have b3 := hT.2.2.2.1
    apply i_sub <;> rw [head_val hF, head_val hT] <;> omega
  rw [head_val hF, head_val hT] at d1
  have em : mflows M k = (if headR (qT S (qf S k)) - headR (qT S (qo S k)) ≤ 0 then 0 else if qP S k 3 ≤ headR (qT S (qf S k)) - headR (qT S (qo S k)) then qmin (qT S (qf S k) 3) (qmin ((headR (qT S (qf S k)) - headR (qT S (qo S k))) / 10 + 1) (qmax 0 (qP S k 2 - qP S k 4))) else 0) := by
    unfold mflows
    simp only []
    rw [(h.f0 hk).1, (h.f0 hk).2, h.head hf, h.head ht, h.bt_ hk (show 3 < 8 by decide), h.bt_ hk (show 2 < 8 by decide), h.bt_ hk (show 4 < 8 by decide), h.at_ hf (show 3 < 8 by decide)]
  have ec : canF S k = (if headR (qT S (qf S k)) - headR (qT S (qo S k)) ≤ 0 then 0 else if qP S k 3 ≤ headR (qT S (qf S k)) - headR (qT S (qo S k)) then qmin (qmin (qmax 0 (qP S k 2 - qP S k 4)) ((headR (qT S (qf S k)) - headR (qT S (qo S k))) / 10 + 1)) (qT S (qf S k) 3) else 0) := rfl
  rw [em, ec]
  generalize headR (qT S (qf S k)) - headR (qT S (qo S k)) = d at d1
  by_cases c1 : d ≤ 0
  · rw [if_pos c1, if_pos c1, i_0]; exact ⟨rfl, by omega, by omega, by omega⟩
  · rw [if_neg c1, if_neg c1]
    by_cases c2 : qP S k 3 ≤ d
    · rw [if_pos c2, if_pos c2]
      have c3 : 0 < d.toInt := by
        have := Int32.lt_iff_toInt_lt.mp (Int32.not_le.mp c1)
        rw [i_0] at this; exact this
      have a0 := hF.1; have b0 := hT.1; have b3 := hT.2.2.2.1
      have e5 : (d / 10).toInt = d.toInt / 10 := by rw [i_div (by omega) (by decide), i_10]
      have e6 : (d / 10 + 1).toInt = d.toInt / 10 + 1 := by rw [i_add, e5, i_1] <;> rw [e5, i_1] <;> omega
      have p2 := hP.1; have p4 := hP.2.2.1
      have e7 : (qP S k 2 - qP S k 4).toInt = (qP S k 2).toInt - (qP S k 4).toInt := i_sub (by omega) (by omega)
      have e8 := i_max 0 (qP S k 2 - qP S k 4)
      rw [e7, i_0] at e8
      have e9 := i_min (qmax 0 (qP S k 2 - qP S k 4)) (d / 10 + 1)
      have e10 := i_min (d / 10 + 1) (qmax 0 (qP S k 2 - qP S k 4))
      have e11 := i_min (qmin (qmax 0 (qP S k 2 - qP S k 4)) (d / 10 + 1)) (qT S (qf S k) 3)
      have e12 := i_min (qT S (qf S k) 3) (qmin (d / 10 + 1) (qmax 0 (qP S k 2 - qP S k 4)))
      rw [e6] at e9 e10
      rw [e9] at e11
      rw [e10] at e12
      have hm : 0 ≤ (qmax 0 (qP S k 2 - qP S k 4)).toInt ∧ (qmax 0 (qP S k 2 - qP S k 4)).toInt ≤ 20 := by rw [e8]; constructor <;> split <;> omega
      generalize (qmax 0 (qP S k 2 - qP S k 4)).toInt = a at e11 e12 hm
      refine ⟨i_eq ?_, ?_, ?_, ?_⟩
      · rw [e11, e12]; split <;> split <;> split <;> split <;> omega
      · rw [e11]; split <;> split <;> omega
      · rw [e11]; split <;> split <;> omega
      · rw [e11]; split <;> split <;> omega
    · rw [if_neg c2, if_neg c2, i_0]; exact ⟨rfl, by omega, by omega, by omega⟩
theorem i_mudv {m x w : Int32} (hm : 0 ≤ m.toInt ∧ m.toInt ≤ 99) (hx : 0 ≤ x.toInt ∧ x.toInt ≤ 20 ∧ x.toInt ≤ w.toInt) (hw : 0 < w.toInt) : 0 ≤ (m * x / w).toInt ∧ (m * x / w).toInt ≤ m.toInt := by
  have a1 : 0 ≤ m.toInt * x.toInt := Int.mul_nonneg hm.1 hx.1
  have a2 : m.toInt * x.toInt ≤ 99 * 20 := Int.le_trans (Int.mul_le_mul_of_nonneg_right hm.2 hx.1) (Int.mul_le_mul_of_nonneg_left hx.2.1 (by decide))
  have e1 : (m * x).toInt = m.toInt * x.toInt := i_mul (by omega) (by omega)
  rw [i_div (by rw [e1]; exact a1) hw, e1]
  refine ⟨Int.ediv_nonneg a1 (by omega), ?_⟩
  exact Int.ediv_le_of_le_mul hw (Int.mul_le_mul_of_nonneg_left hx.2.2 hm.1)
theorem qmin_comm (a b : Int32) : qmin a b = qmin b a := i_eq (by rw [i_min, i_min]; split <;> split <;> omega)
theorem pour0 {r : Nat → Int32} (hw : 0 ≤ (r 3).toInt ∧ (r 3).toInt ≤ 200) (hm : 0 ≤ (r 4).toInt ∧ (r 4).toInt ≤ 99) : pourR r 0 0 = r := by
  have e0 : ∀ y : Int32, y + 0 = y := fun y => by simp
  unfold pourR
  have e1 : (r 3 + 0 - 200).toInt = (r 3).toInt - 200 := by rw [e0]; rw [i_sub, i_200] <;> rw [i_200] <;> omega
  have e2 : qmax 0 (r 3 + 0 - 200) = 0 := i_eq (by rw [i_max, e1, i_0]; split <;> omega)
  have e3 : qmin 200 (r 3 + 0) = r 3 := i_eq (by rw [i_min, e0, i_200]; split <;> omega)
  have e4 : qmin 99 (r 4 + 0) = r 4 := i_eq (by rw [i_min, e0, i_99]; split <;> omega)
  rw [e2, e3, e4, e0]
  funext j
  by_cases h4 : j = 4
  · subst h4; rw [pk_us]
  · rw [pk_un h4]
    by_cases h3 : j = 3
    · subst h3; rw [pk_us]
    · rw [pk_un h3]
      by_cases h7 : j = 7
      · subst h7; rw [pk_us]
      · rw [pk_un h7]
/-- a pipe's row behind its flow -/
def flowP (p : Nat → Int32) (x y : Int32) : Nat → Int32 := upd (upd (upd p 5 x) 6 y) 7 (p 7 + y)
theorem flow_P {S : QLs} {k : Nat} : ∃ S3, flowL S k = sP (sP (sP S3 k (upd (qP S3 k) 5 (canF S k))) k (upd (upd (qP S3 k) 5 (canF S k)) 6 (qmin (qP S k 9) (canF S k)))) k (upd (upd (upd (qP S3 k) 5 (canF S k)) 6 (qmin (qP S k 9) (canF S k))) 7 (upd (upd (qP S3 k) 5 (canF S k)) 6 (qmin (qP S k 9) (canF S k)) 7 + qmin (qP S k 9) (canF S k)))
    ∧ S3 = sT (sT (wander S (qf S k) (qo S k) (canF S k)) (qf S k) (upd (qT (wander S (qf S k) (qo S k) (canF S k)) (qf S k)) 3 (qT (wander S (qf S k) (qo S k) (canF S k)) (qf S k) 3 - canF S k))) (qo S k) (takeW (qT (sT (wander S (qf S k) (qo S k) (canF S k)) (qf S k) (upd (qT (wander S (qf S k) (qo S k) (canF S k)) (qf S k)) 3 (qT (wander S (qf S k) (qo S k) (canF S k)) (qf S k) 3 - canF S k))) (qo S k)) (canF S k - qmin (qP S k 9) (canF S k))) := by
  refine ⟨_, ?_, rfl⟩
  unfold flowL
  simp only [qP_sP]
theorem RR.mk2 {D E : Nat} {S S2 : QLs} {M M2 : QMs} (h : RR D S M) (hs : Shp S S2) (hD : mY M2 0 = qD S2) (ht : mt_ M2 = mt_ M) (hp : mp_ M2 = mp_ M) (hA : ∀ i, i < qt S → RE (rowA M2 i) (qT S2 i) ∧ TI E (qT S2 i)) (hB : ∀ k, k < qp S → PE (rowB M2 k) (qP S2 k) ∧ PI (qP S2 k)) : RR E S2 M2 :=
  ⟨hs.ok h.1, by rw [ht, hs.1]; exact h.2.1, by rw [hp, hs.2.1]; exact h.2.2.1, hD, fun i hi => (hA i (by rw [hs.1] at hi; exact hi)).1, fun k hk => (hB k (by rw [hs.2.1] at hk; exact hk)).1, fun i hi => (hA i (by rw [hs.1] at hi; exact hi)).2, fun k hk => (hB k (by rw [hs.2.1] at hk; exact hk)).2⟩
theorem flow_c {S : QLs} {k : Nat} {x y : Int32} (hx : x = canF S k) (hy : y = qmin (qP S k 9) x) {W : QLs} (hW : W = wander S (qf S k) (qo S k) x) (ne : qo S k ≠ qf S k) :
    (∀ j, qT (flowL S k) j = if j = qo S k then takeW (qT W (qo S k)) (x - y) else if j = qf S k then upd (qT W (qf S k)) 3 (qT W (qf S k) 3 - x) else qT W j) ∧ (∀ j, qP (flowL S k) j = if j = k then upd (upd (upd (qP S k) 5 x) 6 y) 7 (upd (upd (qP S k) 5 x) 6 y 7 + y) else qP S j) ∧ qD (flowL S k) = qD S := by
  obtain ⟨S3, e1, e3⟩ := flow_P (S := S) (k := k)
  rw [← hx, ← hW, ← hy] at e3
  rw [← hx, ← hy] at e1
  have hPW : qP W = qP S ∧ qD W = qD S := by
    rw [hW]; unfold wander; split <;> exact ⟨rfl, rfl⟩
  have hP3 : qP S3 = qP S ∧ qD S3 = qD S := by rw [e3]; exact hPW
  have hT3 : ∀ j, qT S3 j = if j = qo S k then takeW (qT W (qo S k)) (x - y) else if j = qf S k then upd (qT W (qf S k)) 3 (qT W (qf S k) 3 - x) else qT W j := fun j => by
    rw [e3]
    by_cases h1 : j = qo S k
    · subst h1; rw [qT_sT, if_pos rfl, qT_sTn _ _ ne]
    · rw [qT_sTn _ _ h1, if_neg h1]
      by_cases h2 : j = qf S k
      · subst h2; rw [qT_sT, if_pos rfl]
      · rw [qT_sTn _ _ h2, if_neg h2]
  rw [hP3.1] at e1
  rw [e1]
  refine ⟨hT3, fun j => ?_, hP3.2⟩
  by_cases hj : j = k
  · subst hj; rw [qP_sP, if_pos rfl]
  · rw [qP_sPn _ _ hj, qP_sPn _ _ hj, qP_sPn _ _ hj, if_neg hj, hP3.1]
set_option maxHeartbeats 1000000 in
theorem s_flow {D : Nat} {S : QLs} {M : QMs} (h : RR D S M) {k : Nat} (hk : k < qp S) : RR D (flowF k S) (mflowF k M) := by
  show RR D (flowL S k) (mflow M k)
  obtain ⟨hf, ht, hne, -, -⟩ := h.1.2.2 k hk
  obtain ⟨hc1, hc2, hc3, hc4⟩ := can_val h hk
  have hF := h.2.2.2.2.2.2.1 _ hf
  have hT := h.2.2.2.2.2.2.1 _ ht
  have hP := h.2.2.2.2.2.2.2 k hk
  obtain ⟨x, ex⟩ : ∃ x, x = canF S k := ⟨_, rfl⟩
  obtain ⟨y, ey⟩ : ∃ y, y = qmin (qP S k 9) x := ⟨_, rfl⟩
  obtain ⟨W, eW⟩ : ∃ W, W = wander S (qf S k) (qo S k) x := ⟨_, rfl⟩
  obtain ⟨r1, r2, r3⟩ := flow_c ex ey eW (fun q => hne q.symm)
  rw [← ex] at hc1 hc2 hc3 hc4
  have hy : 0 ≤ y.toInt ∧ y.toInt ≤ x.toInt := by
    have hp9 := hP.2.2.2
    rw [ey, i_min]; constructor <;> split <;> omega
  have hxy : (x - y).toInt = x.toInt - y.toInt := i_sub (by omega) (by omega)
  obtain ⟨M3, e3⟩ : ∃ M3, M3 = mSetP (mSetP (mSetP M k 5 x) k 6 y) k 7 (mB (mSetP (mSetP M k 5 x) k 6 y) (9 * k + 7) + y) := ⟨_, rfl⟩
  have em : mflow M k = if x = 0 then M3 else mPour (mSetT (mSetT M3 (qf S k) 3 (mA M3 (8 * qf S k + 3) - x)) (qf S k) 4 (mA (mSetT M3 (qf S k) 3 (mA M3 (8 * qf S k + 3) - x)) (8 * qf S k + 4) - mA M3 (8 * qf S k + 4) * x / mA M3 (8 * qf S k + 3))) (qo S k) (x - y) (mA M3 (8 * qf S k + 4) * x / mA M3 (8 * qf S k + 3)) := by
    unfold mflow
    simp only []
    rw [hc1, qmin_comm x, h.tap hk, ← ey, (h.f0 hk).1, (h.f0 hk).2, ← e3]
  have p2 := setP_row (M := mSetP M k 5 x) (x := y) (show 6 < 8 by decide) (setP_row (M := M) (x := x) (show 5 < 8 by decide) (h.2.2.2.2.2.1 k hk))
  have p7 : mB (mSetP (mSetP M k 5 x) k 6 y) (9 * k + 7) = upd (upd (qP S k) 5 x) 6 y 7 := p2.1 7 (by decide)
  have p3 : PE (rowB M3 k) (upd (upd (upd (qP S k) 5 x) 6 y) 7 (upd (upd (qP S k) 5 x) 6 y 7 + y)) := by
    rw [e3, p7]; exact setP_row (by decide) p2
  have pn : ∀ j, j < qp S → j ≠ k → PE (rowB M3 j) (qP S j) := fun j hj hn => by
    rw [e3]; exact setP_ne (by decide) hn (setP_ne (by decide) hn (setP_ne (by decide) hn (h.2.2.2.2.2.1 j hj)))
  have aM : mA M3 = mA M ∧ mt_ M3 = mt_ M ∧ mp_ M3 = mp_ M ∧ mY M3 = mY M := by rw [e3]; exact ⟨rfl, rfl, rfl, rfl⟩
  have hPI : ∀ j, j < qp S → PI (qP (flowL S k) j) := fun j hj => by
    rw [r2]
    by_cases hn : j = k
    · rw [if_pos hn]; unfold PI
      rw [pk_un (show 2 ≠ 7 by decide), pk_un (show 2 ≠ 6 by decide), pk_un (show 2 ≠ 5 by decide), pk_un (show 3 ≠ 7 by decide), pk_un (show 3 ≠ 6 by decide), pk_un (show 3 ≠ 5 by decide), pk_un (show 4 ≠ 7 by decide), pk_un (show 4 ≠ 6 by decide), pk_un (show 4 ≠ 5 by decide), pk_un (show 9 ≠ 7 by decide), pk_un (show 9 ≠ 6 by decide), pk_un (show 9 ≠ 5 by decide)]
      exact hP
    · rw [if_neg hn]; exact h.2.2.2.2.2.2.2 j hj
  have hwd : W = S ∨ 0 < qT S (qf S k) 3 := by
    by_cases c : 0 < qT S (qf S k) 3
    · exact Or.inr c
    · left; rw [eW]; unfold wander; rw [if_neg c]
  have hWr : 0 < qT S (qf S k) 3 → qT W (qf S k) = upd (qT S (qf S k)) 4 (qT S (qf S k) 4 - qT S (qf S k) 4 * x / qT S (qf S k) 3) ∧ qT W (qo S k) = takeM (qT S (qo S k)) (qT S (qf S k) 4 * x / qT S (qf S k) 3) ∧ ∀ j, j ≠ qf S k → j ≠ qo S k → qT W j = qT S j := fun c => by
    rw [eW]; unfold wander; rw [if_pos c]
    simp only []
    refine ⟨?_, ?_, fun j h1 h2 => ?_⟩
    · rw [qT_sTn _ _ hne, qT_sT]
    · rw [qT_sT, qT_sTn _ _ (fun q => hne q.symm)]
    · rw [qT_sTn _ _ h2, qT_sTn _ _ h1]
  have e0 : ∀ q : Int32, q - 0 = q := fun q => by simp
  by_cases cx : x = 0
  · -- nothing flows
    have y0 : y = 0 := i_eq (by rw [cx, i_0] at hy; rw [i_0]; omega)
    have hid : ∀ i, i < qt S → qT (flowL S k) i = qT S i := fun i hi => by
      rw [r1, cx, y0, e0, e0]
      have z0 : ∀ q : Int32, q * 0 = 0 := fun q => by simp
      rcases hwd with hw | c
      · rw [hw]
        by_cases h1 : i = qo S k
        · rw [if_pos h1, h1]
          have := pour0 hT.2.2.2.1 hT.2.2.2.2.1
          rw [← take_pour hT.2.2.2.1 (by rw [i_0]; omega)] at this
          have e5 : ∀ j, takeW (qT S (qo S k)) 0 j = qT S (qo S k) j := fun j => by
            by_cases h4 : j = 4
            · subst h4; unfold takeW; rw [pk_un (by decide), pk_un (by decide)]
            · rw [← congrFun this j]; unfold takeM; rw [pk_un h4]
          exact funext e5
        · rw [if_neg h1]
          by_cases h2 : i = qf S k
          · rw [if_pos h2, h2]; funext j
            by_cases h3 : j = 3
            · subst h3; rw [pk_us]
            · rw [pk_un h3]
          · rw [if_neg h2]
      · obtain ⟨w1, w2, w3⟩ := hWr c
        have v0 : qT S (qf S k) 4 * x / qT S (qf S k) 3 = 0 := by
          rw [cx, z0]
          have c3 := Int32.lt_iff_toInt_lt.mp c
          rw [i_0] at c3
          exact i_eq (by rw [i_div (by decide) c3, i_0]; simp)
        rw [v0] at w1 w2
        rw [e0] at w1
        by_cases h1 : i = qo S k
        · rw [if_pos h1, h1, w2, takeMW, take_pour hT.2.2.2.1 (by rw [i_0]; omega)]
          exact pour0 hT.2.2.2.1 hT.2.2.2.2.1
        · rw [if_neg h1]
          by_cases h2 : i = qf S k
          · rw [if_pos h2, h2, w1]; funext j
            by_cases h3 : j = 3
            · subst h3; rw [pk_us, pk_un (by decide)]
            · rw [pk_un h3]
              by_cases h4 : j = 4
              · subst h4; rw [pk_us]
              · rw [pk_un h4]
          · rw [if_neg h2]; exact w3 i h2 h1
    rw [em, if_pos cx]
    refine h.mk2 shp_flow (by rw [r3, aM.2.2.2]; exact h.2.2.2.1) aM.2.1 aM.2.2.1 (fun i hi => ?_) (fun j hj => ⟨?_, hPI j hj⟩)
    · rw [hid i hi]
      exact ⟨by unfold rowA; rw [aM.1]; exact h.2.2.2.2.1 i hi, h.2.2.2.2.2.2.1 i hi⟩
    · rw [r2]
      by_cases hn : j = k
      · rw [if_pos hn, hn]; exact p3
      · rw [if_neg hn]; exact pn j hj hn
  · -- something flows
    have x0 : 0 < x.toInt := by
      rcases Int.lt_or_eq_of_le hc2 with q | q
      · exact q
      · exact absurd (i_eq (by rw [i_0]; exact q.symm)) cx
    have c3 : 0 < (qT S (qf S k) 3).toInt := by omega
    have c : 0 < qT S (qf S k) 3 := Int32.lt_iff_toInt_lt.mpr (by rw [i_0]; exact c3)
    obtain ⟨w1, w2, w3⟩ := hWr c
    obtain ⟨v, ev⟩ : ∃ v, v = qT S (qf S k) 4 * x / qT S (qf S k) 3 := ⟨_, rfl⟩
    have hv : 0 ≤ v.toInt ∧ v.toInt ≤ (qT S (qf S k) 4).toInt := by
      rw [ev]; exact i_mudv hF.2.2.2.2.1 ⟨hc2, hc3, hc4⟩ c3
    rw [← ev] at w1 w2
    rw [em, if_neg cx, aM.1, h.at_ hf (show 3 < 8 by decide), h.at_ hf (show 4 < 8 by decide), ← ev]
    have q3 : RE (rowA M3 (qf S k)) (qT S (qf S k)) := by unfold rowA; rw [aM.1]; exact h.2.2.2.2.1 _ hf
    have q4 := (setT_row (M := M3) (i := qf S k) (x := qT S (qf S k) 3 - x) (show 3 < 8 by decide)).tr (q3.up 3 _)
    have e4 : mA (mSetT M3 (qf S k) 3 (qT S (qf S k) 3 - x)) (8 * qf S k + 4) = qT S (qf S k) 4 := (q4 4 (by decide)).trans (pk_un (by decide))
    rw [e4]
    have q5 := (setT_row (M := mSetT M3 (qf S k) 3 (qT S (qf S k) 3 - x)) (i := qf S k) (x := qT S (qf S k) 4 - v) (show 4 < 8 by decide)).tr (q4.up 4 _)
    refine h.mk2 shp_flow (by rw [r3]; show mY M3 0 = _; rw [aM.2.2.2]; exact h.2.2.2.1) aM.2.1 aM.2.2.1 (fun i hi => ?_) (fun j hj => ⟨?_, hPI j hj⟩)
    · rw [r1]
      by_cases h1 : i = qo S k
      · rw [if_pos h1, h1, w2, takeMW, take_pour hT.2.2.2.1 (by rw [hxy]; omega)]
        have hm := hF.2.2.2.2.1
        refine ⟨pour_row.tr (pourR_c ?_ _ _), pour_ti hT (by rw [hxy]; omega) ⟨hv.1, by omega⟩⟩
        refine (setT_ne (by decide) (fun q => hne q.symm)).tr ((setT_ne (by decide) (fun q => hne q.symm)).tr ?_)
        unfold rowA; rw [aM.1]; exact h.2.2.2.2.1 _ ht
      · rw [if_neg h1]
        by_cases h2 : i = qf S k
        · rw [if_pos h2, h2, w1, pk_un (show 3 ≠ 4 by decide)]
          have ec : upd (upd (qT S (qf S k)) 4 (qT S (qf S k) 4 - v)) 3 (qT S (qf S k) 3 - x) = upd (upd (qT S (qf S k)) 3 (qT S (qf S k) 3 - x)) 4 (qT S (qf S k) 4 - v) := by
            funext j
            by_cases h3 : j = 3
            · subst h3; rw [pk_us, pk_un (by decide), pk_us]
            · by_cases h4 : j = 4
              · subst h4; rw [pk_un (by decide), pk_us, pk_us]
              · rw [pk_un h3, pk_un h4, pk_un h4, pk_un h3]
          rw [ec]
          refine ⟨(pour_ne hne).tr q5, ?_⟩
          obtain ⟨t0, t1, t2, t3, t4, t6⟩ := hF
          have a3 : (qT S (qf S k) 3 - x).toInt = (qT S (qf S k) 3).toInt - x.toInt := i_sub (by omega) (by omega)
          have a4 : (qT S (qf S k) 4 - v).toInt = (qT S (qf S k) 4).toInt - v.toInt := i_sub (by omega) (by omega)
          unfold TI
          simp only [pk_us, pk_un (show (0 : Nat) ≠ 4 by decide), pk_un (show (0 : Nat) ≠ 3 by decide), pk_un (show (1 : Nat) ≠ 4 by decide), pk_un (show (1 : Nat) ≠ 3 by decide), pk_un (show (2 : Nat) ≠ 4 by decide), pk_un (show (2 : Nat) ≠ 3 by decide), pk_un (show (3 : Nat) ≠ 4 by decide), pk_un (show (6 : Nat) ≠ 4 by decide), pk_un (show (6 : Nat) ≠ 3 by decide)]
          exact ⟨t0, t1, t2, by rw [a3]; omega, by rw [a4]; omega, t6⟩
        · rw [if_neg h2, w3 i h2 h1]
          refine ⟨(pour_ne h1).tr ((setT_ne (by decide) h2).tr ((setT_ne (by decide) h2).tr ?_)), h.2.2.2.2.2.2.1 i hi⟩
          unfold rowA; rw [aM.1]; exact h.2.2.2.2.1 i hi
    · rw [r2]
      show PE (rowB M3 j) _
      by_cases hn : j = k
      · rw [if_pos hn, hn]; exact p3
      · rw [if_neg hn]; exact pn j hj hn
end
section
/-! PART 44: a day, days, what is told of all -/
theorem it_T {D : Nat} {f : Nat → QLs → QLs} {g : Nat → QMs → QMs} (hstep : ∀ i S M, RR D S M → i < qt S → RR D (f i S) (g i M)) (hs : ∀ i S, Shp S (f i S)) {S : QLs} {M : QMs} (h : RR D S M) : ∀ m, m ≤ qt S → RR D (itN f m S) (itN g m M)
  | 0, _ => h
  | m + 1, hm => hstep m _ _ (it_T hstep hs h m (by omega)) (by rw [(shp_it hs S m).1]; omega)
theorem it_P {D : Nat} {f : Nat → QLs → QLs} {g : Nat → QMs → QMs} (hstep : ∀ i S M, RR D S M → i < qp S → RR D (f i S) (g i M)) (hs : ∀ i S, Shp S (f i S)) {S : QLs} {M : QMs} (h : RR D S M) : ∀ m, m ≤ qp S → RR D (itN f m S) (itN g m M)
  | 0, _ => h
  | m + 1, hm => hstep m _ _ (it_P hstep hs h m (by omega)) (by rw [(shp_it hs S m).2.1]; omega)
theorem it_drink {D : Nat} {S : QLs} {M : QMs} (h : RR (D + 1) S M) (hD : D < 1000000) (hT : ∀ i, i < qt S → TI D (qT S i)) : ∀ m, m ≤ qt S → RR (D + 1) (itN drinkF m S) (itN mdrinkF m M) ∧ (∀ j, m ≤ j → qT (itN drinkF m S) j = qT S j) ∧ ∀ j, j < m → (qT (itN drinkF m S) j 5).toInt ≤ (qT (itN drinkF m S) j 2).toInt
  | 0, _ => ⟨h, fun _ _ => rfl, fun j hj => by omega⟩
  | m + 1, hm => by
    obtain ⟨a1, a2, a3⟩ := it_drink h hD hT m (by omega)
    have hq : m < qt (itN drinkF m S) := by rw [(shp_it (f := drinkF) (fun _ _ => shp_sT) S m).1]; omega
    have hs := s_drink a1 hD hq (by rw [a2 m (Nat.le_refl _)]; exact hT m (by omega))
    refine ⟨hs.1, fun j hj => ?_, fun j hj => ?_⟩
    · show qT (sT (itN drinkF m S) m _) j = _
      rw [qT_sTn _ _ (by omega)]; exact a2 j (by omega)
    · show (qT (sT (itN drinkF m S) m _) j 5).toInt ≤ (qT (sT (itN drinkF m S) m _) j 2).toInt
      by_cases e : j = m
      · subst e; rw [qT_sT]; exact hs.2
      · rw [qT_sTn _ _ e]; exact a3 j (by omega)
theorem s_day {D : Nat} {S : QLs} {M : QMs} (h : RR D S M) (hD : D < 1000000) : RR (D + 1) (dayL S) (mday M) ∧ ∀ i, i < qt S → (qT (dayL S) i 5).toInt ≤ (qT (dayL S) i 2).toInt := by
  unfold dayL mday
  simp only []
  have h1 : RR D (itN feedF (qt S) S) (itN mfeedF (mt_ M) M) := by
    rw [h.2.1]; exact it_T (f := feedF) (g := mfeedF) (fun i S M h hi => s_feed h hi) (fun _ _ => shp_sT) h _ (Nat.le_refl _)
  have t1 := (shp_it (f := feedF) (fun _ _ => shp_sT) S (qt S)).1
  generalize itN feedF (qt S) S = S1 at h1 t1
  generalize itN mfeedF (mt_ M) M = M1 at h1
  have h2 : RR D (itN flowF (qp S1) S1) (itN mflowF (mp_ M1) M1) := by
    rw [h1.2.2.1]; exact it_P (f := flowF) (g := mflowF) (fun i S M h hi => s_flow h hi) (fun _ _ => shp_flow) h1 _ (Nat.le_refl _)
  have t2 := (shp_it (f := flowF) (fun _ _ => shp_flow) S1 (qp S1)).1
  generalize itN flowF (qp S1) S1 = S2 at h2 t2
  generalize itN mflowF (mp_ M1) M1 = M2 at h2
  have h3 : RR D (if qD S2 - qD S2 / 4 * 4 = 0 then crustAll S2 else S2) (if mY M2 0 - mY M2 0 / 4 * 4 = 0 then itN mcrustF (mp_ M2) M2 else M2) ∧ qt (if qD S2 - qD S2 / 4 * 4 = 0 then crustAll S2 else S2) = qt S2 := by
    rw [h2.2.2.2.1]
    split
    · rw [h2.2.2.1]; exact ⟨it_P (f := crustF) (g := mcrustF) (fun i S M h hi => s_crust h hi) (fun _ _ => shp_crust) h2 _ (Nat.le_refl _), shp_crustAll.1⟩
    · exact ⟨h2, rfl⟩
  obtain ⟨h3, t3⟩ := h3
  generalize (if qD S2 - qD S2 / 4 * 4 = 0 then crustAll S2 else S2) = S3 at h3 t3
  generalize (if mY M2 0 - mY M2 0 / 4 * 4 = 0 then itN mcrustF (mp_ M2) M2 else M2) = M3 at h3
  obtain ⟨h4, -, h5⟩ := it_drink (h3.mono (Nat.le_succ D)) hD h3.2.2.2.2.2.2.1 (qt S3) (Nat.le_refl _)
  rw [h3.2.1]
  refine ⟨?_, fun i hi => h5 i (by omega)⟩
  generalize itN drinkF (qt S3) S3 = S4 at h4
  generalize itN mdrinkF (qt S3) M3 = M4 at h4
  obtain ⟨a1, a2, a3, a4, a5, a6, a7, a8⟩ := h4
  exact ⟨shp_sD.ok a1, a2, a3, by show upd (mY M4) 0 (mY M4 0 + 1) 0 = _; rw [pk_us, a4]; rfl, a5, a6, a7, a8⟩
theorem s_days {D : Nat} {S : QLs} {M : QMs} (h : RR D S M) : ∀ n, D + n < 1000000 → RR (D + n) (itN dayF n S) (itN mdayF n M)
  | 0, _ => h
  | n + 1, hn => (s_day (s_days h n (by omega)) (by omega)).1
theorem qsum_c {f g : Nat → Int32} : ∀ n, (∀ i, i < n → f i = g i) → qsum f n = qsum g n
  | 0, _ => rfl
  | n + 1, h => by
    show qsum f n + f n = qsum g n + g n
    rw [qsum_c n (fun i hi => h i (by omega)), h n (by omega)]
theorem RR.all {D : Nat} {S : QLs} {M : QMs} (h : RR D S M) {k : Nat} (hk : k < 8) : mall M k = sumT S k := by
  unfold mall sumT
  rw [h.2.1]; exact qsum_c _ (fun i hi => h.at_ hi hk)
theorem RR.allP {D : Nat} {S : QLs} {M : QMs} (h : RR D S M) {k : Nat} (hk : k < 8) : mallP M k = sumP S k := by
  unfold mallP sumP
  rw [h.2.2.1]; exact qsum_c _ (fun i hi => h.bt_ hi hk)
theorem RR.thc {D : Nat} {S : QLs} {M : QMs} (h : RR D S M) : ∀ n, n ≤ qt S → mthc M n = qthc S n
  | 0, _ => rfl
  | n + 1, hn => by
    show (if mA M (8 * n + 5) < mA M (8 * n + 2) then mthc M n + 1 else mthc M n + 0) = (if qT S n 5 < qT S n 2 then qthc S n + 1 else qthc S n)
    rw [h.thc n (by omega), h.at_ (by omega) (show 5 < 8 by decide), h.at_ (by omega) (show 2 < 8 by decide)]
    split
    · rfl
    · simp
theorem RR.count {D : Nat} {S : QLs} {M : QMs} (h : RR D S M) (k : Nat) : mcount M k = ofAllL S k := by
  match k with
  | 0 => exact h.2.2.2.1
  | 1 => show nI (mt_ M) = nI (qt S); rw [h.2.1]
  | 2 => show nI (mp_ M) = nI (qp S); rw [h.2.2.1]
  | 3 => exact h.all (by decide)
  | 4 => exact h.all (by decide)
  | 5 => exact h.all (by decide)
  | 6 => exact h.allP (by decide)
  | 7 => exact h.all (by decide)
  | n + 8 => show mthc M (mt_ M) = qthc S (qt S); rw [h.2.1]; exact h.thc _ (Nat.le_refl _)
theorem RR.told {D : Nat} {S : QLs} {M : QMs} (h : RR D S M) {k w : Nat} (hk : k < qp S) (hw : w < 9) : mtold M k w = ofPipeL S k w := by
  unfold mtold ofPipeL
  split
  · exact (can_val h hk).1
  · exact h.bt_ hk (by omega)
theorem qlong_c {f g : Nat → Int32} (d : Int64) : ∀ n, (∀ i, i < n → f i = g i) → qlong f n d = qlong g n d
  | 0, _ => rfl
  | n + 1, h => by
    show qlong f n d * 31 + (f n).toInt64 = qlong g n d * 31 + (g n).toInt64
    rw [qlong_c d n (fun i hi => h i (by omega)), h n (by omega)]
theorem RR.mean {D : Nat} {S : QLs} {M : QMs} (h : RR D S M) : mmean M = qmean S := by
  unfold mmean qmean
  rw [h.2.2.2.1, h.all (by decide)]
theorem RR.sus {D : Nat} {S : QLs} {M : QMs} (h : RR D S M) : ∀ n, n ≤ qp S → msus M n = (qsus S n).1 ∧ (if msus M n = -1 then (0 : Int32) else mB M (9 * (msus M n).toNatClampNeg + 6)) = (qsus S n).2
  | 0, _ => ⟨rfl, rfl⟩
  | n + 1, hn => by
    obtain ⟨h1, h2⟩ := h.sus n (by omega)
    have e : msus M (n + 1) = (if mB M (9 * n + 6) ≤ (if msus M n = -1 then (0 : Int32) else mB M (9 * (msus M n).toNatClampNeg + 6)) then msus M n else nI n) := rfl
    have e2 : qsus S (n + 1) = (if qP S n 6 ≤ (qsus S n).2 then qsus S n else (nI n, qP S n 6)) := rfl
    have hk := h.1.2.1
    rw [h2, h.bt_ (by omega) (show 6 < 8 by decide)] at e
    by_cases c : qP S n 6 ≤ (qsus S n).2
    · rw [if_pos c] at e e2
      rw [e, e2]; exact ⟨h1, h2⟩
    · rw [if_neg c] at e e2
      rw [e, e2, if_neg (q_nm1 (by omega)), nI_clamp (by omega)]
      exact ⟨rfl, h.bt_ (by omega) (by decide)⟩
end
section
/-! PART 45: foresee, advise, sated; what the keeper does -/
theorem RR.uh_ {D : Nat} {S : QLs} {M : QMs} (h : RR D S M) (x : Int32) : RR D S (uh M x) := h
theorem RR.copy {D : Nat} {S : QLs} {M : QMs} (h : RR D S M) (X : QLs) : RR D (copyL S X) M := by
  obtain ⟨c1, c2, c3, c4, c5⟩ := cpy_all S X
  obtain ⟨h1, h2, h3, h4, h5, h6, h7, h8⟩ := h
  exact ⟨lok_copy h1 X, h2.trans c1.symm, h3.trans c2.symm, h4.trans c3.symm, fun i hi => by rw [c1] at hi; rw [c4 i hi]; exact h5 i hi, fun i hi => by rw [c2] at hi; rw [c5 i hi]; exact h6 i hi, fun i hi => by rw [c1] at hi; rw [c4 i hi]; exact h7 i hi, fun i hi => by rw [c2] at hi; rw [c5 i hi]; exact h8 i hi⟩
theorem RR.fore {D n k : Nat} {S : QLs} {M : QMs} (h : RR D S M) (X : QLs) (hn : D + n < 1000000) : mfore M n k = qfore S (copyL S X) n k := by
  have h1 := s_days (h.copy X) n hn
  unfold mfore qfore
  rw [h1.all (show 6 < 8 by decide), h1.all (show 3 < 8 by decide), h1.allP (show 7 < 8 by decide), h1.allP (show 4 < 8 by decide), h.allP (show 7 < 8 by decide), (h.copy X).all (show 6 < 8 by decide)]
theorem RR.setAt {D : Nat} {S : QLs} {M : QMs} (h : RR D S M) {i k : Nat} {x : Int32} (hi : i < qt S) (hk : k < 8) (hT : TI D (upd (qT S i) k x)) : RR D (sT S i (upd (qT S i) k x)) (mSetT M i k x) :=
  h.setT rfl rfl rfl rfl ((setT_row hk).tr ((h.2.2.2.2.1 i hi).up _ _)) (fun j hj => setT_ne hk hj) hT
theorem RR.setPAt {D : Nat} {S : QLs} {M : QMs} (h : RR D S M) {i k : Nat} {x : Int32} (hi : i < qp S) (hk : k < 8) (hk2 : 2 ≤ k) (hP : PI (upd (qP S i) k x)) : RR D (sP S i (upd (qP S i) k x)) (mSetP M i k x) :=
  h.setP rfl rfl rfl rfl (setP_row hk (h.2.2.2.2.2.1 i hi)) (fun j q hj hq => setP_ne (by omega) hj hq) hP ⟨pk_un (by omega), pk_un (by omega)⟩
theorem qsum_b {f : Nat → Int32} {B : Int} (hB : 0 ≤ B ∧ B ≤ 100000000) : ∀ n, n ≤ 10 → (∀ i, i < n → 0 ≤ (f i).toInt ∧ (f i).toInt ≤ B) → 0 ≤ (qsum f n).toInt ∧ (qsum f n).toInt ≤ B * n
  | 0, _, _ => by rw [show qsum f 0 = 0 from rfl, i_0]; simp
  | n + 1, hn, h => by
    obtain ⟨a1, a2⟩ := qsum_b hB n (by omega) (fun i hi => h i (by omega))
    obtain ⟨b1, b2⟩ := h n (by omega)
    have hm : B * n ≤ 100000000 * 10 := Int.le_trans (Int.mul_le_mul_of_nonneg_right hB.2 (by omega)) (Int.mul_le_mul_of_nonneg_left (by omega) (by decide))
    have e : (qsum f (n + 1)).toInt = (qsum f n).toInt + (f n).toInt := i_add (by omega) (by omega)
    have e2 : B * ((n + 1 : Nat) : Int) = B * n + B := by rw [Int.natCast_add, Int.mul_add]; simp
    rw [e, e2]; omega
theorem RR.sum6 {D : Nat} {S : QLs} {M : QMs} (h : RR D S M) (hD : D ≤ 1000000) : 0 ≤ (mall M 6).toInt ∧ (mall M 6).toInt ≤ 200000000 := by
  rw [h.all (by decide)]
  have h1 := h.1.1
  obtain ⟨a, b⟩ := qsum_b (f := fun j => qT S j 6) (B := 20000000) (by omega) (qt S) h1 (fun i hi => by
    have := (h.2.2.2.2.2.2.1 i hi).2.2.2.2.2
    omega)
  exact ⟨a, by unfold sumT; omega⟩
theorem RR.sat {D : Nat} {S : QLs} {M : QMs} (h : RR D S M) {t : Nat} (ht : t < qt S) : ∀ d j, D + j + d < 1000000 → msatF M t d j = qsatF S t d j
  | 0, _, _ => rfl
  | d + 1, j, hb => by
    have h1 := s_days h j (by omega)
    have hq : t < qt (itN dayF j S) := by rw [(shp_days S j).1]; exact ht
    obtain ⟨h2, h3⟩ := s_day h1 (by omega)
    have hq2 : t < qt (dayL (itN dayF j S)) := by rw [(shp_day _).1]; exact hq
    have e5 := h2.at_ hq2 (show 5 < 8 by decide)
    have e2 := h2.at_ hq2 (show 2 < 8 by decide)
    have le := h3 t hq
    by_cases c : qT (dayL (itN dayF j S)) t 5 < qT (dayL (itN dayF j S)) t 2
    · rw [qsat_p c, msat_n (fun q => by rw [e5, e2] at q; rw [q] at c; exact absurd c (Int32.lt_irrefl)), h.sat ht d (j + 1) (by omega)]
    · rw [qsat_n c, msat_p (by
        rw [e5, e2]
        have : ¬ (qT (dayL (itN dayF j S)) t 5).toInt < (qT (dayL (itN dayF j S)) t 2).toInt := fun q => c (Int32.lt_iff_toInt_lt.mpr q)
        exact i_eq (by omega))]
theorem TI.s1 {D : Nat} {r : Nat → Int32} {x : Int32} (h : TI D r) (hx : 0 ≤ x.toInt ∧ x.toInt ≤ 20) : TI D (upd r 1 x) := by
  obtain ⟨t0, t1, t2, t3, t4, t6⟩ := h
  unfold TI
  rw [pk_us, pk_un (show 0 ≠ 1 by decide), pk_un (show 2 ≠ 1 by decide), pk_un (show 3 ≠ 1 by decide), pk_un (show 4 ≠ 1 by decide), pk_un (show 6 ≠ 1 by decide)]
  exact ⟨t0, hx, t2, t3, t4, t6⟩
theorem TI.s2 {D : Nat} {r : Nat → Int32} {x : Int32} (h : TI D r) (hx : 0 ≤ x.toInt ∧ x.toInt ≤ 20) : TI D (upd r 2 x) := by
  obtain ⟨t0, t1, t2, t3, t4, t6⟩ := h
  unfold TI
  rw [pk_us, pk_un (show 0 ≠ 2 by decide), pk_un (show 1 ≠ 2 by decide), pk_un (show 3 ≠ 2 by decide), pk_un (show 4 ≠ 2 by decide), pk_un (show 6 ≠ 2 by decide)]
  exact ⟨t0, t1, hx, t3, t4, t6⟩
theorem TI.s3 {D : Nat} {r : Nat → Int32} {x : Int32} (h : TI D r) (hx : 0 ≤ x.toInt ∧ x.toInt ≤ 200) : TI D (upd r 3 x) := by
  obtain ⟨t0, t1, t2, t3, t4, t6⟩ := h
  unfold TI
  rw [pk_us, pk_un (show 0 ≠ 3 by decide), pk_un (show 1 ≠ 3 by decide), pk_un (show 2 ≠ 3 by decide), pk_un (show 4 ≠ 3 by decide), pk_un (show 6 ≠ 3 by decide)]
  exact ⟨t0, t1, t2, hx, t4, t6⟩
theorem TI.s4 {D : Nat} {r : Nat → Int32} {x : Int32} (h : TI D r) (hx : 0 ≤ x.toInt ∧ x.toInt ≤ 99) : TI D (upd r 4 x) := by
  obtain ⟨t0, t1, t2, t3, t4, t6⟩ := h
  unfold TI
  rw [pk_us, pk_un (show 0 ≠ 4 by decide), pk_un (show 1 ≠ 4 by decide), pk_un (show 2 ≠ 4 by decide), pk_un (show 3 ≠ 4 by decide), pk_un (show 6 ≠ 4 by decide)]
  exact ⟨t0, t1, t2, t3, hx, t6⟩
theorem i_rng {x : Int32} {a b : Int32} (h : a ≤ x ∧ x ≤ b) : a.toInt ≤ x.toInt ∧ x.toInt ≤ b.toInt := ⟨Int32.le_iff_toInt_le.mp h.1, Int32.le_iff_toInt_le.mp h.2⟩
theorem RR.set {D : Nat} {S : QLs} {M : QMs} (h : RR D S M) {i : Nat} {x y : Int32} (hi : i < qt S) (hx : 0 ≤ x ∧ x ≤ 20) (hy : 0 ≤ y ∧ y ≤ 20) : RR D (sT (sT S i (upd (qT S i) 1 x)) i (upd (qT (sT S i (upd (qT S i) 1 x)) i) 2 y)) (mSetT (mSetT M i 1 x) i 2 y) := by
  have hx := i_rng hx; have hy := i_rng hy
  rw [i_0, i_20] at hx hy
  have h1 := h.setAt hi (show 1 < 8 by decide) ((h.2.2.2.2.2.2.1 i hi).s1 hx)
  exact h1.setAt hi (by decide) ((h1.2.2.2.2.2.2.1 i hi).s2 hy)
theorem RR.flush {D : Nat} {S : QLs} {M : QMs} (h : RR D S M) {i : Nat} (hi : i < qt S) : RR D (sT (sT S i (upd (qT S i) 4 0)) i (upd (qT (sT S i (upd (qT S i) 4 0)) i) 3 (qT (sT S i (upd (qT S i) 4 0)) i 3 / 2))) (mSetT (mSetT M i 4 0) i 3 (mA (mSetT M i 4 0) (8 * i + 3) / 2)) := by
  have h1 := h.setAt hi (show 4 < 8 by decide) ((h.2.2.2.2.2.2.1 i hi).s4 (x := 0) (by rw [i_0]; omega))
  rw [h1.at_ (i := i) hi (show 3 < 8 by decide)]
  refine h1.setAt hi (by decide) ((h1.2.2.2.2.2.2.1 i hi).s3 ?_)
  have h3 := (h1.2.2.2.2.2.2.1 i hi).2.2.2.1
  rw [i_div h3.1 (by decide), show (2 : Int32).toInt = 2 by decide]; omega
theorem RR.scrape {D : Nat} {S : QLs} {M : QMs} (h : RR D S M) {i : Nat} (hi : i < qp S) : RR D (sP S i (upd (qP S i) 4 0)) (mSetP M i 4 0) := by
  have hP := h.2.2.2.2.2.2.2 i hi
  refine h.setPAt hi (by decide) (by decide) ?_
  unfold PI
  rw [pk_us, pk_un (show 2 ≠ 4 by decide), pk_un (show 3 ≠ 4 by decide), pk_un (show 9 ≠ 4 by decide), i_0]
  exact ⟨hP.1, hP.2.1, by omega, hP.2.2.2⟩
theorem RR.steal {D : Nat} {S : QLs} {M : QMs} (h : RR D S M) {i : Nat} {x : Int32} (hi : i < qp S) (hx : 0 ≤ x ∧ x ≤ 9) : RR D (sP S i (upd (qP S i) 9 x)) (mSetP M i 8 x) := by
  have hP := h.2.2.2.2.2.2.2 i hi
  have hx := i_rng hx
  rw [i_0, show (9 : Int32).toInt = 9 by decide] at hx
  refine h.setP rfl rfl rfl rfl (setP_tap (h.2.2.2.2.2.1 i hi)) (fun j q hj hq => setP_ne (by decide) hj hq) ?_ ⟨pk_un (by decide), pk_un (by decide)⟩
  unfold PI
  rw [pk_us, pk_un (show 2 ≠ 9 by decide), pk_un (show 3 ≠ 9 by decide), pk_un (show 4 ≠ 9 by decide)]
  exact ⟨hP.1, hP.2.1, hP.2.2.1, hx⟩
end
section
def mBuild (M : QMs) (x y v : Int32) : QMs := ut (uA M (va_cpy (upd (upd (upd (upd (upd (upd (upd (upd (fun _ => 0) 0 x) 1 y) 2 v) 3 0) 4 0) 5 0) 6 0) 7 0) (mA M) 0 (8 * mt_ M) 8)) (mt_ M + 1)
def mLay (M : QMs) (i j : Nat) (x y : Int32) : QMs := up_ (uB M (va_cpy (upd (upd (upd (upd (upd (upd (upd (upd (upd (fun _ => 0) 0 (nI i)) 1 (nI j)) 2 x) 3 y) 4 0) 5 0) 6 0) 7 0) 8 0) (mB M) 0 (9 * mp_ M) 9)) (mp_ M + 1)
/-! PART 46: rows that are not there yet; build and lay -/
def Ext (S S2 : QLs) : Prop := qt S2 = qt S ∧ qp S2 = qp S ∧ (∀ i, qt S ≤ i → qT S2 i = qT S i) ∧ (∀ i, qp S ≤ i → qP S2 i = qP S i)
theorem Ext.rf {S : QLs} : Ext S S := ⟨rfl, rfl, fun _ _ => rfl, fun _ _ => rfl⟩
theorem Ext.tr {S S2 S3 : QLs} (h : Ext S S2) (h2 : Ext S2 S3) : Ext S S3 := ⟨h2.1.trans h.1, h2.2.1.trans h.2.1, fun i hi => (h2.2.2.1 i (by rw [h.1]; exact hi)).trans (h.2.2.1 i hi), fun i hi => (h2.2.2.2 i (by rw [h.2.1]; exact hi)).trans (h.2.2.2 i hi)⟩
theorem ext_sT {S : QLs} {i : Nat} {r : Nat → Int32} (hi : i < qt S) : Ext S (sT S i r) := ⟨rfl, rfl, fun j hj => qT_sTn _ _ (by omega), fun _ _ => rfl⟩
theorem ext_sP {S : QLs} {i : Nat} {r : Nat → Int32} (hi : i < qp S) : Ext S (sP S i r) := ⟨rfl, rfl, fun _ _ => rfl, fun j hj => qP_sPn _ _ (by omega)⟩
theorem ext_sD {S : QLs} {d : Int32} : Ext S (sD S d) := ⟨rfl, rfl, fun _ _ => rfl, fun _ _ => rfl⟩
theorem ext_wander {S : QLs} {f t : Nat} {x : Int32} (hf : f < qt S) (ht : t < qt S) : Ext S (wander S f t x) := by
  unfold wander
  split
  · exact (ext_sT hf).tr (ext_sT ht)
  · exact Ext.rf
theorem ext_flow {S : QLs} {k : Nat} (hk : LOk S) (h : k < qp S) : Ext S (flowL S k) := by
  obtain ⟨hf, ht, -⟩ := hk.2.2 k h
  have hw := ext_wander (x := canF S k) hf ht
  unfold flowL
  simp only []
  refine ((((hw.tr (ext_sT ?_)).tr (ext_sT ?_)).tr (ext_sP ?_)).tr (ext_sP ?_)).tr (ext_sP ?_)
  · rw [hw.1]; exact hf
  · show _ < qt (wander _ _ _ _); rw [hw.1]; exact ht
  · show _ < qp (wander _ _ _ _); rw [hw.2.1]; exact h
  · show _ < qp (wander _ _ _ _); rw [hw.2.1]; exact h
  · show _ < qp (wander _ _ _ _); rw [hw.2.1]; exact h
theorem ext_crust {S : QLs} {k : Nat} (h : k < qp S) : Ext S (crustL S k) := by
  unfold crustL
  split
  · exact Ext.rf
  · exact ext_sP h
theorem ext_itT {f : Nat → QLs → QLs} (hf : ∀ i S, LOk S → i < qt S → Ext S (f i S)) (hs : ∀ i S, Shp S (f i S)) {S : QLs} (hk : LOk S) : ∀ m, m ≤ qt S → Ext S (itN f m S)
  | 0, _ => Ext.rf
  | m + 1, hm => (ext_itT hf hs hk m (by omega)).tr (hf m _ ((shp_it hs S m).ok hk) (by rw [(shp_it hs S m).1]; omega))
theorem ext_itP {f : Nat → QLs → QLs} (hf : ∀ i S, LOk S → i < qp S → Ext S (f i S)) (hs : ∀ i S, Shp S (f i S)) {S : QLs} (hk : LOk S) : ∀ m, m ≤ qp S → Ext S (itN f m S)
  | 0, _ => Ext.rf
  | m + 1, hm => (ext_itP hf hs hk m (by omega)).tr (hf m _ ((shp_it hs S m).ok hk) (by rw [(shp_it hs S m).2.1]; omega))
theorem ext_day {S : QLs} (hk : LOk S) : Ext S (dayL S) := by
  unfold dayL
  simp only []
  have h1 := ext_itT (f := feedF) (fun i S _ hi => ext_sT hi) (fun _ _ => shp_sT) hk (qt S) (Nat.le_refl _)
  have k1 := (shp_it (f := feedF) (fun _ _ => shp_sT) S (qt S)).ok hk
  generalize itN feedF (qt S) S = S1 at h1 k1
  have h2 := ext_itP (f := flowF) (fun i S hk hi => ext_flow hk hi) (fun _ _ => shp_flow) k1 (qp S1) (Nat.le_refl _)
  have k2 := (shp_it (f := flowF) (fun _ _ => shp_flow) S1 (qp S1)).ok k1
  generalize itN flowF (qp S1) S1 = S2 at h2 k2
  have h3 : Ext S2 (if qD S2 - qD S2 / 4 * 4 = 0 then crustAll S2 else S2) ∧ LOk (if qD S2 - qD S2 / 4 * 4 = 0 then crustAll S2 else S2) := by
    split
    · exact ⟨ext_itP (f := crustF) (fun i S _ hi => ext_crust hi) (fun _ _ => shp_crust) k2 _ (Nat.le_refl _), shp_crustAll.ok k2⟩
    · exact ⟨Ext.rf, k2⟩
  obtain ⟨h3, k3⟩ := h3
  generalize (if qD S2 - qD S2 / 4 * 4 = 0 then crustAll S2 else S2) = S3 at h3 k3
  have h4 := ext_itT (f := drinkF) (fun i S _ hi => ext_sT hi) (fun _ _ => shp_sT) k3 (qt S3) (Nat.le_refl _)
  exact (((h1.tr h2).tr h3).tr h4).tr ext_sD
theorem ext_days {S : QLs} (hk : LOk S) : ∀ n, Ext S (itN dayF n S)
  | 0 => Ext.rf
  | n + 1 => (ext_days hk n).tr (ext_day ((shp_days S n).ok hk))
def ZZ (S : QLs) : Prop := (∀ i, qt S ≤ i → ∀ k, qT S i k = 0) ∧ (∀ i, qp S ≤ i → ∀ k, qP S i k = 0)
theorem ZZ.ext {S S2 : QLs} (h : ZZ S) (he : Ext S S2) : ZZ S2 := ⟨fun i hi k => by rw [he.1] at hi; rw [he.2.2.1 i hi]; exact h.1 i hi k, fun i hi k => by rw [he.2.1] at hi; rw [he.2.2.2 i hi]; exact h.2 i hi k⟩
theorem RR.build {D : Nat} {S : QLs} {M : QMs} (h : RR D S M) (hz : ZZ S) (ht : qt S < 10) {x y v : Int32} (h9 : (0 ≤ x ∧ x ≤ 99) ∧ (0 ≤ y ∧ y ≤ 20) ∧ (0 ≤ v ∧ v ≤ 20)) : RR D (addT S x y v) (mBuild M x y v) ∧ ZZ (addT S x y v) := by
  have hx := i_rng h9.1; have hy := i_rng h9.2.1; have hv := i_rng h9.2.2
  rw [i_0, i_99] at hx
  rw [i_0, i_20] at hy hv
  obtain ⟨h1, h2, h3, h4, h5, h6, h7, h8⟩ := h
  have z0 : ∀ k, qT S (qt S) k = 0 := hz.1 _ (Nat.le_refl _)
  have zf : qT S (qt S) = fun _ => 0 := funext z0
  have rT : ∀ j, qT (addT S x y v) j = if j = qt S then upd (upd (upd (fun _ => 0) 0 x) 1 y) 2 v else qT S j := fun j => by
    show qT (sT S (qt S) _) j = _
    by_cases e : j = qt S
    · subst e; rw [qT_sT, if_pos rfl, zf]
    · rw [qT_sTn _ _ e, if_neg e]
  refine ⟨⟨⟨by show qt S + 1 ≤ 10; omega, h1.2.1, fun k hk => ?_⟩, by show mt_ M + 1 = qt S + 1; omega, h3, h4, fun i hi => ?_, h6, fun i hi => ?_, h8⟩, fun i hi k => ?_, hz.2⟩
  · obtain ⟨a1, a2, a3⟩ := h1.2.2 k hk
    exact ⟨Nat.lt_succ_of_lt a1, Nat.lt_succ_of_lt a2, a3⟩
  · have hi2 : i < qt S + 1 := hi
    intro k hk
    rw [rT]
    show va_cpy _ (mA M) 0 (8 * mt_ M) 8 (8 * i + k) = _
    by_cases e : i = qt S
    · subst e
      rw [if_pos rfl, pk_cpy_in (by omega) (by omega), h2, show 0 + (8 * qt S + k - 8 * qt S) = k by omega]
      rcases (show k = 0 ∨ k = 1 ∨ k = 2 ∨ k = 3 ∨ k = 4 ∨ k = 5 ∨ k = 6 ∨ k = 7 by omega) with rfl | rfl | rfl | rfl | rfl | rfl | rfl | rfl <;> rfl
    · rw [if_neg e, pk_cpy_out (by omega)]; exact h5 i (by omega) k hk
  · have hi2 : i < qt S + 1 := hi
    rw [rT]
    by_cases e : i = qt S
    · rw [if_pos e]
      unfold TI
      rw [show upd (upd (upd (fun _ => (0 : Int32)) 0 x) 1 y) 2 v 0 = x from rfl, show upd (upd (upd (fun _ => (0 : Int32)) 0 x) 1 y) 2 v 1 = y from rfl, show upd (upd (upd (fun _ => (0 : Int32)) 0 x) 1 y) 2 v 2 = v from rfl, show upd (upd (upd (fun _ => (0 : Int32)) 0 x) 1 y) 2 v 3 = 0 from rfl, show upd (upd (upd (fun _ => (0 : Int32)) 0 x) 1 y) 2 v 4 = 0 from rfl, show upd (upd (upd (fun _ => (0 : Int32)) 0 x) 1 y) 2 v 6 = 0 from rfl, i_0]
      exact ⟨hx, hy, hv, by omega, by omega, by omega⟩
    · rw [if_neg e]; exact h7 i (by omega)
  · have hi2 : qt S + 1 ≤ i := hi
    rw [rT, if_neg (by omega)]; exact hz.1 i (by omega) k
theorem RR.lay {D : Nat} {S : QLs} {M : QMs} (h : RR D S M) (hz : ZZ S) (ht : qp S < 14) {i j : Nat} (hi : i < qt S) (hj : j < qt S) (hne : i ≠ j) {x y : Int32} (h9 : (1 ≤ x ∧ x ≤ 20) ∧ (0 ≤ y ∧ y ≤ 60)) : RR D (addP S (nI i) (nI j) x y) (mLay M i j x y) ∧ ZZ (addP S (nI i) (nI j) x y) := by
  have hx := i_rng h9.1; have hy := i_rng h9.2
  rw [i_1, i_20] at hx
  rw [i_0, show (60 : Int32).toInt = 60 by decide] at hy
  obtain ⟨h1, h2, h3, h4, h5, h6, h7, h8⟩ := h
  have hk1 := h1.1
  have zf : qP S (qp S) = fun _ => 0 := funext (hz.2 _ (Nat.le_refl _))
  have rP : ∀ k, qP (addP S (nI i) (nI j) x y) k = if k = qp S then upd (upd (upd (upd (fun _ => 0) 0 (nI i)) 1 (nI j)) 2 x) 3 y else qP S k := fun k => by
    show qP (sP S (qp S) _) k = _
    by_cases e : k = qp S
    · subst e; rw [qP_sP, if_pos rfl, zf]
    · rw [qP_sPn _ _ e, if_neg e]
  refine ⟨⟨⟨h1.1, by show qp S + 1 ≤ 14; omega, fun k hk => ?_⟩, h2, by show mp_ M + 1 = qp S + 1; omega, h4, h5, fun k hk => ?_, h7, fun k hk => ?_⟩, hz.1, fun k hk q => ?_⟩
  · have hk2 : k < qp S + 1 := hk
    unfold qf qo
    rw [rP]
    by_cases e : k = qp S
    · rw [if_pos e, show upd (upd (upd (upd (fun _ => (0 : Int32)) 0 (nI i)) 1 (nI j)) 2 x) 3 y 0 = nI i from rfl, show upd (upd (upd (upd (fun _ => (0 : Int32)) 0 (nI i)) 1 (nI j)) 2 x) 3 y 1 = nI j from rfl, nI_clamp (by omega), nI_clamp (by omega)]
      exact ⟨hi, hj, hne, rfl, rfl⟩
    · rw [if_neg e]; exact h1.2.2 k (by omega)
  · have hk2 : k < qp S + 1 := hk
    rw [rP]
    by_cases e : k = qp S
    · subst e
      rw [if_pos rfl]
      refine ⟨fun q hq => ?_, ?_⟩
      · show va_cpy _ (mB M) 0 (9 * mp_ M) 9 (9 * qp S + q) = _
        rw [pk_cpy_in (by omega) (by omega), h3, show 0 + (9 * qp S + q - 9 * qp S) = q by omega]
        rcases (show q = 0 ∨ q = 1 ∨ q = 2 ∨ q = 3 ∨ q = 4 ∨ q = 5 ∨ q = 6 ∨ q = 7 by omega) with rfl | rfl | rfl | rfl | rfl | rfl | rfl | rfl <;> rfl
      · show va_cpy _ (mB M) 0 (9 * mp_ M) 9 (9 * qp S + 8) = _
        rw [pk_cpy_in (by omega) (by omega), h3, show 0 + (9 * qp S + 8 - 9 * qp S) = 8 by omega]
        rfl
    · rw [if_neg e]
      obtain ⟨a, b⟩ := h6 k (by omega)
      refine ⟨fun q hq => ?_, ?_⟩
      · show va_cpy _ (mB M) 0 (9 * mp_ M) 9 (9 * k + q) = _
        rw [pk_cpy_out (by omega)]; exact a q hq
      · show va_cpy _ (mB M) 0 (9 * mp_ M) 9 (9 * k + 8) = _
        rw [pk_cpy_out (by omega)]; exact b
  · have hk2 : k < qp S + 1 := hk
    rw [rP]
    by_cases e : k = qp S
    · rw [if_pos e]
      unfold PI
      rw [show upd (upd (upd (upd (fun _ => (0 : Int32)) 0 (nI i)) 1 (nI j)) 2 x) 3 y 2 = x from rfl, show upd (upd (upd (upd (fun _ => (0 : Int32)) 0 (nI i)) 1 (nI j)) 2 x) 3 y 3 = y from rfl, show upd (upd (upd (upd (fun _ => (0 : Int32)) 0 (nI i)) 1 (nI j)) 2 x) 3 y 4 = 0 from rfl, show upd (upd (upd (upd (fun _ => (0 : Int32)) 0 (nI i)) 1 (nI j)) 2 x) 3 y 9 = 0 from rfl, i_0]
      exact ⟨hx, hy, by omega, by omega⟩
    · rw [if_neg e]; exact h8 k (by omega)
  · have hk2 : qp S + 1 ≤ k := hk
    rw [rP, if_neg (by omega)]; exact hz.2 k (by omega) q
/-- an empty land -/
def S00 : QLs := (fun _ _ => 0, fun _ _ => 0, 0, 0, 0)
def M00 : QMs := (0, 0, 0, fun _ => 0, fun _ => 0, fun _ => 0)
theorem RR.new : RR 0 S00 M00 ∧ ZZ S00 := by
  refine ⟨⟨⟨by decide, by decide, fun k hk => ?_⟩, rfl, rfl, rfl, fun i hi => ?_, fun i hi => ?_, fun i hi => ?_, fun i hi => ?_⟩, fun _ _ _ => rfl, fun _ _ _ => rfl⟩
  · exact absurd hk (Nat.not_lt_zero _)
  · exact absurd hi (Nat.not_lt_zero _)
  · exact absurd hi (Nat.not_lt_zero _)
  · exact absurd hi (Nat.not_lt_zero _)
  · exact absurd hi (Nat.not_lt_zero _)
end
section
/-! PART 47: reach -/
abbrev tb (x : Int32) (i : Nat) : Bool := x.toBitVec.getLsbD i
theorem tb_s1 : ∀ l, l < 32 → ((1 : Int32) <<< (nI l &&& 31)).toBitVec = BitVec.twoPow 32 l := by decide +kernel
theorem tb_sl : ∀ n, n < 32 → ((nI n &&& 31).toBitVec.smod 32).toNat = n := by decide +kernel
theorem tb_and (r : Int32) {f : Nat} (hf : f < 32) : r &&& (1 <<< (nI f &&& 31)) = 0 ↔ tb r f = false := by
  rw [← Int32.toBitVec_inj, Int32.toBitVec_and, tb_s1 f hf, BitVec.and_twoPow]
  constructor
  · intro h
    cases hq : tb r f with
    | false => rfl
    | true =>
      rw [if_pos hq] at h
      have h2 := congrArg (fun v => BitVec.getLsbD v f) h
      have h3 : (BitVec.twoPow 32 f).getLsbD f = false := h2.trans BitVec.getLsbD_zero
      rw [BitVec.getLsbD_twoPow] at h3
      simp [hf] at h3
  · intro h
    rw [if_neg (show ¬ tb r f = true by rw [h]; decide)]; rfl
theorem tb_shr (r : Int32) {f : Nat} (hf : f < 31) : (r >>> (nI f &&& 31)) &&& 1 = 1 ↔ tb r f = true := by
  have e0 : tb (r >>> (nI f &&& 31)) 0 = tb r f := by
    show (r >>> (nI f &&& 31)).toBitVec.getLsbD 0 = _
    rw [Int32.toBitVec_shiftRight]
    show (BitVec.sshiftRight r.toBitVec (((nI f &&& 31).toBitVec.smod 32).toNat)).getLsbD 0 = _
    rw [tb_sl f (by omega), BitVec.getLsbD_sshiftRight]
    simp [show f < 32 by omega]
  have e1 : (r >>> (nI f &&& 31)) &&& 1 = nI ((r >>> (nI f &&& 31)).toBitVec.toNat % 2 ^ 1) := pk_and _ 1 (by decide)
  rw [e1, ← e0]
  show _ ↔ Nat.testBit _ 0 = true
  rw [Nat.testBit_zero]
  rcases Nat.mod_two_eq_zero_or_one (r >>> (nI f &&& 31)).toBitVec.toNat with h | h
  · rw [show (2 : Nat) ^ 1 = 2 from rfl, h]; decide
  · rw [show (2 : Nat) ^ 1 = 2 from rfl, h]; decide
theorem tb_or (r : Int32) {t : Nat} (ht : t < 32) (j : Nat) : tb (r ||| (1 <<< (nI t &&& 31))) j = (tb r j || decide (j = t)) := by
  show (r ||| _).toBitVec.getLsbD j = _
  rw [Int32.toBitVec_or, tb_s1 t ht, BitVec.getLsbD_or, BitVec.getLsbD_twoPow]
  congr 1
  by_cases h : t = j
  · subst h; simp [ht]
  · simp [h, show ¬ j = t from fun q => h q.symm]
/-- bits are added, and only of tanks -/
def Gb (n : Nat) (r q : Int32) : Prop := (∀ j, tb r j = true → tb q j = true) ∧ ((∀ j, tb r j = true → j < n) → ∀ j, tb q j = true → j < n)
theorem Gb.rf {n : Nat} {r : Int32} : Gb n r r := ⟨fun _ h => h, fun h => h⟩
theorem Gb.tr {n : Nat} {r q s : Int32} (h : Gb n r q) (h2 : Gb n q s) : Gb n r s := ⟨fun j hj => h2.1 j (h.1 j hj), fun hr => h2.2 (h.2 hr)⟩
theorem gb_or {n t : Nat} {r : Int32} (ht : t < n) (hn : n ≤ 10) : Gb n r (r ||| (1 <<< (nI t &&& 31))) := by
  refine ⟨fun j hj => by rw [tb_or r (by omega), hj]; rfl, fun hr j hj => ?_⟩
  rw [tb_or r (by omega)] at hj
  rcases Bool.or_eq_true_iff.mp hj with h | h
  · exact hr j h
  · have := of_decide_eq_true h; omega
theorem gb_step {S : QLs} (hk : LOk S) {x r : Int32} {k : Nat} (h : k < qp S) : Gb (qt S) r (rStep S x k r) := by
  obtain ⟨-, a2, -, -, a5⟩ := hk.2.2 k h
  unfold rStep
  rw [a5]
  split
  · exact gb_or a2 hk.1
  · split
    · exact Gb.rf
    · exact gb_or a2 hk.1
theorem gb_round {S : QLs} (hk : LOk S) (x r : Int32) : ∀ m, m ≤ qp S → Gb (qt S) r (itN (rStep S x) m r)
  | 0, _ => Gb.rf
  | m + 1, hm => (gb_round hk x r m (by omega)).tr (gb_step hk (by omega))
def qc (r : Int32) : Nat → Nat
  | 0 => 0
  | m + 1 => qc r m + (if tb r m = true then 1 else 0)
theorem qc_le (r : Int32) : ∀ m, qc r m ≤ m
  | 0 => Nat.le_refl _
  | m + 1 => by have := qc_le r m; show qc r m + _ ≤ _; split <;> omega
theorem qc_mono {r q : Int32} (h : ∀ j, tb r j = true → tb q j = true) : ∀ m, qc r m ≤ qc q m
  | 0 => Nat.le_refl _
  | m + 1 => by
    have := qc_mono h m
    show qc r m + _ ≤ qc q m + _
    by_cases c : tb r m = true
    · rw [if_pos c, if_pos (h m c)]; omega
    · rw [if_neg c]; omega
theorem qc_lt {r q : Int32} (h : ∀ j, tb r j = true → tb q j = true) {i : Nat} (h1 : ¬ tb r i = true) (h2 : tb q i = true) : ∀ m, i < m → qc r m < qc q m
  | 0, hi => absurd hi (Nat.not_lt_zero _)
  | m + 1, hi => by
    show qc r m + _ < qc q m + _
    by_cases e : i = m
    · subst e
      have := qc_mono h i
      rw [if_neg h1, if_pos h2]; omega
    · have := qc_lt h h1 h2 m (by omega)
      by_cases c : tb r m = true
      · rw [if_pos c, if_pos (h m c)]; omega
      · rw [if_neg c]; omega
theorem gb_ne {n : Nat} {r q : Int32} (h : Gb n r q) (hr : ∀ j, tb r j = true → j < n) (hne : q ≠ r) : qc r n < qc q n := by
  have hex : ∃ i, ¬ tb r i = true ∧ tb q i = true := by
    apply Classical.byContradiction
    intro hno
    apply hne
    apply Int32.toBitVec_inj.mp
    apply BitVec.eq_of_getLsbD_eq
    intro i hi
    show tb q i = tb r i
    cases h1 : tb r i with
    | true => exact h.1 i h1
    | false =>
      cases h2 : tb q i with
      | false => rfl
      | true => exact absurd ⟨i, (by rw [h1]; decide), h2⟩ hno
  obtain ⟨i, h1, h2⟩ := hex
  exact qc_lt h.1 h1 h2 n (h.2 hr i h2)
theorem fix_round {S : QLs} (hk : LOk S) (x : Int32) : ∀ i, (∀ j, tb (itN (fun _ r => rRound S x r) (i + 1) 0) j = true → j < qt S) ∧ (itN (fun _ r => rRound S x r) (i + 1) 0 = itN (fun _ r => rRound S x r) i 0 ∨ i + 1 ≤ qc (itN (fun _ r => rRound S x r) (i + 1) 0) (qt S))
  | 0 => by
    have h0 : ∀ j, tb (0 : Int32) j = true → j < qt S := fun j hj => by rw [show tb (0 : Int32) j = false from BitVec.getLsbD_zero] at hj; cases hj
    have hg := gb_round hk x 0 (qp S) (Nat.le_refl _)
    refine ⟨hg.2 h0, ?_⟩
    by_cases e : rRound S x 0 = 0
    · exact Or.inl e
    · right
      have := gb_ne hg h0 e
      show 0 + 1 ≤ qc (rRound S x 0) (qt S)
      exact Nat.lt_of_le_of_lt (Nat.zero_le _) this
  | i + 1 => by
    obtain ⟨h1, h2⟩ := fix_round hk x i
    obtain ⟨r, er⟩ : ∃ r, r = itN (fun _ r => rRound S x r) (i + 1) 0 := ⟨_, rfl⟩
    have e2 : itN (fun _ r => rRound S x r) (i + 1 + 1) 0 = rRound S x r := by rw [er]; rfl
    rw [← er] at h1 h2
    rw [e2, ← er]
    have hg : Gb (qt S) r (rRound S x r) := gb_round hk x r (qp S) (Nat.le_refl _)
    refine ⟨hg.2 h1, ?_⟩
    by_cases e : rRound S x r = r
    · exact Or.inl e
    · right
      have h3 := gb_ne hg h1 e
      rcases h2 with h2 | h2
      · exfalso; apply e
        have e3 : r = rRound S x (itN (fun _ r => rRound S x r) i 0) := er
        rw [← h2] at e3; exact e3.symm
      · omega
theorem reach_fix {S : QLs} (hk : LOk S) (x : Int32) : itN (fun _ r => rRound S x r) (qt S + 1) 0 = itN (fun _ r => rRound S x r) (qt S) 0 := by
  rcases (fix_round hk x (qt S)).2 with h | h
  · exact h
  · have := qc_le (itN (fun _ r => rRound S x r) (qt S + 1) 0) (qt S); omega
theorem itN_c {α : Type} {f g : Nat → α → α} (a : α) : ∀ n, (∀ i a, i < n → f i a = g i a) → itN f n a = itN g n a
  | 0, _ => rfl
  | n + 1, h => by
    show f n (itN f n a) = g n (itN g n a)
    rw [itN_c a n (fun i a hi => h i a (by omega)), h n _ (by omega)]
theorem RR.reach {D : Nat} {S : QLs} {M : QMs} (h : RR D S M) (x : Int32) : mreach M x = reachL S x := by
  have hr : ∀ r, mrRound M x r = rRound S x r := fun r => by
    unfold mrRound rRound
    rw [h.2.2.1]
    refine itN_c r _ (fun k r hk => ?_)
    obtain ⟨a1, a2, -, a4, a5⟩ := h.1.2.2 k hk
    have h10 := h.1.1
    unfold mrStep rStep
    rw [h.bt_ hk (show 0 < 8 by decide), h.bt_ hk (show 1 < 8 by decide), a4]
    by_cases c : nI (qf S k) = x
    · rw [if_pos c, if_pos c]
    · rw [if_neg c, if_neg c]
      cases hq : tb r (qf S k) with
      | true => rw [if_neg (fun q => q ((tb_shr r (by omega)).mpr hq)), if_neg (fun q => by rw [(tb_and r (by omega)).mp q] at hq; cases hq)]
      | false => rw [if_pos (fun q => by rw [(tb_shr r (by omega)).mp q] at hq; cases hq), if_pos ((tb_and r (by omega)).mpr hq)]
  have e : mreach M x = itN (fun _ r => rRound S x r) (qt S + 1) 0 := by
    unfold mreach
    rw [h.2.1]
    exact itN_c 0 _ (fun i r _ => hr r)
  rw [e]
  exact reach_fix h.1 x
end
section
/-! PART 50: constructors -/
def PreN (z : QZ) (w : va_W) (sz : Nat) : State → Prop := fun U => U.heap.size = sz ∧ va_P (zG z) vwCl w U.heap ∧ QK z U ∧ va_D (fun _ => True) w
theorem preN_blind {z : QZ} {w : va_W} {sz : Nat} {av : List Value} : FrameBlind (va_Pc av (PreN z w sz)) := fun a U g mk q => by
  obtain ⟨q0, q1, qP, qK, qD⟩ := q
  exact ⟨q0, q1, qP, QK.same rfl qK, qD⟩
theorem set_app {w X : va_W} {k : Nat} {y : Nat × va_E} {q : Nat × va_E} (h : w[k]? = some q) : (w ++ X).set k y = w.set k y ++ X := List.set_append_left _ _ (List.getElem?_eq_some_iff.mp h).1
theorem get_app {w X : va_W} {k : Nat} {q : Nat × va_E} (h : w[k]? = some q) : (w ++ X)[k]? = some q := by
  rw [List.getElem?_append_left (List.getElem?_eq_some_iff.mp h).1]; exact h
theorem get_set {w : va_W} {k : Nat} {q y : Nat × va_E} (h : w[k]? = some q) : (w.set k y)[k]? = some y := by
  rw [List.getElem?_set_self (List.getElem?_eq_some_iff.mp h).1]
section QNW
variable {p : Program} {l : Launch} {e : Env} {R : Room} {s : State} {m : MethodId} {args : Array Value} {below : List Frame} {meth : Method} {c : Code} {H : Heap} {locs : List Loc} {cells slots : Nat} {Q : State → Prop}
variable {cc : ByteArray} {nL : Nat} {ret : Option FieldType} {own : String} {ws : List Cond} {pc : Nat} {ls : Array Slot} {rest : List Value} {z : QZ} {w : va_W} {A : Nat → Prop} {H0 : Heap} {c0 : Nat → va_E} {M : QMs}
theorem q_nmI (hK : QK z s) : s.vm.findClass "[I" = some (zI z) := (hK.1.2 0 _ rfl).2
theorem q_nmR (hK : QK z s) : s.vm.findClass "[[I" = some (zR z) := (hK.1.2 1 _ rfl).2
theorem q_newi (C0 : Cx p s m args meth c cc nL ret own ws) (hK : QK z s) (hP : va_P (zG z) vwCl w H) (hD : va_D A w) (hS : va_S A H0 H locs) (hA : ∀ q, H0.size ≤ q → A q) (hw : Cond.arrayClass .int ∈ ws) {n : Nat} {x : Int32} (hx : x = nI n) (hn : n < 1000) (hc : cells + 1 ≤ R.cells) (hs : slots + n ≤ R.slots) (hdg : decode cc pc = .ok (.newarray .int, 2))
    (kk : ∀ (q : Nat) (H1 : Heap), va_P (zG z) vwCl (w ++ [(q, .inl (zI z, n, .inl (fun _ => 0)))]) H1 → va_D A (w ++ [(q, .inl (zI z, n, .inl (fun _ => 0)))]) → va_S A H0 H1 locs → W p l e R s m args below meth c H1 locs (cells + 1) (slots + n) Q (F0 m (pc + 2) ls (.ref q :: rest))) : W p l e R s m args below meth c H locs cells slots Q (F0 m pc ls (.int x :: rest)) := by
  subst hx
  have t0 : (nI n).toNatClampNeg = n := nI_clamp (by omega)
  refine W.newa C0.1 C0.2.1 (atype := .int) (C0.2.2.2.2.2.1 _ hw) rfl hdg rfl (nI_pos (by omega)) (by rw [t0]; show n * 4 ≤ _; omega) hc (by rw [t0]; exact hs) fun cA kA comp f1 f2 f3 => ?_
  have ec : cA = zI z := Option.some.inj (f1.symm.trans (q_nmI hK))
  subst ec
  rw [t0]
  generalize hH1 : H.push ({ cls := zI z, slots := Array.replicate n (defaultValue (newarray.typeOf .int)), vm := .none } : Cell) = H1
  have z1 : H1.size = H.size + 1 := by rw [← hH1, Array.size_push]
  have e1 : H1[H.size]? = some (arrV (zI z) n (fun _ => .int 0)) := by rw [← hH1, Array.getElem?_push_size, ← arrV_new]; rfl
  have o1 : ∀ q : Nat, q < H.size → H1[q]? = H[q]? := fun q hq => by rw [← hH1, Array.getElem?_push, if_neg (Nat.ne_of_lt hq)]
  refine kk H.size H1 ((hP.kept (fun k y hy => o1 y.1 ((hP k y hy).lt))).app (fun k y hy => ?_)) (hD.push hP rfl (hA _ hS.1)) ⟨Nat.le_trans hS.1 (by omega), fun y h1 h2 => (o1 y (Nat.lt_of_lt_of_le h1 hS.1)).trans (hS.2.1 y h1 h2), hS.2.2⟩
  have hz : k < 1 := (List.getElem?_eq_some_iff.mp hy).1
  rw [show k = 0 by omega] at hy
  cases hy
  show H1[H.size]? = some (vp_cell _ _)
  rw [e1]
  rfl
end QNW
end
section
/-! PART 51: new int[n][m], all of it new cells of the world -/
theorem q_outer (c : ClassId) (N h0 : Nat) : ∀ i : Nat, Jvm.Free.Multi.outerC c N h0 i = arrV c N (fun j => va_rf (if j < i then some (h0 + 1 + j) else none))
  | 0 => by
    show ({ cls := c, slots := Array.replicate N .null, vm := .none } : Cell) = _
    rw [arrV_new]
    refine congrArg (arrV c N) (funext fun j => ?_)
    simp [va_rf]
  | i + 1 => by
    show (Jvm.Free.Multi.outerC c N h0 i).setSlot i (.ref (h0 + 1 + i)) = _
    rw [q_outer c N h0 i, arrV_store]
    refine congrArg (arrV c N) (funext fun j => ?_)
    by_cases e : j = i
    · subst e
      simp [updV, va_rf]
    · by_cases h : j < i
      · simp [updV, e, h, Nat.lt_succ_of_lt h]
      · simp [updV, e, h, show ¬ j < i + 1 by omega]
abbrev qR (n : Nat) (c : ClassId) (f : Nat → Option Nat) : va_E := .inl (c, n, .inr (.inr (.inr (.inr f))))
abbrev mnaO (z : QZ) (N q : Nat) : va_E := qR N (zR z) (fun i => if i < N then some (q + 1 + i) else none)
abbrev mnaR (z : QZ) (N K q : Nat) : va_W := (List.range N).map (fun i => (q + 1 + i, (.inl (zI z, K, .inl (fun _ => (0 : Int32))) : va_E)))
theorem mnaR_get {z : QZ} {N K q k : Nat} {x : Nat × va_E} (h : (mnaR z N K q)[k]? = some x) : k < N ∧ x = (q + 1 + k, .inl (zI z, K, .inl (fun _ => 0))) := by
  have hk : k < N := by
    have := (List.getElem?_eq_some_iff.mp h).1
    simpa [mnaR] using this
  rw [List.getElem?_map, List.getElem?_range hk] at h
  exact ⟨hk, (Option.some.inj h).symm⟩
section QMN
variable {p : Program} {l : Launch} {e : Env} {R : Room} {s : State} {m : MethodId} {args : Array Value} {below : List Frame} {meth : Method} {c : Code} {H : Heap} {locs : List Loc} {cells slots : Nat} {Q : State → Prop}
variable {cc : ByteArray} {nL : Nat} {ret : Option FieldType} {own : String} {ws : List Cond} {pc : Nat} {ls : Array Slot} {rest : List Value} {z : QZ} {w : va_W} {A : Nat → Prop} {H0 : Heap}
theorem q_mna (C0 : Cx p s m args meth c cc nL ret own ws) (hK : QK z s) (hP : va_P (zG z) vwCl w H) (hD : va_D A w) (hS : va_S A H0 H locs) (hA : ∀ q, H0.size ≤ q → A q) {index : Nat} (hl : Cond.classLink own index "[[I" ∈ ws) (hac : Cond.arrayClass .int ∈ ws) {N K : Nat} {n k : Int32} (hn : n = nI N) (hk : k = nI K) (hN : N < 1000) (hK9 : K < 1000) (hc : cells + (1 + N) ≤ R.cells) (hs : slots + (N + N * K) ≤ R.slots) (hdg : decode cc pc = .ok (.multianewarray index 2, 4))
    (kk : ∀ (q : Nat) (H1 : Heap), va_P (zG z) vwCl ((w ++ [(q, mnaO z N q)]) ++ mnaR z N K q) H1 → va_D A ((w ++ [(q, mnaO z N q)]) ++ mnaR z N K q) → va_S A H0 H1 locs → W p l e R s m args below meth c H1 locs (cells + 1 + N) (slots + N + N * K) Q (F0 m (pc + 4) ls (.ref q :: rest))) : W p l e R s m args below meth c H locs cells slots Q (F0 m pc ls (.int k :: .int n :: rest)) := by
  subst hn; subst hk
  have tN : (nI N).toNatClampNeg = N := nI_clamp (by omega)
  have tK : (nI K).toNatClampNeg = K := nI_clamp (by omega)
  intro T hT Xs
  obtain ⟨vm₁, cA, comp, -, fA, fC, hO, -, X', step⟩ := Xs.multianewarray2F C0.1 C0.2.2.2.2.1 (C0.2.2.2.2.2.1 _ hl) (ty := .int) (show (Cond.arrayOver (.array .int)).before args s = true from hK.2.1) (C0.2.2.2.2.2.1 _ hac) (g := F0 m pc ls (.int (nI K) :: .int (nI N) :: rest)) rfl (by rw [C0.2.1]; exact hdg) rfl (nI_pos (by omega)) (nI_pos (by omega)) (by rw [tN]; omega) (by rw [tK]; show K * 4 ≤ _; omega) (by rw [tK]; omega) rfl rfl (by rw [tN]; exact hc) (by rw [tN, tK]; exact hs)
  have ec : comp = zI z := Option.some.inj (fC.symm.trans (q_nmI hK))
  have eA : cA = zR z := Option.some.inj (fA.symm.trans (q_nmR hK))
  subst ec; subst eA
  rw [tN, tK] at X' step
  generalize hF : Jvm.Free.Multi.fill (T.setVm vm₁) (zR z) (zI z) N K (defaultValue .int) N = F at X' step
  have hTh : (T.setVm vm₁).heap = H := hT
  obtain ⟨f1, f2, -, -⟩ := Jvm.Free.Multi.fill_facts (T.setVm vm₁) (zR z) (zI z) N K (defaultValue .int) N
  rw [hF, hTh] at f1 f2
  have hold : ∀ x : Nat, x < H.size → F.heap[x]? = H[x]? := fun x hx => by
    have := Jvm.Free.Multi.fill_old (T.setVm vm₁) (zR z) (zI z) N K (defaultValue .int) (a := x) (by rw [hTh]; exact hx) N
    rw [hF, hTh] at this
    exact this
  have hz : Jvm.Free.Multi.innerC (zI z) K (defaultValue .int) = vp_cell (zI z) (K, .inl (fun _ => (0 : Int32))) := by
    show ({ cls := zI z, slots := Array.replicate K (defaultValue .int), vm := .none } : Cell) = _
    rw [arrV_new]; rfl
  have hrow : ∀ j : Nat, j < N → F.heap[H.size + 1 + j]? = some (vp_cell (zI z) (K, .inl (fun _ => (0 : Int32)))) := fun j hj => by
    have := Jvm.Free.Multi.fill_inner (T.setVm vm₁) (zR z) (zI z) N K (defaultValue .int) N j hj
    rw [hF, hTh, hz] at this
    exact this
  have hout : Jvm.Free.Multi.outerC (zR z) N H.size N = vp_cell (zR z) (N, .inr (.inr (.inr (.inr (fun i => if i < N then some (H.size + 1 + i) else none))))) := by
    rw [vp_cell_q]
    exact q_outer (zR z) N H.size N
  rw [hout] at f2
  have hP0 : va_P (zG z) vwCl w F.heap := hP.kept (fun k9 x hx => hold x.1 ((hP k9 x hx).lt))
  have hP1 : va_P (zG z) vwCl (w ++ [(H.size, mnaO z N H.size)]) F.heap := hP0.app (fun k9 x hx => by
    have h0 : k9 < 1 := (List.getElem?_eq_some_iff.mp hx).1
    rw [show k9 = 0 by omega] at hx
    cases hx
    exact f2)
  have hP2 : va_P (zG z) vwCl ((w ++ [(H.size, mnaO z N H.size)]) ++ mnaR z N K H.size) F.heap := hP1.app (fun k9 x hx => by
    obtain ⟨h1, rfl⟩ := mnaR_get hx
    exact hrow k9 h1)
  have hD1 : va_D A (w ++ [(H.size, mnaO z N H.size)]) := hD.push hP rfl (hA _ hS.1)
  have hD2 : va_D A ((w ++ [(H.size, mnaO z N H.size)]) ++ mnaR z N K H.size) := by
    generalize hW1 : w ++ [(H.size, mnaO z N H.size)] = W1 at hD1
    have hle : ∀ (k9 : Nat) (x : Nat × va_E), W1[k9]? = some x → x.1 ≤ H.size := fun k9 x hx => by
      rw [← hW1] at hx
      by_cases hl : k9 < w.length
      · rw [List.getElem?_append_left hl] at hx
        exact Nat.le_of_lt ((hP k9 x hx).lt)
      · rw [List.getElem?_append_right (by omega)] at hx
        have h0 : k9 - w.length < 1 := (List.getElem?_eq_some_iff.mp hx).1
        rw [show k9 - w.length = 0 by omega] at hx
        cases hx
        exact Nat.le_refl _
    refine ⟨fun i j x y hi hj hxy => ?_, fun k9 x hx => ?_⟩
    · by_cases h1 : i < W1.length <;> by_cases h2 : j < W1.length
      · rw [List.getElem?_append_left h1] at hi
        rw [List.getElem?_append_left h2] at hj
        exact hD1.1 i j x y hi hj hxy
      · rw [List.getElem?_append_left h1] at hi
        rw [List.getElem?_append_right (by omega)] at hj
        have := hle _ _ hi
        obtain ⟨-, rfl⟩ := mnaR_get hj
        have h9 : x.1 = H.size + 1 + (j - W1.length) := hxy
        omega
      · rw [List.getElem?_append_right (by omega)] at hi
        rw [List.getElem?_append_left h2] at hj
        have := hle _ _ hj
        obtain ⟨-, rfl⟩ := mnaR_get hi
        have h9 : H.size + 1 + (i - W1.length) = y.1 := hxy
        omega
      · rw [List.getElem?_append_right (by omega)] at hi hj
        obtain ⟨-, rfl⟩ := mnaR_get hi
        obtain ⟨-, rfl⟩ := mnaR_get hj
        have h9 : H.size + 1 + (i - W1.length) = H.size + 1 + (j - W1.length) := hxy
        omega
    · by_cases h1 : k9 < W1.length
      · rw [List.getElem?_append_left h1] at hx
        exact hD1.2 k9 x hx
      · rw [List.getElem?_append_right (by omega)] at hx
        obtain ⟨-, rfl⟩ := mnaR_get hx
        exact hA _ (by have := hS.1; show H0.size ≤ H.size + 1 + _; omega)
  obtain ⟨t, a1, b1⟩ := kk H.size F.heap hP2 hD2 ⟨by rw [f1]; have := hS.1; omega, fun x h1 h2 => (hold x (Nat.lt_of_lt_of_le h1 hS.1)).trans (hS.2.1 x h1 h2), hS.2.2⟩ F rfl X'
  refine ⟨t, step t ?_, b1⟩
  have e : T.heap.size = H.size := by rw [hT]
  rw [e]
  exact a1
end QMN
end
section
/-! PART 52: constructors: a land, the class -/
abbrev landW (z : QZ) (q1 q2 : Nat) : va_W := (([(q1, mnaO z 10 q1)] ++ mnaR z 10 8 q1) ++ [(q2, mnaO z 14 q2)]) ++ mnaR z 14 10 q2
def w2X0 (z : QZ) (w : va_W) (k0 a : Nat) (r : Nat × Nat) : va_W := (w.set k0 (a, .inr (0, [.ref r.1, .ref r.2, .int 0, .int 0, .int 0]))) ++ landW z r.1 r.2
set_option maxHeartbeats 4000000 in
set_option maxRecDepth 100000 in
theorem c_X0_init (l : Launch) (z : QZ) (w : va_W) (k0 a sz : Nat) (hw : w[k0]? = some (a, .inr (0, [.null, .null, .int 0, .int 0, .int 0]))) : Met l yX0_init wsX0_init ({ frames := 1, cells := 26, slots := 244, locals := 40 } : Room) (va_Pc [.ref a] (PreN z w sz)) (va_Qv (fun _ : Nat × Nat => True) (fun r t => va_P (zG z) vwCl (w2X0 z w k0 a r) t.heap ∧ va_D (va_A w sz) (w2X0 z w k0 a r)) (va_A w sz)) 26 244 (va_A w sz) := by
  refine Met.ofW (cc := cX0_init) (maxL := 1) (ret := none) (by decide) rfl ?_
  intro p e s m args below meth c s₁ B hml hv
  obtain ⟨rfl, hsz, hP, hK, hD0⟩ := hv
  have hin : meth.name = "<init>" := (name_of_methodNamed B.named B.method).1
  have C0 : Cx p s m (([.ref a] : List Value).toArray) meth c cX0_init 1 none yX0_init.cls wsX0_init := ⟨B.exec, B.bytes, B.returns, hml, findClass_of_methodNamed B.named, atoms_spec (ws := wsX0_init) B.pre, B.notSynchronized⟩
  obtain ⟨hx, hb, hr, hml, hown, hts, hlocks⟩ := id C0
  subst hsz
  have hD := hD0.self (sz := s.heap.size)
  generalize hAe : va_A w s.heap.size = A at hD ⊢
  have hA : ∀ q : Nat, s.heap.size ≤ q → A q := fun q h => by rw [← hAe]; exact Or.inr h
  have hS : va_S A s.heap s.heap [] := va_S.rf
  have hl := lv_entry ([.ref a]) (n := 1) (Nat.le_of_ble_eq_true rfl)
  rw [lg_entry_eq]
  generalize (lg_sl ([.ref a]) ++ List.replicate (1 - (lg_sl ([.ref a])).length) Slot.unset).toArray = ls at hl ⊢
  have hl : lv_has ls 1 [(0, .ref a)] := hl
  have hin0 : ∀ w ∈ u_ws RX0 TX0 5, w ∈ wsX0_init := by decide +kernel
  refine lv_aload_n hx hb dX0_init_0 rfl (lv_at hl 0 rfl) ?_
  refine W.objInit hx hb hown (hts (.methodLink RX0 3 objectInit) (by decide +kernel)) (hts (.instanceMethod objectInit) (by decide +kernel)) (hts _ (List.mem_cons_of_mem _ (List.mem_append_left _ (List.mem_of_getElem? (i := 2) rfl)))) rfl (by rw [hml]; exact hl.1) rfl dX0_init_1 (Nat.le_of_ble_eq_true rfl) (Nat.le_of_ble_eq_true rfl) ?_
  refine W.eq (g2 := F0 m 4 ls []) rfl ?_
  refine lv_aload_n hx hb dX0_init_4 rfl (lv_at hl 0 rfl) ?_
  refine lv_bipush (v := 10) hx hb dX0_init_5 (by decide) ?_
  refine lv_bipush (v := 8) hx hb dX0_init_7 (by decide) ?_
  refine q_mna C0 hK hP hD hS hA (by decide +kernel) (by decide +kernel) (N := 10) (K := 8) rfl rfl (by decide) (by decide) (Nat.le_of_ble_eq_true rfl) (Nat.le_of_ble_eq_true rfl) dX0_init_9 (fun q1 H hP hD hS => ?_)
  rw [List.append_assoc] at hP hD
  refine va_putF hx hb hts hin0 tyX0 tyX0_ok nmX0 hown hK.1 hP hD hS k0 (get_app hw) (ci := 0) rfl 0 (by decide) (hts _ (by decide +kernel : Cond.fieldLink RX0 13 (TX0 0).1 (TX0 0).2.1 (TX0 0).2.2.1 ∈ wsX0_init)) (fun _ h9 => h9) rfl hin rfl (tyX0_ok 0 (by decide)) rfl rfl (show 0 < 5 by decide) dX0_init_13 (fun H locs hP hD hS => ?_)
  rw [set_app hw] at hP hD
  have hw1 := get_set (y := (a, (.inr (0, [.ref q1, .null, .int 0, .int 0, .int 0]) : va_E))) hw
  have hP : va_P (zG z) vwCl (w.set k0 (a, .inr (0, [.ref q1, .null, .int 0, .int 0, .int 0])) ++ ([(q1, mnaO z 10 q1)] ++ mnaR z 10 8 q1)) H := hP
  have hD : va_D A (w.set k0 (a, .inr (0, [.ref q1, .null, .int 0, .int 0, .int 0])) ++ ([(q1, mnaO z 10 q1)] ++ mnaR z 10 8 q1)) := hD
  generalize hW1 : w.set k0 (a, (.inr (0, [.ref q1, .null, .int 0, .int 0, .int 0]) : va_E)) = W1 at hP hD hw1
  refine lv_aload_n hx hb dX0_init_16 rfl (lv_at hl 0 rfl) ?_
  refine lv_bipush (v := 14) hx hb dX0_init_17 (by decide) ?_
  refine lv_bipush (v := 10) hx hb dX0_init_19 (by decide) ?_
  refine q_mna C0 hK hP hD hS hA (by decide +kernel) (by decide +kernel) (N := 14) (K := 10) rfl rfl (by decide) (by decide) (Nat.le_of_ble_eq_true rfl) (Nat.le_of_ble_eq_true rfl) dX0_init_21 (fun q2 H hP hD hS => ?_)
  rw [List.append_assoc W1, List.append_assoc W1] at hP hD
  refine va_putF hx hb hts hin0 tyX0 tyX0_ok nmX0 hown hK.1 hP hD hS k0 (get_app hw1) (ci := 0) rfl 1 (by decide) (hts _ (by decide +kernel : Cond.fieldLink RX0 16 (TX0 1).1 (TX0 1).2.1 (TX0 1).2.2.1 ∈ wsX0_init)) (fun _ h9 => h9) rfl hin rfl (tyX0_ok 1 (by decide)) rfl rfl (show 1 < 5 by decide) dX0_init_25 (fun H locs hP hD hS => ?_)
  rw [set_app hw1] at hP hD
  have e6 : W1.set k0 (a, (.inr (0, [Value.ref q1, .null, .int 0, .int 0, .int 0].set 1 (.ref q2)) : va_E)) = w.set k0 (a, .inr (0, [.ref q1, .ref q2, .int 0, .int 0, .int 0])) := by
    rw [← hW1, List.set_set]; rfl
  rw [e6] at hP hD
  refine W.widen (k := 26) (n := 244) (Nat.le_of_ble_eq_true rfl) (Nat.le_of_ble_eq_true rfl) ?_
  exact W.vret hx hb hr (fun t ht hW => ⟨⟨(q1, q2), rfl, trivial, by rw [ht]; exact hP, hD⟩, hS.F ht⟩) hS.2.2 dX0_init_28 hlocks
end
section
/-! PART 53: the class's constructor -/
theorem gX1i : GoodIn wsX1_init wsX0_init := goodIn_of _ (by decide +kernel)
theorem vaA_sub {A : Nat → Prop} {w : va_W} {H0 H : Heap} {locs : List Loc} (hD : va_D A w) (hS : va_S A H0 H locs) (hA : ∀ q, H0.size ≤ q → A q) : ∀ q, va_A w H.size q → A q := by
  rintro q (⟨k, e, hk⟩ | h)
  · exact hD.2 k _ hk
  · exact hA q (Nat.le_trans hS.1 h)
theorem w2X0_snoc {z : QZ} {w : va_W} {b : Nat} {r : Nat × Nat} {y : Nat × va_E} : w2X0 z (w ++ [y]) w.length b r = w ++ ((b, (.inr (0, [.ref r.1, .ref r.2, .int 0, .int 0, .int 0]) : va_E)) :: landW z r.1 r.2) := by
  unfold w2X0
  rw [List.set_append_right _ _ (Nat.le_refl _), Nat.sub_self, List.append_assoc]
  rfl
theorem snoc_get {w : va_W} {y : Nat × va_E} : (w ++ [y])[w.length]? = some y := by simp
abbrev landO (z : QZ) (b : Nat) (r : Nat × Nat) : va_W := (b, (.inr (0, [.ref r.1, .ref r.2, .int 0, .int 0, .int 0]) : va_E)) :: landW z r.1 r.2
def w2X1 (z : QZ) (w : va_W) (k0 a : Nat) (r : (Nat × Nat × Nat) × (Nat × Nat × Nat)) : va_W := w.set k0 (a, .inr (1, [.ref r.1.1, .ref r.2.1])) ++ (landO z r.1.1 r.1.2 ++ landO z r.2.1 r.2.2)
set_option maxHeartbeats 4000000 in
set_option maxRecDepth 100000 in
theorem c_X1_init (l : Launch) (z : QZ) (w : va_W) (k0 a sz : Nat) (hw : w[k0]? = some (a, .inr (1, [.null, .null]))) : Met l yX1_init wsX1_init ({ frames := 2, cells := 54, slots := 498, locals := 80 } : Room) (va_Pc [.ref a] (PreN z w sz)) (va_Qv (fun _ : (Nat × Nat × Nat) × (Nat × Nat × Nat) => True) (fun r t => va_P (zG z) vwCl (w2X1 z w k0 a r) t.heap ∧ va_D (va_A w sz) (w2X1 z w k0 a r)) (va_A w sz)) 54 498 (va_A w sz) := by
  refine Met.ofW (cc := cX1_init) (maxL := 1) (ret := none) (by decide) rfl ?_
  intro p e s m args below meth c s₁ B hml hv
  obtain ⟨rfl, hsz, hP, hK, hD0⟩ := hv
  have hin : meth.name = "<init>" := (name_of_methodNamed B.named B.method).1
  have C0 : Cx p s m (([.ref a] : List Value).toArray) meth c cX1_init 1 none yX1_init.cls wsX1_init := ⟨B.exec, B.bytes, B.returns, hml, findClass_of_methodNamed B.named, atoms_spec (ws := wsX1_init) B.pre, B.notSynchronized⟩
  obtain ⟨hx, hb, hr, hml, hown, hts, hlocks⟩ := id C0
  subst hsz
  have hD := hD0.self (sz := s.heap.size)
  generalize hAe : va_A w s.heap.size = A at hD ⊢
  have hA : ∀ q : Nat, s.heap.size ≤ q → A q := fun q h => by rw [← hAe]; exact Or.inr h
  have hS : va_S A s.heap s.heap [] := va_S.rf
  have hl := lv_entry ([.ref a]) (n := 1) (Nat.le_of_ble_eq_true rfl)
  rw [lg_entry_eq]
  generalize (lg_sl ([.ref a]) ++ List.replicate (1 - (lg_sl ([.ref a])).length) Slot.unset).toArray = ls at hl ⊢
  have hl : lv_has ls 1 [(0, .ref a)] := hl
  have hin0 : ∀ w ∈ u_ws RX0 TX0 5, w ∈ wsX1_init := by decide +kernel
  have hin1 : ∀ w ∈ u_ws RX1 TX1 2, w ∈ wsX1_init := by decide +kernel
  refine lv_aload_n hx hb dX1_init_0 rfl (lv_at hl 0 rfl) ?_
  refine W.objInit hx hb hown (hts (.methodLink RX1 1 objectInit) (by decide +kernel)) (hts (.instanceMethod objectInit) (by decide +kernel)) (hts _ (List.mem_cons_of_mem _ (List.mem_append_left _ (List.mem_append_left _ (List.mem_of_getElem? (i := 2) rfl))))) rfl (by rw [hml]; exact hl.1) rfl dX1_init_1 (Nat.le_of_ble_eq_true rfl) (Nat.le_of_ble_eq_true rfl) ?_
  refine W.eq (g2 := F0 m 4 ls []) rfl ?_
  refine lv_aload_n hx hb dX1_init_4 rfl (lv_at hl 0 rfl) ?_
  refine va_new (ci := 0) (fs := [.null, .null, .int 0, .int 0, .int 0]) (C := RX0) (T := TX0) (N := 5) hx hb hts hin0 tyX0 tyX0_ok hown (hts (.classLink RX1 7 RX0) (by decide +kernel)) (hts (.instantiable RX0 5) (by decide +kernel)) (hts (.initialized RX0) (by decide +kernel)) hK.1 hP hD hS hA rfl (fun j hj => by rcases (show j = 0 ∨ j = 1 ∨ j = 2 ∨ j = 3 ∨ j = 4 by omega) with rfl | rfl | rfl | rfl | rfl <;> rfl) (Nat.le_of_ble_eq_true rfl) (Nat.le_of_ble_eq_true rfl) dX1_init_5 (fun b1 H hP hD hS => ?_)
  refine lv_dup hx hb dX1_init_8 rfl ?_
  refine va_callv (va_runI (As := []) (rest := [.ref b1, .ref a]) ⟨hx, hb, hml, hown, hts⟩ (c_X0_init l z _ w.length b1 H.size snoc_get) (cwI 0 hts gX1i rfl rfl rfl (hts (.initialized RX0) (by decide +kernel)) (hts (.methodLink RX1 9 yX0_init) (by decide +kernel)) (hts (.instanceMethod yX0_init) (by decide +kernel)) rfl (by decide +kernel) ⟨Nat.le_of_ble_eq_true rfl, Nat.le_of_ble_eq_true rfl⟩) ⟨preN_blind, fun U hU hW => ⟨rfl, by rw [hU], by rw [hU]; exact hP, QK.warm hW hK, hD.weaken (fun _ _ _ _ => trivial)⟩⟩ rfl rfl hl.1 rfl (lv_room (Nat.le_of_ble_eq_true rfl)) dX1_init_9 ⟨Nat.le_of_ble_eq_true rfl, Nat.le_of_ble_eq_true rfl⟩) hS (fun q _ h => vaA_sub hD hS hA q h) (vaA_sub hD hS hA) (fun r1 t H1 locs1 ht hvm h5 hB hz1 hk1 hS1 => ?_)
  obtain ⟨hP1, hD1⟩ := hB
  rw [ht] at hP1
  have hD1 := hD1.weaken (B := A) (fun _ q _ h => vaA_sub hD hS hA q.1 h)
  rw [w2X0_snoc] at hP1 hD1
  clear hP hD hS h5 hz1 hk1
  refine va_putF hx hb hts hin1 tyX1 tyX1_ok nmX1 hown hK.1 hP1 hD1 hS1 k0 (get_app hw) (ci := 1) rfl 0 (by decide) (hts _ (by decide +kernel : Cond.fieldLink RX1 10 (TX1 0).1 (TX1 0).2.1 (TX1 0).2.2.1 ∈ wsX1_init)) (fun _ h9 => h9) rfl hin rfl (tyX1_ok 0 (by decide)) rfl rfl (show 0 < 2 by decide) dX1_init_12 (fun H locs hP hD hS => ?_)
  rw [set_app hw] at hP hD
  have hw1 := get_set (y := (a, (.inr (1, [.ref b1, .null]) : va_E))) hw
  have hP : va_P (zG z) vwCl (w.set k0 (a, .inr (1, [.ref b1, .null])) ++ landO z b1 r1) H := hP
  have hD : va_D A (w.set k0 (a, .inr (1, [.ref b1, .null])) ++ landO z b1 r1) := hD
  generalize hW1 : w.set k0 (a, (.inr (1, [.ref b1, .null]) : va_E)) = W1 at hP hD hw1
  refine lv_aload_n hx hb dX1_init_15 rfl (lv_at hl 0 rfl) ?_
  refine va_new (ci := 0) (fs := [.null, .null, .int 0, .int 0, .int 0]) (C := RX0) (T := TX0) (N := 5) hx hb hts hin0 tyX0 tyX0_ok hown (hts (.classLink RX1 7 RX0) (by decide +kernel)) (hts (.instantiable RX0 5) (by decide +kernel)) (hts (.initialized RX0) (by decide +kernel)) hK.1 hP hD hS hA rfl (fun j hj => by rcases (show j = 0 ∨ j = 1 ∨ j = 2 ∨ j = 3 ∨ j = 4 by omega) with rfl | rfl | rfl | rfl | rfl <;> rfl) (Nat.le_of_ble_eq_true rfl) (Nat.le_of_ble_eq_true rfl) dX1_init_16 (fun b2 H hP hD hS => ?_)
  refine lv_dup hx hb dX1_init_19 rfl ?_
  refine va_callv (va_runI (As := []) (rest := [.ref b2, .ref a]) ⟨hx, hb, hml, hown, hts⟩ (c_X0_init l z _ (W1 ++ landO z b1 r1).length b2 H.size snoc_get) (cwI 0 hts gX1i rfl rfl rfl (hts (.initialized RX0) (by decide +kernel)) (hts (.methodLink RX1 9 yX0_init) (by decide +kernel)) (hts (.instanceMethod yX0_init) (by decide +kernel)) rfl (by decide +kernel) ⟨Nat.le_of_ble_eq_true rfl, Nat.le_of_ble_eq_true rfl⟩) ⟨preN_blind, fun U hU hW => ⟨rfl, by rw [hU], by rw [hU]; exact hP, QK.warm hW hK, hD.weaken (fun _ _ _ _ => trivial)⟩⟩ rfl rfl hl.1 rfl (lv_room (Nat.le_of_ble_eq_true rfl)) dX1_init_20 ⟨Nat.le_of_ble_eq_true rfl, Nat.le_of_ble_eq_true rfl⟩) hS (fun q _ h => vaA_sub hD hS hA q h) (vaA_sub hD hS hA) (fun r2 t H1 locs1 ht hvm h5 hB hz1 hk1 hS1 => ?_)
  obtain ⟨hP1, hD1⟩ := hB
  rw [ht] at hP1
  have hD1 := hD1.weaken (B := A) (fun _ q _ h => vaA_sub hD hS hA q.1 h)
  rw [w2X0_snoc, List.append_assoc] at hP1 hD1
  clear hP hD hS h5 hz1 hk1
  refine va_putF hx hb hts hin1 tyX1 tyX1_ok nmX1 hown hK.1 hP1 hD1 hS1 k0 (get_app hw1) (ci := 1) rfl 1 (by decide) (hts _ (by decide +kernel : Cond.fieldLink RX1 16 (TX1 1).1 (TX1 1).2.1 (TX1 1).2.2.1 ∈ wsX1_init)) (fun _ h9 => h9) rfl hin rfl (tyX1_ok 1 (by decide)) rfl rfl (show 1 < 2 by decide) dX1_init_23 (fun H locs hP hD hS => ?_)
  rw [set_app hw1] at hP hD
  have e6 : W1.set k0 (a, (.inr (1, [Value.ref b1, .null].set 1 (.ref b2)) : va_E)) = w.set k0 (a, .inr (1, [.ref b1, .ref b2])) := by
    rw [← hW1, List.set_set]; rfl
  rw [e6] at hP hD
  refine W.widen (k := 54) (n := 498) (Nat.le_of_ble_eq_true rfl) (Nat.le_of_ble_eq_true rfl) ?_
  exact W.vret hx hb hr (fun t ht hW => ⟨⟨((b1, r1), (b2, r2)), rfl, trivial, by rw [ht]; exact hP, hD⟩, hS.F ht⟩) hS.2.2 dX1_init_26 hlocks
end
section
theorem dX2_init_0 : decode cX2_init 0 = .ok (.aload_n 0, 1) := by decide +kernel
theorem dX2_init_1 : decode cX2_init 1 = .ok (.invokespecial 1, 3) := by decide +kernel
theorem dX2_init_4 : decode cX2_init 4 = .ok (.return_, 1) := by decide +kernel
theorem dX3_init_0 : decode cX3_init 0 = .ok (.aload_n 0, 1) := by decide +kernel
theorem dX3_init_1 : decode cX3_init 1 = .ok (.invokespecial 1, 3) := by decide +kernel
theorem dX3_init_4 : decode cX3_init 4 = .ok (.aload_n 0, 1) := by decide +kernel
theorem dX3_init_5 : decode cX3_init 5 = .ok (.iconst 0, 1) := by decide +kernel
theorem dX3_init_6 : decode cX3_init 6 = .ok (.anewarray 7, 3) := by decide +kernel
theorem dX3_init_9 : decode cX3_init 9 = .ok (.putfield 9, 3) := by decide +kernel
theorem dX3_init_12 : decode cX3_init 12 = .ok (.aload_n 0, 1) := by decide +kernel
theorem dX3_init_13 : decode cX3_init 13 = .ok (.iconst 0, 1) := by decide +kernel
theorem dX3_init_14 : decode cX3_init 14 = .ok (.anewarray 15, 3) := by decide +kernel
theorem dX3_init_17 : decode cX3_init 17 = .ok (.putfield 17, 3) := by decide +kernel
theorem dX3_init_20 : decode cX3_init 20 = .ok (.return_, 1) := by decide +kernel
set_option maxRecDepth 20000 in
theorem ggX3_build_X4_init : GoodIn wsX3_build wsX4_init := goodIn_r _ [9, 10, 11, 12] (by decide +kernel) (by decide +kernel)
set_option maxRecDepth 20000 in
theorem gX3_build_X4_init_n33 : GoodIn wsX3_build (wsX4_init) := ggX3_build_X4_init
theorem dX3_build_0 : decode cX3_build 0 = .ok (.aload_n 0, 1) := by decide +kernel
theorem dX3_build_1 : decode cX3_build 1 = .ok (.getfield 9, 3) := by decide +kernel
theorem dX3_build_4 : decode cX3_build 4 = .ok (.arraylength, 1) := by decide +kernel
theorem dX3_build_5 : decode cX3_build 5 = .ok (.iconst 1, 1) := by decide +kernel
theorem dX3_build_6 : decode cX3_build 6 = .ok (.iadd, 1) := by decide +kernel
theorem dX3_build_7 : decode cX3_build 7 = .ok (.anewarray 7, 3) := by decide +kernel
theorem dX3_build_10 : decode cX3_build 10 = .ok (.astore 4, 2) := by decide +kernel
theorem dX3_build_12 : decode cX3_build 12 = .ok (.iconst 0, 1) := by decide +kernel
theorem dX3_build_13 : decode cX3_build 13 = .ok (.istore 5, 2) := by decide +kernel
theorem dX3_build_15 : decode cX3_build 15 = .ok (.iload 5, 2) := by decide +kernel
theorem dX3_build_17 : decode cX3_build 17 = .ok (.aload_n 0, 1) := by decide +kernel
theorem dX3_build_18 : decode cX3_build 18 = .ok (.getfield 9, 3) := by decide +kernel
theorem dX3_build_21 : decode cX3_build 21 = .ok (.arraylength, 1) := by decide +kernel
theorem dX3_build_22 : decode cX3_build 22 = .ok (.if_icmp .ge 21, 3) := by decide +kernel
theorem dX3_build_25 : decode cX3_build 25 = .ok (.aload 4, 2) := by decide +kernel
theorem dX3_build_27 : decode cX3_build 27 = .ok (.iload 5, 2) := by decide +kernel
theorem dX3_build_29 : decode cX3_build 29 = .ok (.aload_n 0, 1) := by decide +kernel
theorem dX3_build_30 : decode cX3_build 30 = .ok (.getfield 9, 3) := by decide +kernel
theorem dX3_build_33 : decode cX3_build 33 = .ok (.iload 5, 2) := by decide +kernel
theorem dX3_build_35 : decode cX3_build 35 = .ok (.aaload, 1) := by decide +kernel
theorem dX3_build_36 : decode cX3_build 36 = .ok (.aastore, 1) := by decide +kernel
theorem dX3_build_37 : decode cX3_build 37 = .ok (.iinc 5 1, 3) := by decide +kernel
theorem dX3_build_40 : decode cX3_build 40 = .ok (.goto (-25), 3) := by decide +kernel
theorem dX3_build_43 : decode cX3_build 43 = .ok (.new 7, 3) := by decide +kernel
theorem dX3_build_46 : decode cX3_build 46 = .ok (.dup, 1) := by decide +kernel
theorem dX3_build_47 : decode cX3_build 47 = .ok (.invokespecial 33, 3) := by decide +kernel
theorem dX3_build_50 : decode cX3_build 50 = .ok (.astore 5, 2) := by decide +kernel
theorem dX3_build_52 : decode cX3_build 52 = .ok (.aload 5, 2) := by decide +kernel
theorem dX3_build_54 : decode cX3_build 54 = .ok (.iload_n 1, 1) := by decide +kernel
theorem dX3_build_55 : decode cX3_build 55 = .ok (.putfield 34, 3) := by decide +kernel
theorem dX3_build_58 : decode cX3_build 58 = .ok (.aload 5, 2) := by decide +kernel
theorem dX3_build_60 : decode cX3_build 60 = .ok (.iload_n 2, 1) := by decide +kernel
theorem dX3_build_61 : decode cX3_build 61 = .ok (.putfield 37, 3) := by decide +kernel
theorem dX3_build_64 : decode cX3_build 64 = .ok (.aload 5, 2) := by decide +kernel
theorem dX3_build_66 : decode cX3_build 66 = .ok (.iload_n 3, 1) := by decide +kernel
theorem dX3_build_67 : decode cX3_build 67 = .ok (.putfield 40, 3) := by decide +kernel
theorem dX3_build_70 : decode cX3_build 70 = .ok (.aload 4, 2) := by decide +kernel
theorem dX3_build_72 : decode cX3_build 72 = .ok (.aload_n 0, 1) := by decide +kernel
theorem dX3_build_73 : decode cX3_build 73 = .ok (.getfield 9, 3) := by decide +kernel
theorem dX3_build_76 : decode cX3_build 76 = .ok (.arraylength, 1) := by decide +kernel
theorem dX3_build_77 : decode cX3_build 77 = .ok (.aload 5, 2) := by decide +kernel
theorem dX3_build_79 : decode cX3_build 79 = .ok (.aastore, 1) := by decide +kernel
theorem dX3_build_80 : decode cX3_build 80 = .ok (.aload_n 0, 1) := by decide +kernel
theorem dX3_build_81 : decode cX3_build 81 = .ok (.aload 4, 2) := by decide +kernel
theorem dX3_build_83 : decode cX3_build 83 = .ok (.putfield 9, 3) := by decide +kernel
theorem dX3_build_86 : decode cX3_build 86 = .ok (.return_, 1) := by decide +kernel
set_option maxRecDepth 20000 in
theorem ggX3_lay_X2_init : GoodIn wsX3_lay wsX2_init := goodIn_r _ [10, 11, 12, 13] (by decide +kernel) (by decide +kernel)
set_option maxRecDepth 20000 in
theorem gX3_lay_X2_init_n43 : GoodIn wsX3_lay (wsX2_init) := ggX3_lay_X2_init
theorem dX3_lay_0 : decode cX3_lay 0 = .ok (.aload_n 0, 1) := by decide +kernel
theorem dX3_lay_1 : decode cX3_lay 1 = .ok (.getfield 17, 3) := by decide +kernel
theorem dX3_lay_4 : decode cX3_lay 4 = .ok (.arraylength, 1) := by decide +kernel
theorem dX3_lay_5 : decode cX3_lay 5 = .ok (.iconst 1, 1) := by decide +kernel
theorem dX3_lay_6 : decode cX3_lay 6 = .ok (.iadd, 1) := by decide +kernel
theorem dX3_lay_7 : decode cX3_lay 7 = .ok (.anewarray 15, 3) := by decide +kernel
theorem dX3_lay_10 : decode cX3_lay 10 = .ok (.astore 5, 2) := by decide +kernel
theorem dX3_lay_12 : decode cX3_lay 12 = .ok (.iconst 0, 1) := by decide +kernel
theorem dX3_lay_13 : decode cX3_lay 13 = .ok (.istore 6, 2) := by decide +kernel
theorem dX3_lay_15 : decode cX3_lay 15 = .ok (.iload 6, 2) := by decide +kernel
theorem dX3_lay_17 : decode cX3_lay 17 = .ok (.aload_n 0, 1) := by decide +kernel
theorem dX3_lay_18 : decode cX3_lay 18 = .ok (.getfield 17, 3) := by decide +kernel
theorem dX3_lay_21 : decode cX3_lay 21 = .ok (.arraylength, 1) := by decide +kernel
theorem dX3_lay_22 : decode cX3_lay 22 = .ok (.if_icmp .ge 21, 3) := by decide +kernel
theorem dX3_lay_25 : decode cX3_lay 25 = .ok (.aload 5, 2) := by decide +kernel
theorem dX3_lay_27 : decode cX3_lay 27 = .ok (.iload 6, 2) := by decide +kernel
theorem dX3_lay_29 : decode cX3_lay 29 = .ok (.aload_n 0, 1) := by decide +kernel
theorem dX3_lay_30 : decode cX3_lay 30 = .ok (.getfield 17, 3) := by decide +kernel
theorem dX3_lay_33 : decode cX3_lay 33 = .ok (.iload 6, 2) := by decide +kernel
theorem dX3_lay_35 : decode cX3_lay 35 = .ok (.aaload, 1) := by decide +kernel
theorem dX3_lay_36 : decode cX3_lay 36 = .ok (.aastore, 1) := by decide +kernel
theorem dX3_lay_37 : decode cX3_lay 37 = .ok (.iinc 6 1, 3) := by decide +kernel
theorem dX3_lay_40 : decode cX3_lay 40 = .ok (.goto (-25), 3) := by decide +kernel
theorem dX3_lay_43 : decode cX3_lay 43 = .ok (.new 15, 3) := by decide +kernel
theorem dX3_lay_46 : decode cX3_lay 46 = .ok (.dup, 1) := by decide +kernel
theorem dX3_lay_47 : decode cX3_lay 47 = .ok (.invokespecial 43, 3) := by decide +kernel
theorem dX3_lay_50 : decode cX3_lay 50 = .ok (.astore 6, 2) := by decide +kernel
theorem dX3_lay_52 : decode cX3_lay 52 = .ok (.aload 6, 2) := by decide +kernel
theorem dX3_lay_54 : decode cX3_lay 54 = .ok (.iload_n 1, 1) := by decide +kernel
theorem dX3_lay_55 : decode cX3_lay 55 = .ok (.putfield 44, 3) := by decide +kernel
theorem dX3_lay_58 : decode cX3_lay 58 = .ok (.aload 6, 2) := by decide +kernel
theorem dX3_lay_60 : decode cX3_lay 60 = .ok (.iload_n 2, 1) := by decide +kernel
theorem dX3_lay_61 : decode cX3_lay 61 = .ok (.putfield 47, 3) := by decide +kernel
theorem dX3_lay_64 : decode cX3_lay 64 = .ok (.aload 6, 2) := by decide +kernel
theorem dX3_lay_66 : decode cX3_lay 66 = .ok (.iload_n 3, 1) := by decide +kernel
theorem dX3_lay_67 : decode cX3_lay 67 = .ok (.putfield 50, 3) := by decide +kernel
theorem dX3_lay_70 : decode cX3_lay 70 = .ok (.aload 6, 2) := by decide +kernel
theorem dX3_lay_72 : decode cX3_lay 72 = .ok (.iload 4, 2) := by decide +kernel
theorem dX3_lay_74 : decode cX3_lay 74 = .ok (.putfield 53, 3) := by decide +kernel
theorem dX3_lay_77 : decode cX3_lay 77 = .ok (.aload 5, 2) := by decide +kernel
theorem dX3_lay_79 : decode cX3_lay 79 = .ok (.aload_n 0, 1) := by decide +kernel
theorem dX3_lay_80 : decode cX3_lay 80 = .ok (.getfield 17, 3) := by decide +kernel
theorem dX3_lay_83 : decode cX3_lay 83 = .ok (.arraylength, 1) := by decide +kernel
theorem dX3_lay_84 : decode cX3_lay 84 = .ok (.aload 6, 2) := by decide +kernel
theorem dX3_lay_86 : decode cX3_lay 86 = .ok (.aastore, 1) := by decide +kernel
theorem dX3_lay_87 : decode cX3_lay 87 = .ok (.aload_n 0, 1) := by decide +kernel
theorem dX3_lay_88 : decode cX3_lay 88 = .ok (.aload 5, 2) := by decide +kernel
theorem dX3_lay_90 : decode cX3_lay 90 = .ok (.putfield 17, 3) := by decide +kernel
theorem dX3_lay_93 : decode cX3_lay 93 = .ok (.return_, 1) := by decide +kernel
theorem dX3_flows_0 : decode cX3_flows 0 = .ok (.aload_n 0, 1) := by decide +kernel
theorem dX3_flows_1 : decode cX3_flows 1 = .ok (.getfield 9, 3) := by decide +kernel
theorem dX3_flows_4 : decode cX3_flows 4 = .ok (.aload_n 1, 1) := by decide +kernel
theorem dX3_flows_5 : decode cX3_flows 5 = .ok (.getfield 44, 3) := by decide +kernel
theorem dX3_flows_8 : decode cX3_flows 8 = .ok (.aaload, 1) := by decide +kernel
theorem dX3_flows_9 : decode cX3_flows 9 = .ok (.astore_n 2, 1) := by decide +kernel
theorem dX3_flows_10 : decode cX3_flows 10 = .ok (.aload_n 0, 1) := by decide +kernel
theorem dX3_flows_11 : decode cX3_flows 11 = .ok (.getfield 9, 3) := by decide +kernel
theorem dX3_flows_14 : decode cX3_flows 14 = .ok (.aload_n 1, 1) := by decide +kernel
theorem dX3_flows_15 : decode cX3_flows 15 = .ok (.getfield 47, 3) := by decide +kernel
theorem dX3_flows_18 : decode cX3_flows 18 = .ok (.aaload, 1) := by decide +kernel
theorem dX3_flows_19 : decode cX3_flows 19 = .ok (.astore_n 3, 1) := by decide +kernel
theorem dX3_flows_20 : decode cX3_flows 20 = .ok (.bipush 10, 2) := by decide +kernel
theorem dX3_flows_22 : decode cX3_flows 22 = .ok (.aload_n 2, 1) := by decide +kernel
theorem dX3_flows_23 : decode cX3_flows 23 = .ok (.getfield 34, 3) := by decide +kernel
theorem dX3_flows_26 : decode cX3_flows 26 = .ok (.aload_n 3, 1) := by decide +kernel
theorem dX3_flows_27 : decode cX3_flows 27 = .ok (.getfield 34, 3) := by decide +kernel
theorem dX3_flows_30 : decode cX3_flows 30 = .ok (.isub, 1) := by decide +kernel
theorem dX3_flows_31 : decode cX3_flows 31 = .ok (.imul, 1) := by decide +kernel
theorem dX3_flows_32 : decode cX3_flows 32 = .ok (.aload_n 2, 1) := by decide +kernel
theorem dX3_flows_33 : decode cX3_flows 33 = .ok (.getfield 56, 3) := by decide +kernel
theorem dX3_flows_36 : decode cX3_flows 36 = .ok (.iadd, 1) := by decide +kernel
theorem dX3_flows_37 : decode cX3_flows 37 = .ok (.aload_n 3, 1) := by decide +kernel
theorem dX3_flows_38 : decode cX3_flows 38 = .ok (.getfield 56, 3) := by decide +kernel
theorem dX3_flows_41 : decode cX3_flows 41 = .ok (.isub, 1) := by decide +kernel
theorem dX3_flows_42 : decode cX3_flows 42 = .ok (.istore 4, 2) := by decide +kernel
theorem dX3_flows_44 : decode cX3_flows 44 = .ok (.iload 4, 2) := by decide +kernel
theorem dX3_flows_46 : decode cX3_flows 46 = .ok (.iconst 1, 1) := by decide +kernel
theorem dX3_flows_47 : decode cX3_flows 47 = .ok (.if_icmp .lt 23, 3) := by decide +kernel
theorem dX3_flows_50 : decode cX3_flows 50 = .ok (.iload 4, 2) := by decide +kernel
theorem dX3_flows_52 : decode cX3_flows 52 = .ok (.aload_n 1, 1) := by decide +kernel
theorem dX3_flows_53 : decode cX3_flows 53 = .ok (.getfield 53, 3) := by decide +kernel
theorem dX3_flows_56 : decode cX3_flows 56 = .ok (.if_icmp .lt 14, 3) := by decide +kernel
theorem dX3_flows_59 : decode cX3_flows 59 = .ok (.aload_n 1, 1) := by decide +kernel
theorem dX3_flows_60 : decode cX3_flows 60 = .ok (.getfield 50, 3) := by decide +kernel
theorem dX3_flows_63 : decode cX3_flows 63 = .ok (.aload_n 1, 1) := by decide +kernel
theorem dX3_flows_64 : decode cX3_flows 64 = .ok (.getfield 59, 3) := by decide +kernel
theorem dX3_flows_67 : decode cX3_flows 67 = .ok (.if_icmp .gt 5, 3) := by decide +kernel
theorem dX3_flows_70 : decode cX3_flows 70 = .ok (.iconst 0, 1) := by decide +kernel
theorem dX3_flows_71 : decode cX3_flows 71 = .ok (.ireturn, 1) := by decide +kernel
theorem dX3_flows_72 : decode cX3_flows 72 = .ok (.aload_n 1, 1) := by decide +kernel
theorem dX3_flows_73 : decode cX3_flows 73 = .ok (.getfield 50, 3) := by decide +kernel
theorem dX3_flows_76 : decode cX3_flows 76 = .ok (.aload_n 1, 1) := by decide +kernel
theorem dX3_flows_77 : decode cX3_flows 77 = .ok (.getfield 59, 3) := by decide +kernel
theorem dX3_flows_80 : decode cX3_flows 80 = .ok (.isub, 1) := by decide +kernel
theorem dX3_flows_81 : decode cX3_flows 81 = .ok (.istore 5, 2) := by decide +kernel
theorem dX3_flows_83 : decode cX3_flows 83 = .ok (.iload 5, 2) := by decide +kernel
theorem dX3_flows_85 : decode cX3_flows 85 = .ok (.iconst 1, 1) := by decide +kernel
theorem dX3_flows_86 : decode cX3_flows 86 = .ok (.iload 4, 2) := by decide +kernel
theorem dX3_flows_88 : decode cX3_flows 88 = .ok (.bipush 10, 2) := by decide +kernel
theorem dX3_flows_90 : decode cX3_flows 90 = .ok (.idiv, 1) := by decide +kernel
theorem dX3_flows_91 : decode cX3_flows 91 = .ok (.iadd, 1) := by decide +kernel
theorem dX3_flows_92 : decode cX3_flows 92 = .ok (.if_icmp .le 12, 3) := by decide +kernel
theorem dX3_flows_95 : decode cX3_flows 95 = .ok (.iconst 1, 1) := by decide +kernel
theorem dX3_flows_96 : decode cX3_flows 96 = .ok (.iload 4, 2) := by decide +kernel
theorem dX3_flows_98 : decode cX3_flows 98 = .ok (.bipush 10, 2) := by decide +kernel
theorem dX3_flows_100 : decode cX3_flows 100 = .ok (.idiv, 1) := by decide +kernel
theorem dX3_flows_101 : decode cX3_flows 101 = .ok (.iadd, 1) := by decide +kernel
theorem dX3_flows_102 : decode cX3_flows 102 = .ok (.istore 5, 2) := by decide +kernel
theorem dX3_flows_104 : decode cX3_flows 104 = .ok (.iload 5, 2) := by decide +kernel
theorem dX3_flows_106 : decode cX3_flows 106 = .ok (.aload_n 2, 1) := by decide +kernel
theorem dX3_flows_107 : decode cX3_flows 107 = .ok (.getfield 56, 3) := by decide +kernel
theorem dX3_flows_110 : decode cX3_flows 110 = .ok (.if_icmp .le 10, 3) := by decide +kernel
theorem dX3_flows_113 : decode cX3_flows 113 = .ok (.aload_n 2, 1) := by decide +kernel
theorem dX3_flows_114 : decode cX3_flows 114 = .ok (.getfield 56, 3) := by decide +kernel
theorem dX3_flows_117 : decode cX3_flows 117 = .ok (.goto 5, 3) := by decide +kernel
theorem dX3_flows_120 : decode cX3_flows 120 = .ok (.iload 5, 2) := by decide +kernel
theorem dX3_flows_122 : decode cX3_flows 122 = .ok (.ireturn, 1) := by decide +kernel
set_option maxRecDepth 20000 in
theorem ggX3_pass_X4_comes : GoodIn wsX3_pass wsX4_comes := goodIn_r _ [21, 22, 23, 24, 36, 37, 38, 39, 40, 41, 42, 43] (by decide +kernel) (by decide +kernel)
set_option maxRecDepth 20000 in
theorem gX3_pass_X4_comes : GoodIn wsX3_pass (wsV RX3 62 RX4 yX4_comes wsX4_comes) := goodIn_app (goodIn_of _ (by decide +kernel)) ggX3_pass_X4_comes
set_option maxRecDepth 20000 in
theorem ggX3_pass_X3_flows : GoodIn wsX3_pass wsX3_flows := goodIn_r _ [29, 1, 4, 11, 30, 10, 31, 32, 13, 33, 34, 35, 44, 45, 46, 47, 48, 49, 50, 51, 52, 36, 37, 38, 39, 40, 41, 42, 43] (by decide +kernel) (by decide +kernel)
set_option maxRecDepth 20000 in
theorem gX3_pass_X3_flows : GoodIn wsX3_pass (wsV RX3 66 RX3 yX3_flows wsX3_flows) := goodIn_app (goodIn_of _ (by decide +kernel)) ggX3_pass_X3_flows
theorem dX3_pass_0 : decode cX3_pass 0 = .ok (.iconst 0, 1) := by decide +kernel
theorem dX3_pass_1 : decode cX3_pass 1 = .ok (.istore_n 1, 1) := by decide +kernel
theorem dX3_pass_2 : decode cX3_pass 2 = .ok (.aload_n 0, 1) := by decide +kernel
theorem dX3_pass_3 : decode cX3_pass 3 = .ok (.getfield 9, 3) := by decide +kernel
theorem dX3_pass_6 : decode cX3_pass 6 = .ok (.astore_n 2, 1) := by decide +kernel
theorem dX3_pass_7 : decode cX3_pass 7 = .ok (.aload_n 2, 1) := by decide +kernel
theorem dX3_pass_8 : decode cX3_pass 8 = .ok (.arraylength, 1) := by decide +kernel
theorem dX3_pass_9 : decode cX3_pass 9 = .ok (.istore_n 3, 1) := by decide +kernel
theorem dX3_pass_10 : decode cX3_pass 10 = .ok (.iconst 0, 1) := by decide +kernel
theorem dX3_pass_11 : decode cX3_pass 11 = .ok (.istore 4, 2) := by decide +kernel
theorem dX3_pass_13 : decode cX3_pass 13 = .ok (.iload 4, 2) := by decide +kernel
theorem dX3_pass_15 : decode cX3_pass 15 = .ok (.iload_n 3, 1) := by decide +kernel
theorem dX3_pass_16 : decode cX3_pass 16 = .ok (.if_icmp .ge 32, 3) := by decide +kernel
theorem dX3_pass_19 : decode cX3_pass 19 = .ok (.aload_n 2, 1) := by decide +kernel
theorem dX3_pass_20 : decode cX3_pass 20 = .ok (.iload 4, 2) := by decide +kernel
theorem dX3_pass_22 : decode cX3_pass 22 = .ok (.aaload, 1) := by decide +kernel
theorem dX3_pass_23 : decode cX3_pass 23 = .ok (.astore 5, 2) := by decide +kernel
theorem dX3_pass_25 : decode cX3_pass 25 = .ok (.aload 5, 2) := by decide +kernel
theorem dX3_pass_27 : decode cX3_pass 27 = .ok (.aload 5, 2) := by decide +kernel
theorem dX3_pass_29 : decode cX3_pass 29 = .ok (.getfield 37, 3) := by decide +kernel
theorem dX3_pass_32 : decode cX3_pass 32 = .ok (.aload 5, 2) := by decide +kernel
theorem dX3_pass_34 : decode cX3_pass 34 = .ok (.getfield 37, 3) := by decide +kernel
theorem dX3_pass_37 : decode cX3_pass 37 = .ok (.iconst 4, 1) := by decide +kernel
theorem dX3_pass_38 : decode cX3_pass 38 = .ok (.idiv, 1) := by decide +kernel
theorem dX3_pass_39 : decode cX3_pass 39 = .ok (.invokevirtual 62, 3) := by decide +kernel
theorem dX3_pass_42 : decode cX3_pass 42 = .ok (.iinc 4 1, 3) := by decide +kernel
theorem dX3_pass_45 : decode cX3_pass 45 = .ok (.goto (-32), 3) := by decide +kernel
theorem dX3_pass_48 : decode cX3_pass 48 = .ok (.aload_n 0, 1) := by decide +kernel
theorem dX3_pass_49 : decode cX3_pass 49 = .ok (.getfield 17, 3) := by decide +kernel
theorem dX3_pass_52 : decode cX3_pass 52 = .ok (.astore_n 2, 1) := by decide +kernel
theorem dX3_pass_53 : decode cX3_pass 53 = .ok (.aload_n 2, 1) := by decide +kernel
theorem dX3_pass_54 : decode cX3_pass 54 = .ok (.arraylength, 1) := by decide +kernel
theorem dX3_pass_55 : decode cX3_pass 55 = .ok (.istore_n 3, 1) := by decide +kernel
theorem dX3_pass_56 : decode cX3_pass 56 = .ok (.iconst 0, 1) := by decide +kernel
theorem dX3_pass_57 : decode cX3_pass 57 = .ok (.istore 4, 2) := by decide +kernel
theorem dX3_pass_59 : decode cX3_pass 59 = .ok (.iload 4, 2) := by decide +kernel
theorem dX3_pass_61 : decode cX3_pass 61 = .ok (.iload_n 3, 1) := by decide +kernel
theorem dX3_pass_62 : decode cX3_pass 62 = .ok (.if_icmp .ge 197, 3) := by decide +kernel
theorem dX3_pass_65 : decode cX3_pass 65 = .ok (.aload_n 2, 1) := by decide +kernel
theorem dX3_pass_66 : decode cX3_pass 66 = .ok (.iload 4, 2) := by decide +kernel
theorem dX3_pass_68 : decode cX3_pass 68 = .ok (.aaload, 1) := by decide +kernel
theorem dX3_pass_69 : decode cX3_pass 69 = .ok (.astore 5, 2) := by decide +kernel
theorem dX3_pass_71 : decode cX3_pass 71 = .ok (.aload_n 0, 1) := by decide +kernel
theorem dX3_pass_72 : decode cX3_pass 72 = .ok (.getfield 9, 3) := by decide +kernel
theorem dX3_pass_75 : decode cX3_pass 75 = .ok (.aload 5, 2) := by decide +kernel
theorem dX3_pass_77 : decode cX3_pass 77 = .ok (.getfield 44, 3) := by decide +kernel
theorem dX3_pass_80 : decode cX3_pass 80 = .ok (.aaload, 1) := by decide +kernel
theorem dX3_pass_81 : decode cX3_pass 81 = .ok (.astore 6, 2) := by decide +kernel
theorem dX3_pass_83 : decode cX3_pass 83 = .ok (.aload 5, 2) := by decide +kernel
theorem dX3_pass_85 : decode cX3_pass 85 = .ok (.aload_n 0, 1) := by decide +kernel
theorem dX3_pass_86 : decode cX3_pass 86 = .ok (.aload 5, 2) := by decide +kernel
theorem dX3_pass_88 : decode cX3_pass 88 = .ok (.invokevirtual 66, 3) := by decide +kernel
theorem dX3_pass_91 : decode cX3_pass 91 = .ok (.putfield 70, 3) := by decide +kernel
theorem dX3_pass_94 : decode cX3_pass 94 = .ok (.aload 5, 2) := by decide +kernel
theorem dX3_pass_96 : decode cX3_pass 96 = .ok (.aload 5, 2) := by decide +kernel
theorem dX3_pass_98 : decode cX3_pass 98 = .ok (.getfield 73, 3) := by decide +kernel
theorem dX3_pass_101 : decode cX3_pass 101 = .ok (.aload 5, 2) := by decide +kernel
theorem dX3_pass_103 : decode cX3_pass 103 = .ok (.getfield 70, 3) := by decide +kernel
theorem dX3_pass_106 : decode cX3_pass 106 = .ok (.if_icmp .ge 11, 3) := by decide +kernel
theorem dX3_pass_109 : decode cX3_pass 109 = .ok (.aload 5, 2) := by decide +kernel
theorem dX3_pass_111 : decode cX3_pass 111 = .ok (.getfield 73, 3) := by decide +kernel
theorem dX3_pass_114 : decode cX3_pass 114 = .ok (.goto 8, 3) := by decide +kernel
theorem dX3_pass_117 : decode cX3_pass 117 = .ok (.aload 5, 2) := by decide +kernel
theorem dX3_pass_119 : decode cX3_pass 119 = .ok (.getfield 70, 3) := by decide +kernel
theorem dX3_pass_122 : decode cX3_pass 122 = .ok (.putfield 76, 3) := by decide +kernel
theorem dX3_pass_125 : decode cX3_pass 125 = .ok (.aload 5, 2) := by decide +kernel
theorem dX3_pass_127 : decode cX3_pass 127 = .ok (.dup, 1) := by decide +kernel
theorem dX3_pass_128 : decode cX3_pass 128 = .ok (.getfield 79, 3) := by decide +kernel
theorem dX3_pass_131 : decode cX3_pass 131 = .ok (.aload 5, 2) := by decide +kernel
theorem dX3_pass_133 : decode cX3_pass 133 = .ok (.getfield 76, 3) := by decide +kernel
theorem dX3_pass_136 : decode cX3_pass 136 = .ok (.iadd, 1) := by decide +kernel
theorem dX3_pass_137 : decode cX3_pass 137 = .ok (.putfield 79, 3) := by decide +kernel
theorem dX3_pass_140 : decode cX3_pass 140 = .ok (.aload 5, 2) := by decide +kernel
theorem dX3_pass_142 : decode cX3_pass 142 = .ok (.getfield 70, 3) := by decide +kernel
theorem dX3_pass_145 : decode cX3_pass 145 = .ok (.ifCond .ne 6, 3) := by decide +kernel
theorem dX3_pass_148 : decode cX3_pass 148 = .ok (.goto 105, 3) := by decide +kernel
theorem dX3_pass_151 : decode cX3_pass 151 = .ok (.aload 6, 2) := by decide +kernel
theorem dX3_pass_153 : decode cX3_pass 153 = .ok (.getfield 82, 3) := by decide +kernel
theorem dX3_pass_156 : decode cX3_pass 156 = .ok (.aload 5, 2) := by decide +kernel
theorem dX3_pass_158 : decode cX3_pass 158 = .ok (.getfield 70, 3) := by decide +kernel
theorem dX3_pass_161 : decode cX3_pass 161 = .ok (.imul, 1) := by decide +kernel
theorem dX3_pass_162 : decode cX3_pass 162 = .ok (.aload 6, 2) := by decide +kernel
theorem dX3_pass_164 : decode cX3_pass 164 = .ok (.getfield 56, 3) := by decide +kernel
theorem dX3_pass_167 : decode cX3_pass 167 = .ok (.idiv, 1) := by decide +kernel
theorem dX3_pass_168 : decode cX3_pass 168 = .ok (.istore 7, 2) := by decide +kernel
theorem dX3_pass_170 : decode cX3_pass 170 = .ok (.aload 6, 2) := by decide +kernel
theorem dX3_pass_172 : decode cX3_pass 172 = .ok (.dup, 1) := by decide +kernel
theorem dX3_pass_173 : decode cX3_pass 173 = .ok (.getfield 56, 3) := by decide +kernel
theorem dX3_pass_176 : decode cX3_pass 176 = .ok (.aload 5, 2) := by decide +kernel
theorem dX3_pass_178 : decode cX3_pass 178 = .ok (.getfield 70, 3) := by decide +kernel
theorem dX3_pass_181 : decode cX3_pass 181 = .ok (.isub, 1) := by decide +kernel
theorem dX3_pass_182 : decode cX3_pass 182 = .ok (.putfield 56, 3) := by decide +kernel
theorem dX3_pass_185 : decode cX3_pass 185 = .ok (.aload 6, 2) := by decide +kernel
theorem dX3_pass_187 : decode cX3_pass 187 = .ok (.dup, 1) := by decide +kernel
theorem dX3_pass_188 : decode cX3_pass 188 = .ok (.getfield 82, 3) := by decide +kernel
theorem dX3_pass_191 : decode cX3_pass 191 = .ok (.iload 7, 2) := by decide +kernel
theorem dX3_pass_193 : decode cX3_pass 193 = .ok (.isub, 1) := by decide +kernel
theorem dX3_pass_194 : decode cX3_pass 194 = .ok (.putfield 82, 3) := by decide +kernel
theorem dX3_pass_197 : decode cX3_pass 197 = .ok (.aload_n 0, 1) := by decide +kernel
theorem dX3_pass_198 : decode cX3_pass 198 = .ok (.getfield 9, 3) := by decide +kernel
theorem dX3_pass_201 : decode cX3_pass 201 = .ok (.aload 5, 2) := by decide +kernel
theorem dX3_pass_203 : decode cX3_pass 203 = .ok (.getfield 47, 3) := by decide +kernel
theorem dX3_pass_206 : decode cX3_pass 206 = .ok (.aaload, 1) := by decide +kernel
theorem dX3_pass_207 : decode cX3_pass 207 = .ok (.aload 5, 2) := by decide +kernel
theorem dX3_pass_209 : decode cX3_pass 209 = .ok (.getfield 70, 3) := by decide +kernel
theorem dX3_pass_212 : decode cX3_pass 212 = .ok (.aload 5, 2) := by decide +kernel
theorem dX3_pass_214 : decode cX3_pass 214 = .ok (.getfield 76, 3) := by decide +kernel
theorem dX3_pass_217 : decode cX3_pass 217 = .ok (.isub, 1) := by decide +kernel
theorem dX3_pass_218 : decode cX3_pass 218 = .ok (.iload 7, 2) := by decide +kernel
theorem dX3_pass_220 : decode cX3_pass 220 = .ok (.invokevirtual 62, 3) := by decide +kernel
theorem dX3_pass_223 : decode cX3_pass 223 = .ok (.aload_n 0, 1) := by decide +kernel
theorem dX3_pass_224 : decode cX3_pass 224 = .ok (.getfield 29, 3) := by decide +kernel
theorem dX3_pass_227 : decode cX3_pass 227 = .ok (.iconst 4, 1) := by decide +kernel
theorem dX3_pass_228 : decode cX3_pass 228 = .ok (.irem, 1) := by decide +kernel
theorem dX3_pass_229 : decode cX3_pass 229 = .ok (.ifCond .ne 24, 3) := by decide +kernel
theorem dX3_pass_232 : decode cX3_pass 232 = .ok (.aload 5, 2) := by decide +kernel
theorem dX3_pass_234 : decode cX3_pass 234 = .ok (.getfield 59, 3) := by decide +kernel
theorem dX3_pass_237 : decode cX3_pass 237 = .ok (.bipush 20, 2) := by decide +kernel
theorem dX3_pass_239 : decode cX3_pass 239 = .ok (.if_icmp .ge 14, 3) := by decide +kernel
theorem dX3_pass_242 : decode cX3_pass 242 = .ok (.aload 5, 2) := by decide +kernel
theorem dX3_pass_244 : decode cX3_pass 244 = .ok (.dup, 1) := by decide +kernel
theorem dX3_pass_245 : decode cX3_pass 245 = .ok (.getfield 59, 3) := by decide +kernel
theorem dX3_pass_248 : decode cX3_pass 248 = .ok (.iconst 1, 1) := by decide +kernel
theorem dX3_pass_249 : decode cX3_pass 249 = .ok (.iadd, 1) := by decide +kernel
theorem dX3_pass_250 : decode cX3_pass 250 = .ok (.putfield 59, 3) := by decide +kernel
theorem dX3_pass_253 : decode cX3_pass 253 = .ok (.iinc 4 1, 3) := by decide +kernel
theorem dX3_pass_256 : decode cX3_pass 256 = .ok (.goto (-197), 3) := by decide +kernel
theorem dX3_pass_259 : decode cX3_pass 259 = .ok (.aload_n 0, 1) := by decide +kernel
theorem dX3_pass_260 : decode cX3_pass 260 = .ok (.getfield 9, 3) := by decide +kernel
theorem dX3_pass_263 : decode cX3_pass 263 = .ok (.astore_n 2, 1) := by decide +kernel
theorem dX3_pass_264 : decode cX3_pass 264 = .ok (.aload_n 2, 1) := by decide +kernel
theorem dX3_pass_265 : decode cX3_pass 265 = .ok (.arraylength, 1) := by decide +kernel
theorem dX3_pass_266 : decode cX3_pass 266 = .ok (.istore_n 3, 1) := by decide +kernel
theorem dX3_pass_267 : decode cX3_pass 267 = .ok (.iconst 0, 1) := by decide +kernel
theorem dX3_pass_268 : decode cX3_pass 268 = .ok (.istore 4, 2) := by decide +kernel
theorem dX3_pass_270 : decode cX3_pass 270 = .ok (.iload 4, 2) := by decide +kernel
theorem dX3_pass_272 : decode cX3_pass 272 = .ok (.iload_n 3, 1) := by decide +kernel
theorem dX3_pass_273 : decode cX3_pass 273 = .ok (.if_icmp .ge 106, 3) := by decide +kernel
theorem dX3_pass_276 : decode cX3_pass 276 = .ok (.aload_n 2, 1) := by decide +kernel
theorem dX3_pass_277 : decode cX3_pass 277 = .ok (.iload 4, 2) := by decide +kernel
theorem dX3_pass_279 : decode cX3_pass 279 = .ok (.aaload, 1) := by decide +kernel
theorem dX3_pass_280 : decode cX3_pass 280 = .ok (.astore 5, 2) := by decide +kernel
theorem dX3_pass_282 : decode cX3_pass 282 = .ok (.aload 5, 2) := by decide +kernel
theorem dX3_pass_284 : decode cX3_pass 284 = .ok (.aload 5, 2) := by decide +kernel
theorem dX3_pass_286 : decode cX3_pass 286 = .ok (.getfield 82, 3) := by decide +kernel
theorem dX3_pass_289 : decode cX3_pass 289 = .ok (.bipush 49, 2) := by decide +kernel
theorem dX3_pass_291 : decode cX3_pass 291 = .ok (.if_icmp .le 13, 3) := by decide +kernel
theorem dX3_pass_294 : decode cX3_pass 294 = .ok (.aload 5, 2) := by decide +kernel
theorem dX3_pass_296 : decode cX3_pass 296 = .ok (.getfield 40, 3) := by decide +kernel
theorem dX3_pass_299 : decode cX3_pass 299 = .ok (.iconst 2, 1) := by decide +kernel
theorem dX3_pass_300 : decode cX3_pass 300 = .ok (.idiv, 1) := by decide +kernel
theorem dX3_pass_301 : decode cX3_pass 301 = .ok (.goto 8, 3) := by decide +kernel
theorem dX3_pass_304 : decode cX3_pass 304 = .ok (.aload 5, 2) := by decide +kernel
theorem dX3_pass_306 : decode cX3_pass 306 = .ok (.getfield 40, 3) := by decide +kernel
theorem dX3_pass_309 : decode cX3_pass 309 = .ok (.putfield 85, 3) := by decide +kernel
theorem dX3_pass_312 : decode cX3_pass 312 = .ok (.aload 5, 2) := by decide +kernel
theorem dX3_pass_314 : decode cX3_pass 314 = .ok (.getfield 85, 3) := by decide +kernel
theorem dX3_pass_317 : decode cX3_pass 317 = .ok (.aload 5, 2) := by decide +kernel
theorem dX3_pass_319 : decode cX3_pass 319 = .ok (.getfield 56, 3) := by decide +kernel
theorem dX3_pass_322 : decode cX3_pass 322 = .ok (.if_icmp .le 13, 3) := by decide +kernel
theorem dX3_pass_325 : decode cX3_pass 325 = .ok (.aload 5, 2) := by decide +kernel
theorem dX3_pass_327 : decode cX3_pass 327 = .ok (.aload 5, 2) := by decide +kernel
theorem dX3_pass_329 : decode cX3_pass 329 = .ok (.getfield 56, 3) := by decide +kernel
theorem dX3_pass_332 : decode cX3_pass 332 = .ok (.putfield 85, 3) := by decide +kernel
theorem dX3_pass_335 : decode cX3_pass 335 = .ok (.aload 5, 2) := by decide +kernel
theorem dX3_pass_337 : decode cX3_pass 337 = .ok (.dup, 1) := by decide +kernel
theorem dX3_pass_338 : decode cX3_pass 338 = .ok (.getfield 56, 3) := by decide +kernel
theorem dX3_pass_341 : decode cX3_pass 341 = .ok (.aload 5, 2) := by decide +kernel
theorem dX3_pass_343 : decode cX3_pass 343 = .ok (.getfield 85, 3) := by decide +kernel
theorem dX3_pass_346 : decode cX3_pass 346 = .ok (.isub, 1) := by decide +kernel
theorem dX3_pass_347 : decode cX3_pass 347 = .ok (.putfield 56, 3) := by decide +kernel
theorem dX3_pass_350 : decode cX3_pass 350 = .ok (.aload 5, 2) := by decide +kernel
theorem dX3_pass_352 : decode cX3_pass 352 = .ok (.dup, 1) := by decide +kernel
theorem dX3_pass_353 : decode cX3_pass 353 = .ok (.getfield 88, 3) := by decide +kernel
theorem dX3_pass_356 : decode cX3_pass 356 = .ok (.aload 5, 2) := by decide +kernel
theorem dX3_pass_358 : decode cX3_pass 358 = .ok (.getfield 85, 3) := by decide +kernel
theorem dX3_pass_361 : decode cX3_pass 361 = .ok (.iadd, 1) := by decide +kernel
theorem dX3_pass_362 : decode cX3_pass 362 = .ok (.putfield 88, 3) := by decide +kernel
theorem dX3_pass_365 : decode cX3_pass 365 = .ok (.iload_n 1, 1) := by decide +kernel
theorem dX3_pass_366 : decode cX3_pass 366 = .ok (.aload 5, 2) := by decide +kernel
theorem dX3_pass_368 : decode cX3_pass 368 = .ok (.getfield 85, 3) := by decide +kernel
theorem dX3_pass_371 : decode cX3_pass 371 = .ok (.iadd, 1) := by decide +kernel
theorem dX3_pass_372 : decode cX3_pass 372 = .ok (.istore_n 1, 1) := by decide +kernel
theorem dX3_pass_373 : decode cX3_pass 373 = .ok (.iinc 4 1, 3) := by decide +kernel
theorem dX3_pass_376 : decode cX3_pass 376 = .ok (.goto (-106), 3) := by decide +kernel
theorem dX3_pass_379 : decode cX3_pass 379 = .ok (.aload_n 0, 1) := by decide +kernel
theorem dX3_pass_380 : decode cX3_pass 380 = .ok (.dup, 1) := by decide +kernel
theorem dX3_pass_381 : decode cX3_pass 381 = .ok (.getfield 29, 3) := by decide +kernel
theorem dX3_pass_384 : decode cX3_pass 384 = .ok (.iconst 1, 1) := by decide +kernel
theorem dX3_pass_385 : decode cX3_pass 385 = .ok (.iadd, 1) := by decide +kernel
theorem dX3_pass_386 : decode cX3_pass 386 = .ok (.putfield 29, 3) := by decide +kernel
theorem dX3_pass_389 : decode cX3_pass 389 = .ok (.iload_n 1, 1) := by decide +kernel
theorem dX3_pass_390 : decode cX3_pass 390 = .ok (.ireturn, 1) := by decide +kernel
theorem dX3_water_0 : decode cX3_water 0 = .ok (.iconst 0, 1) := by decide +kernel
theorem dX3_water_1 : decode cX3_water 1 = .ok (.istore_n 1, 1) := by decide +kernel
theorem dX3_water_2 : decode cX3_water 2 = .ok (.aload_n 0, 1) := by decide +kernel
theorem dX3_water_3 : decode cX3_water 3 = .ok (.getfield 9, 3) := by decide +kernel
theorem dX3_water_6 : decode cX3_water 6 = .ok (.astore_n 2, 1) := by decide +kernel
theorem dX3_water_7 : decode cX3_water 7 = .ok (.aload_n 2, 1) := by decide +kernel
theorem dX3_water_8 : decode cX3_water 8 = .ok (.arraylength, 1) := by decide +kernel
theorem dX3_water_9 : decode cX3_water 9 = .ok (.istore_n 3, 1) := by decide +kernel
theorem dX3_water_10 : decode cX3_water 10 = .ok (.iconst 0, 1) := by decide +kernel
theorem dX3_water_11 : decode cX3_water 11 = .ok (.istore 4, 2) := by decide +kernel
theorem dX3_water_13 : decode cX3_water 13 = .ok (.iload 4, 2) := by decide +kernel
theorem dX3_water_15 : decode cX3_water 15 = .ok (.iload_n 3, 1) := by decide +kernel
theorem dX3_water_16 : decode cX3_water 16 = .ok (.if_icmp .ge 23, 3) := by decide +kernel
theorem dX3_water_19 : decode cX3_water 19 = .ok (.aload_n 2, 1) := by decide +kernel
theorem dX3_water_20 : decode cX3_water 20 = .ok (.iload 4, 2) := by decide +kernel
theorem dX3_water_22 : decode cX3_water 22 = .ok (.aaload, 1) := by decide +kernel
theorem dX3_water_23 : decode cX3_water 23 = .ok (.astore 5, 2) := by decide +kernel
theorem dX3_water_25 : decode cX3_water 25 = .ok (.iload_n 1, 1) := by decide +kernel
theorem dX3_water_26 : decode cX3_water 26 = .ok (.aload 5, 2) := by decide +kernel
theorem dX3_water_28 : decode cX3_water 28 = .ok (.getfield 56, 3) := by decide +kernel
theorem dX3_water_31 : decode cX3_water 31 = .ok (.iadd, 1) := by decide +kernel
theorem dX3_water_32 : decode cX3_water 32 = .ok (.istore_n 1, 1) := by decide +kernel
theorem dX3_water_33 : decode cX3_water 33 = .ok (.iinc 4 1, 3) := by decide +kernel
theorem dX3_water_36 : decode cX3_water 36 = .ok (.goto (-23), 3) := by decide +kernel
theorem dX3_water_39 : decode cX3_water 39 = .ok (.iload_n 1, 1) := by decide +kernel
theorem dX3_water_40 : decode cX3_water 40 = .ok (.ireturn, 1) := by decide +kernel
theorem dX3_lost_0 : decode cX3_lost 0 = .ok (.iconst 0, 1) := by decide +kernel
theorem dX3_lost_1 : decode cX3_lost 1 = .ok (.istore_n 1, 1) := by decide +kernel
theorem dX3_lost_2 : decode cX3_lost 2 = .ok (.aload_n 0, 1) := by decide +kernel
theorem dX3_lost_3 : decode cX3_lost 3 = .ok (.getfield 17, 3) := by decide +kernel
theorem dX3_lost_6 : decode cX3_lost 6 = .ok (.astore_n 2, 1) := by decide +kernel
theorem dX3_lost_7 : decode cX3_lost 7 = .ok (.aload_n 2, 1) := by decide +kernel
theorem dX3_lost_8 : decode cX3_lost 8 = .ok (.arraylength, 1) := by decide +kernel
theorem dX3_lost_9 : decode cX3_lost 9 = .ok (.istore_n 3, 1) := by decide +kernel
theorem dX3_lost_10 : decode cX3_lost 10 = .ok (.iconst 0, 1) := by decide +kernel
theorem dX3_lost_11 : decode cX3_lost 11 = .ok (.istore 4, 2) := by decide +kernel
theorem dX3_lost_13 : decode cX3_lost 13 = .ok (.iload 4, 2) := by decide +kernel
theorem dX3_lost_15 : decode cX3_lost 15 = .ok (.iload_n 3, 1) := by decide +kernel
theorem dX3_lost_16 : decode cX3_lost 16 = .ok (.if_icmp .ge 23, 3) := by decide +kernel
theorem dX3_lost_19 : decode cX3_lost 19 = .ok (.aload_n 2, 1) := by decide +kernel
theorem dX3_lost_20 : decode cX3_lost 20 = .ok (.iload 4, 2) := by decide +kernel
theorem dX3_lost_22 : decode cX3_lost 22 = .ok (.aaload, 1) := by decide +kernel
theorem dX3_lost_23 : decode cX3_lost 23 = .ok (.astore 5, 2) := by decide +kernel
theorem dX3_lost_25 : decode cX3_lost 25 = .ok (.iload_n 1, 1) := by decide +kernel
theorem dX3_lost_26 : decode cX3_lost 26 = .ok (.aload 5, 2) := by decide +kernel
theorem dX3_lost_28 : decode cX3_lost 28 = .ok (.getfield 79, 3) := by decide +kernel
theorem dX3_lost_31 : decode cX3_lost 31 = .ok (.iadd, 1) := by decide +kernel
theorem dX3_lost_32 : decode cX3_lost 32 = .ok (.istore_n 1, 1) := by decide +kernel
theorem dX3_lost_33 : decode cX3_lost 33 = .ok (.iinc 4 1, 3) := by decide +kernel
theorem dX3_lost_36 : decode cX3_lost 36 = .ok (.goto (-23), 3) := by decide +kernel
theorem dX3_lost_39 : decode cX3_lost 39 = .ok (.iload_n 1, 1) := by decide +kernel
theorem dX3_lost_40 : decode cX3_lost 40 = .ok (.ireturn, 1) := by decide +kernel
set_option maxRecDepth 20000 in
theorem ggX3_isSame_X1_tank : GoodIn wsX3_isSame wsX1_tank := goodIn_ca (goodIn_r _ [25, 26, 27, 28, 29, 30, 24, 31, 32, 33, 34, 35, 36, 37, 38, 39, 40, 142, 143, 144, 145, 146, 147, 148] (by decide +kernel) (by decide +kernel)) (goodIn_sub (fun _ h => List.mem_cons_of_mem _ (List.mem_append_right _ h)) (by decide +kernel))
set_option maxRecDepth 20000 in
theorem gX3_isSame_X1_tank : GoodIn wsX3_isSame (wsV RX3 92 RX1 yX1_tank wsX1_tank) := goodIn_app (goodIn_of _ (by decide +kernel)) ggX3_isSame_X1_tank
set_option maxRecDepth 20000 in
theorem ggX3_isSame_X3_flows : GoodIn wsX3_isSame wsX3_flows := goodIn_r _ [45, 1, 12, 13, 3, 6, 15, 14, 16, 122, 123, 124, 133, 134, 135, 136, 137, 138, 139, 140, 141, 125, 126, 127, 128, 129, 130, 131, 132] (by decide +kernel) (by decide +kernel)
set_option maxRecDepth 20000 in
theorem gX3_isSame_X3_flows : GoodIn wsX3_isSame (wsV RX3 66 RX3 yX3_flows wsX3_flows) := goodIn_app (goodIn_of _ (by decide +kernel)) ggX3_isSame_X3_flows
set_option maxRecDepth 20000 in
theorem ggX3_isSame_X1_pipe : GoodIn wsX3_isSame wsX1_pipe := goodIn_ca (goodIn_r _ [49, 26, 50, 51, 52, 24, 53, 54, 33, 34, 35, 36, 37, 38, 39, 40, 55, 56, 57, 58, 59, 60, 61, 62, 63, 64, 65, 66, 67, 68, 69, 70, 71, 72, 73, 74, 75, 142, 143, 144, 145, 146, 147, 148] (by decide +kernel) (by decide +kernel)) (goodIn_sub (fun _ h => List.mem_cons_of_mem _ (List.mem_append_right _ h)) (by decide +kernel))
set_option maxRecDepth 20000 in
theorem gX3_isSame_X1_pipe : GoodIn wsX3_isSame (wsV RX3 98 RX1 yX1_pipe wsX1_pipe) := goodIn_app (goodIn_of _ (by decide +kernel)) ggX3_isSame_X1_pipe
set_option maxRecDepth 20000 in
theorem ggX3_isSame_X3_water : GoodIn wsX3_isSame wsX3_water := goodIn_r _ [79, 1, 6, 122, 123, 124, 125, 126, 127, 128, 129, 130, 131, 132] (by decide +kernel) (by decide +kernel)
set_option maxRecDepth 20000 in
theorem gX3_isSame_X3_water : GoodIn wsX3_isSame (wsV RX3 101 RX3 yX3_water wsX3_water) := goodIn_app (goodIn_of _ (by decide +kernel)) ggX3_isSame_X3_water
set_option maxRecDepth 20000 in
theorem ggX3_isSame_X3_lost : GoodIn wsX3_isSame wsX3_lost := goodIn_r _ [83, 11, 19, 122, 123, 124, 133, 134, 135, 136, 137, 138, 139, 140, 141] (by decide +kernel) (by decide +kernel)
set_option maxRecDepth 20000 in
theorem gX3_isSame_X3_lost : GoodIn wsX3_isSame (wsV RX3 104 RX3 yX3_lost wsX3_lost) := goodIn_app (goodIn_of _ (by decide +kernel)) ggX3_isSame_X3_lost
set_option maxRecDepth 20000 in
theorem ggX3_isSame_X1_count : GoodIn wsX3_isSame wsX1_count := goodIn_ca (goodIn_r _ [87, 26, 38, 39, 24, 40, 33, 34, 35, 36, 37, 88, 89, 90, 58, 91, 92, 93, 94, 95, 96, 97, 98, 65, 99, 100, 101, 102, 60, 103, 104, 105, 106, 107, 108, 109, 110, 142, 143, 144, 145, 146, 147, 148] (by decide +kernel) (by decide +kernel)) (goodIn_sub (fun _ h => List.mem_cons_of_mem _ (List.mem_append_right _ h)) (by decide +kernel))
set_option maxRecDepth 20000 in
theorem gX3_isSame_X1_count : GoodIn wsX3_isSame (wsV RX3 106 RX1 yX1_count wsX1_count) := goodIn_app (goodIn_of _ (by decide +kernel)) ggX3_isSame_X1_count
set_option maxRecDepth 20000 in
theorem ggX3_isSame_X1_suspect : GoodIn wsX3_isSame wsX1_suspect := goodIn_r _ [114, 26, 54, 115, 142, 143, 144, 145, 146, 147, 148] (by decide +kernel) (by decide +kernel)
set_option maxRecDepth 20000 in
theorem gX3_isSame_X1_suspect : GoodIn wsX3_isSame (wsV RX3 110 RX1 yX1_suspect wsX1_suspect) := goodIn_app (goodIn_of _ (by decide +kernel)) ggX3_isSame_X1_suspect
set_option maxRecDepth 20000 in
theorem ggX3_isSame_X1_mean : GoodIn wsX3_isSame wsX1_mean := goodIn_r _ [119, 26, 120, 121, 96, 97, 58, 98, 93, 65, 142, 143, 144, 145, 146, 147, 148] (by decide +kernel) (by decide +kernel)
set_option maxRecDepth 20000 in
theorem gX3_isSame_X1_mean : GoodIn wsX3_isSame (wsV RX3 113 RX1 yX1_mean wsX1_mean) := goodIn_app (goodIn_of _ (by decide +kernel)) ggX3_isSame_X1_mean
theorem dX3_isSame_0 : decode cX3_isSame 0 = .ok (.iconst 0, 1) := by decide +kernel
theorem dX3_isSame_1 : decode cX3_isSame 1 = .ok (.istore_n 2, 1) := by decide +kernel
theorem dX3_isSame_2 : decode cX3_isSame 2 = .ok (.iconst 0, 1) := by decide +kernel
theorem dX3_isSame_3 : decode cX3_isSame 3 = .ok (.istore_n 3, 1) := by decide +kernel
theorem dX3_isSame_4 : decode cX3_isSame 4 = .ok (.iconst 0, 1) := by decide +kernel
theorem dX3_isSame_5 : decode cX3_isSame 5 = .ok (.istore 4, 2) := by decide +kernel
theorem dX3_isSame_7 : decode cX3_isSame 7 = .ok (.iconst 0, 1) := by decide +kernel
theorem dX3_isSame_8 : decode cX3_isSame 8 = .ok (.istore 5, 2) := by decide +kernel
theorem dX3_isSame_10 : decode cX3_isSame 10 = .ok (.iconst 0, 1) := by decide +kernel
theorem dX3_isSame_11 : decode cX3_isSame 11 = .ok (.istore 6, 2) := by decide +kernel
theorem dX3_isSame_13 : decode cX3_isSame 13 = .ok (.iload 6, 2) := by decide +kernel
theorem dX3_isSame_15 : decode cX3_isSame 15 = .ok (.aload_n 0, 1) := by decide +kernel
theorem dX3_isSame_16 : decode cX3_isSame 16 = .ok (.getfield 9, 3) := by decide +kernel
theorem dX3_isSame_19 : decode cX3_isSame 19 = .ok (.arraylength, 1) := by decide +kernel
theorem dX3_isSame_20 : decode cX3_isSame 20 = .ok (.if_icmp .ge 173, 3) := by decide +kernel
theorem dX3_isSame_23 : decode cX3_isSame 23 = .ok (.aload_n 0, 1) := by decide +kernel
theorem dX3_isSame_24 : decode cX3_isSame 24 = .ok (.getfield 9, 3) := by decide +kernel
theorem dX3_isSame_27 : decode cX3_isSame 27 = .ok (.iload 6, 2) := by decide +kernel
theorem dX3_isSame_29 : decode cX3_isSame 29 = .ok (.aaload, 1) := by decide +kernel
theorem dX3_isSame_30 : decode cX3_isSame 30 = .ok (.astore 7, 2) := by decide +kernel
theorem dX3_isSame_32 : decode cX3_isSame 32 = .ok (.bipush 8, 2) := by decide +kernel
theorem dX3_isSame_34 : decode cX3_isSame 34 = .ok (.newarray .int, 2) := by decide +kernel
theorem dX3_isSame_36 : decode cX3_isSame 36 = .ok (.dup, 1) := by decide +kernel
theorem dX3_isSame_37 : decode cX3_isSame 37 = .ok (.iconst 0, 1) := by decide +kernel
theorem dX3_isSame_38 : decode cX3_isSame 38 = .ok (.aload 7, 2) := by decide +kernel
theorem dX3_isSame_40 : decode cX3_isSame 40 = .ok (.getfield 34, 3) := by decide +kernel
theorem dX3_isSame_43 : decode cX3_isSame 43 = .ok (.iastore, 1) := by decide +kernel
theorem dX3_isSame_44 : decode cX3_isSame 44 = .ok (.dup, 1) := by decide +kernel
theorem dX3_isSame_45 : decode cX3_isSame 45 = .ok (.iconst 1, 1) := by decide +kernel
theorem dX3_isSame_46 : decode cX3_isSame 46 = .ok (.aload 7, 2) := by decide +kernel
theorem dX3_isSame_48 : decode cX3_isSame 48 = .ok (.getfield 37, 3) := by decide +kernel
theorem dX3_isSame_51 : decode cX3_isSame 51 = .ok (.iastore, 1) := by decide +kernel
theorem dX3_isSame_52 : decode cX3_isSame 52 = .ok (.dup, 1) := by decide +kernel
theorem dX3_isSame_53 : decode cX3_isSame 53 = .ok (.iconst 2, 1) := by decide +kernel
theorem dX3_isSame_54 : decode cX3_isSame 54 = .ok (.aload 7, 2) := by decide +kernel
theorem dX3_isSame_56 : decode cX3_isSame 56 = .ok (.getfield 40, 3) := by decide +kernel
theorem dX3_isSame_59 : decode cX3_isSame 59 = .ok (.iastore, 1) := by decide +kernel
theorem dX3_isSame_60 : decode cX3_isSame 60 = .ok (.dup, 1) := by decide +kernel
theorem dX3_isSame_61 : decode cX3_isSame 61 = .ok (.iconst 3, 1) := by decide +kernel
theorem dX3_isSame_62 : decode cX3_isSame 62 = .ok (.aload 7, 2) := by decide +kernel
theorem dX3_isSame_64 : decode cX3_isSame 64 = .ok (.getfield 56, 3) := by decide +kernel
theorem dX3_isSame_67 : decode cX3_isSame 67 = .ok (.iastore, 1) := by decide +kernel
theorem dX3_isSame_68 : decode cX3_isSame 68 = .ok (.dup, 1) := by decide +kernel
theorem dX3_isSame_69 : decode cX3_isSame 69 = .ok (.iconst 4, 1) := by decide +kernel
theorem dX3_isSame_70 : decode cX3_isSame 70 = .ok (.aload 7, 2) := by decide +kernel
theorem dX3_isSame_72 : decode cX3_isSame 72 = .ok (.getfield 82, 3) := by decide +kernel
theorem dX3_isSame_75 : decode cX3_isSame 75 = .ok (.iastore, 1) := by decide +kernel
theorem dX3_isSame_76 : decode cX3_isSame 76 = .ok (.dup, 1) := by decide +kernel
theorem dX3_isSame_77 : decode cX3_isSame 77 = .ok (.iconst 5, 1) := by decide +kernel
theorem dX3_isSame_78 : decode cX3_isSame 78 = .ok (.aload 7, 2) := by decide +kernel
theorem dX3_isSame_80 : decode cX3_isSame 80 = .ok (.getfield 85, 3) := by decide +kernel
theorem dX3_isSame_83 : decode cX3_isSame 83 = .ok (.iastore, 1) := by decide +kernel
theorem dX3_isSame_84 : decode cX3_isSame 84 = .ok (.dup, 1) := by decide +kernel
theorem dX3_isSame_85 : decode cX3_isSame 85 = .ok (.bipush 6, 2) := by decide +kernel
theorem dX3_isSame_87 : decode cX3_isSame 87 = .ok (.aload 7, 2) := by decide +kernel
theorem dX3_isSame_89 : decode cX3_isSame 89 = .ok (.getfield 88, 3) := by decide +kernel
theorem dX3_isSame_92 : decode cX3_isSame 92 = .ok (.iastore, 1) := by decide +kernel
theorem dX3_isSame_93 : decode cX3_isSame 93 = .ok (.dup, 1) := by decide +kernel
theorem dX3_isSame_94 : decode cX3_isSame 94 = .ok (.bipush 7, 2) := by decide +kernel
theorem dX3_isSame_96 : decode cX3_isSame 96 = .ok (.aload 7, 2) := by decide +kernel
theorem dX3_isSame_98 : decode cX3_isSame 98 = .ok (.getfield 89, 3) := by decide +kernel
theorem dX3_isSame_101 : decode cX3_isSame 101 = .ok (.iastore, 1) := by decide +kernel
theorem dX3_isSame_102 : decode cX3_isSame 102 = .ok (.astore 8, 2) := by decide +kernel
theorem dX3_isSame_104 : decode cX3_isSame 104 = .ok (.iconst 0, 1) := by decide +kernel
theorem dX3_isSame_105 : decode cX3_isSame 105 = .ok (.istore 9, 2) := by decide +kernel
theorem dX3_isSame_107 : decode cX3_isSame 107 = .ok (.iload 9, 2) := by decide +kernel
theorem dX3_isSame_109 : decode cX3_isSame 109 = .ok (.bipush 8, 2) := by decide +kernel
theorem dX3_isSame_111 : decode cX3_isSame 111 = .ok (.if_icmp .ge 27, 3) := by decide +kernel
theorem dX3_isSame_114 : decode cX3_isSame 114 = .ok (.aload_n 1, 1) := by decide +kernel
theorem dX3_isSame_115 : decode cX3_isSame 115 = .ok (.iload 6, 2) := by decide +kernel
theorem dX3_isSame_117 : decode cX3_isSame 117 = .ok (.iload 9, 2) := by decide +kernel
theorem dX3_isSame_119 : decode cX3_isSame 119 = .ok (.invokevirtual 92, 3) := by decide +kernel
theorem dX3_isSame_122 : decode cX3_isSame 122 = .ok (.aload 8, 2) := by decide +kernel
theorem dX3_isSame_124 : decode cX3_isSame 124 = .ok (.iload 9, 2) := by decide +kernel
theorem dX3_isSame_126 : decode cX3_isSame 126 = .ok (.iaload, 1) := by decide +kernel
theorem dX3_isSame_127 : decode cX3_isSame 127 = .ok (.if_icmp .eq 5, 3) := by decide +kernel
theorem dX3_isSame_130 : decode cX3_isSame 130 = .ok (.iconst 0, 1) := by decide +kernel
theorem dX3_isSame_131 : decode cX3_isSame 131 = .ok (.ireturn, 1) := by decide +kernel
theorem dX3_isSame_132 : decode cX3_isSame 132 = .ok (.iinc 9 1, 3) := by decide +kernel
theorem dX3_isSame_135 : decode cX3_isSame 135 = .ok (.goto (-28), 3) := by decide +kernel
theorem dX3_isSame_138 : decode cX3_isSame 138 = .ok (.iload_n 2, 1) := by decide +kernel
theorem dX3_isSame_139 : decode cX3_isSame 139 = .ok (.aload 7, 2) := by decide +kernel
theorem dX3_isSame_141 : decode cX3_isSame 141 = .ok (.getfield 82, 3) := by decide +kernel
theorem dX3_isSame_144 : decode cX3_isSame 144 = .ok (.iadd, 1) := by decide +kernel
theorem dX3_isSame_145 : decode cX3_isSame 145 = .ok (.istore_n 2, 1) := by decide +kernel
theorem dX3_isSame_146 : decode cX3_isSame 146 = .ok (.iload_n 3, 1) := by decide +kernel
theorem dX3_isSame_147 : decode cX3_isSame 147 = .ok (.aload 7, 2) := by decide +kernel
theorem dX3_isSame_149 : decode cX3_isSame 149 = .ok (.getfield 88, 3) := by decide +kernel
theorem dX3_isSame_152 : decode cX3_isSame 152 = .ok (.iadd, 1) := by decide +kernel
theorem dX3_isSame_153 : decode cX3_isSame 153 = .ok (.istore_n 3, 1) := by decide +kernel
theorem dX3_isSame_154 : decode cX3_isSame 154 = .ok (.iload 4, 2) := by decide +kernel
theorem dX3_isSame_156 : decode cX3_isSame 156 = .ok (.aload 7, 2) := by decide +kernel
theorem dX3_isSame_158 : decode cX3_isSame 158 = .ok (.getfield 89, 3) := by decide +kernel
theorem dX3_isSame_161 : decode cX3_isSame 161 = .ok (.iadd, 1) := by decide +kernel
theorem dX3_isSame_162 : decode cX3_isSame 162 = .ok (.istore 4, 2) := by decide +kernel
theorem dX3_isSame_164 : decode cX3_isSame 164 = .ok (.iload 5, 2) := by decide +kernel
theorem dX3_isSame_166 : decode cX3_isSame 166 = .ok (.aload 7, 2) := by decide +kernel
theorem dX3_isSame_168 : decode cX3_isSame 168 = .ok (.getfield 85, 3) := by decide +kernel
theorem dX3_isSame_171 : decode cX3_isSame 171 = .ok (.aload 7, 2) := by decide +kernel
theorem dX3_isSame_173 : decode cX3_isSame 173 = .ok (.getfield 40, 3) := by decide +kernel
theorem dX3_isSame_176 : decode cX3_isSame 176 = .ok (.if_icmp .ge 7, 3) := by decide +kernel
theorem dX3_isSame_179 : decode cX3_isSame 179 = .ok (.iconst 1, 1) := by decide +kernel
theorem dX3_isSame_180 : decode cX3_isSame 180 = .ok (.goto 4, 3) := by decide +kernel
theorem dX3_isSame_183 : decode cX3_isSame 183 = .ok (.iconst 0, 1) := by decide +kernel
theorem dX3_isSame_184 : decode cX3_isSame 184 = .ok (.iadd, 1) := by decide +kernel
theorem dX3_isSame_185 : decode cX3_isSame 185 = .ok (.istore 5, 2) := by decide +kernel
theorem dX3_isSame_187 : decode cX3_isSame 187 = .ok (.iinc 6 1, 3) := by decide +kernel
theorem dX3_isSame_190 : decode cX3_isSame 190 = .ok (.goto (-177), 3) := by decide +kernel
theorem dX3_isSame_193 : decode cX3_isSame 193 = .ok (.iconst (-1), 1) := by decide +kernel
theorem dX3_isSame_194 : decode cX3_isSame 194 = .ok (.istore 6, 2) := by decide +kernel
theorem dX3_isSame_196 : decode cX3_isSame 196 = .ok (.aload_n 0, 1) := by decide +kernel
theorem dX3_isSame_197 : decode cX3_isSame 197 = .ok (.getfield 17, 3) := by decide +kernel
theorem dX3_isSame_200 : decode cX3_isSame 200 = .ok (.arraylength, 1) := by decide +kernel
theorem dX3_isSame_201 : decode cX3_isSame 201 = .ok (.iconst 1, 1) := by decide +kernel
theorem dX3_isSame_202 : decode cX3_isSame 202 = .ok (.isub, 1) := by decide +kernel
theorem dX3_isSame_203 : decode cX3_isSame 203 = .ok (.istore 7, 2) := by decide +kernel
theorem dX3_isSame_205 : decode cX3_isSame 205 = .ok (.iload 7, 2) := by decide +kernel
theorem dX3_isSame_207 : decode cX3_isSame 207 = .ok (.ifCond .lt 169, 3) := by decide +kernel
theorem dX3_isSame_210 : decode cX3_isSame 210 = .ok (.aload_n 0, 1) := by decide +kernel
theorem dX3_isSame_211 : decode cX3_isSame 211 = .ok (.getfield 17, 3) := by decide +kernel
theorem dX3_isSame_214 : decode cX3_isSame 214 = .ok (.iload 7, 2) := by decide +kernel
theorem dX3_isSame_216 : decode cX3_isSame 216 = .ok (.aaload, 1) := by decide +kernel
theorem dX3_isSame_217 : decode cX3_isSame 217 = .ok (.astore 8, 2) := by decide +kernel
theorem dX3_isSame_219 : decode cX3_isSame 219 = .ok (.bipush 9, 2) := by decide +kernel
theorem dX3_isSame_221 : decode cX3_isSame 221 = .ok (.newarray .int, 2) := by decide +kernel
theorem dX3_isSame_223 : decode cX3_isSame 223 = .ok (.dup, 1) := by decide +kernel
theorem dX3_isSame_224 : decode cX3_isSame 224 = .ok (.iconst 0, 1) := by decide +kernel
theorem dX3_isSame_225 : decode cX3_isSame 225 = .ok (.aload 8, 2) := by decide +kernel
theorem dX3_isSame_227 : decode cX3_isSame 227 = .ok (.getfield 44, 3) := by decide +kernel
theorem dX3_isSame_230 : decode cX3_isSame 230 = .ok (.iastore, 1) := by decide +kernel
theorem dX3_isSame_231 : decode cX3_isSame 231 = .ok (.dup, 1) := by decide +kernel
theorem dX3_isSame_232 : decode cX3_isSame 232 = .ok (.iconst 1, 1) := by decide +kernel
theorem dX3_isSame_233 : decode cX3_isSame 233 = .ok (.aload 8, 2) := by decide +kernel
theorem dX3_isSame_235 : decode cX3_isSame 235 = .ok (.getfield 47, 3) := by decide +kernel
theorem dX3_isSame_238 : decode cX3_isSame 238 = .ok (.iastore, 1) := by decide +kernel
theorem dX3_isSame_239 : decode cX3_isSame 239 = .ok (.dup, 1) := by decide +kernel
theorem dX3_isSame_240 : decode cX3_isSame 240 = .ok (.iconst 2, 1) := by decide +kernel
theorem dX3_isSame_241 : decode cX3_isSame 241 = .ok (.aload 8, 2) := by decide +kernel
theorem dX3_isSame_243 : decode cX3_isSame 243 = .ok (.getfield 50, 3) := by decide +kernel
theorem dX3_isSame_246 : decode cX3_isSame 246 = .ok (.iastore, 1) := by decide +kernel
theorem dX3_isSame_247 : decode cX3_isSame 247 = .ok (.dup, 1) := by decide +kernel
theorem dX3_isSame_248 : decode cX3_isSame 248 = .ok (.iconst 3, 1) := by decide +kernel
theorem dX3_isSame_249 : decode cX3_isSame 249 = .ok (.aload 8, 2) := by decide +kernel
theorem dX3_isSame_251 : decode cX3_isSame 251 = .ok (.getfield 53, 3) := by decide +kernel
theorem dX3_isSame_254 : decode cX3_isSame 254 = .ok (.iastore, 1) := by decide +kernel
theorem dX3_isSame_255 : decode cX3_isSame 255 = .ok (.dup, 1) := by decide +kernel
theorem dX3_isSame_256 : decode cX3_isSame 256 = .ok (.iconst 4, 1) := by decide +kernel
theorem dX3_isSame_257 : decode cX3_isSame 257 = .ok (.aload 8, 2) := by decide +kernel
theorem dX3_isSame_259 : decode cX3_isSame 259 = .ok (.getfield 59, 3) := by decide +kernel
theorem dX3_isSame_262 : decode cX3_isSame 262 = .ok (.iastore, 1) := by decide +kernel
theorem dX3_isSame_263 : decode cX3_isSame 263 = .ok (.dup, 1) := by decide +kernel
theorem dX3_isSame_264 : decode cX3_isSame 264 = .ok (.iconst 5, 1) := by decide +kernel
theorem dX3_isSame_265 : decode cX3_isSame 265 = .ok (.aload 8, 2) := by decide +kernel
theorem dX3_isSame_267 : decode cX3_isSame 267 = .ok (.getfield 70, 3) := by decide +kernel
theorem dX3_isSame_270 : decode cX3_isSame 270 = .ok (.iastore, 1) := by decide +kernel
theorem dX3_isSame_271 : decode cX3_isSame 271 = .ok (.dup, 1) := by decide +kernel
theorem dX3_isSame_272 : decode cX3_isSame 272 = .ok (.bipush 6, 2) := by decide +kernel
theorem dX3_isSame_274 : decode cX3_isSame 274 = .ok (.aload 8, 2) := by decide +kernel
theorem dX3_isSame_276 : decode cX3_isSame 276 = .ok (.getfield 76, 3) := by decide +kernel
theorem dX3_isSame_279 : decode cX3_isSame 279 = .ok (.iastore, 1) := by decide +kernel
theorem dX3_isSame_280 : decode cX3_isSame 280 = .ok (.dup, 1) := by decide +kernel
theorem dX3_isSame_281 : decode cX3_isSame 281 = .ok (.bipush 7, 2) := by decide +kernel
theorem dX3_isSame_283 : decode cX3_isSame 283 = .ok (.aload 8, 2) := by decide +kernel
theorem dX3_isSame_285 : decode cX3_isSame 285 = .ok (.getfield 79, 3) := by decide +kernel
theorem dX3_isSame_288 : decode cX3_isSame 288 = .ok (.iastore, 1) := by decide +kernel
theorem dX3_isSame_289 : decode cX3_isSame 289 = .ok (.dup, 1) := by decide +kernel
theorem dX3_isSame_290 : decode cX3_isSame 290 = .ok (.bipush 8, 2) := by decide +kernel
theorem dX3_isSame_292 : decode cX3_isSame 292 = .ok (.aload_n 0, 1) := by decide +kernel
theorem dX3_isSame_293 : decode cX3_isSame 293 = .ok (.aload 8, 2) := by decide +kernel
theorem dX3_isSame_295 : decode cX3_isSame 295 = .ok (.invokevirtual 66, 3) := by decide +kernel
theorem dX3_isSame_298 : decode cX3_isSame 298 = .ok (.iastore, 1) := by decide +kernel
theorem dX3_isSame_299 : decode cX3_isSame 299 = .ok (.astore 9, 2) := by decide +kernel
theorem dX3_isSame_301 : decode cX3_isSame 301 = .ok (.iconst 0, 1) := by decide +kernel
theorem dX3_isSame_302 : decode cX3_isSame 302 = .ok (.istore 10, 2) := by decide +kernel
theorem dX3_isSame_304 : decode cX3_isSame 304 = .ok (.iload 10, 2) := by decide +kernel
theorem dX3_isSame_306 : decode cX3_isSame 306 = .ok (.bipush 9, 2) := by decide +kernel
theorem dX3_isSame_308 : decode cX3_isSame 308 = .ok (.if_icmp .ge 27, 3) := by decide +kernel
theorem dX3_isSame_311 : decode cX3_isSame 311 = .ok (.aload_n 1, 1) := by decide +kernel
theorem dX3_isSame_312 : decode cX3_isSame 312 = .ok (.iload 7, 2) := by decide +kernel
theorem dX3_isSame_314 : decode cX3_isSame 314 = .ok (.iload 10, 2) := by decide +kernel
theorem dX3_isSame_316 : decode cX3_isSame 316 = .ok (.invokevirtual 98, 3) := by decide +kernel
theorem dX3_isSame_319 : decode cX3_isSame 319 = .ok (.aload 9, 2) := by decide +kernel
theorem dX3_isSame_321 : decode cX3_isSame 321 = .ok (.iload 10, 2) := by decide +kernel
theorem dX3_isSame_323 : decode cX3_isSame 323 = .ok (.iaload, 1) := by decide +kernel
theorem dX3_isSame_324 : decode cX3_isSame 324 = .ok (.if_icmp .eq 5, 3) := by decide +kernel
theorem dX3_isSame_327 : decode cX3_isSame 327 = .ok (.iconst 0, 1) := by decide +kernel
theorem dX3_isSame_328 : decode cX3_isSame 328 = .ok (.ireturn, 1) := by decide +kernel
theorem dX3_isSame_329 : decode cX3_isSame 329 = .ok (.iinc 10 1, 3) := by decide +kernel
theorem dX3_isSame_332 : decode cX3_isSame 332 = .ok (.goto (-28), 3) := by decide +kernel
theorem dX3_isSame_335 : decode cX3_isSame 335 = .ok (.aload 8, 2) := by decide +kernel
theorem dX3_isSame_337 : decode cX3_isSame 337 = .ok (.getfield 76, 3) := by decide +kernel
theorem dX3_isSame_340 : decode cX3_isSame 340 = .ok (.ifCond .le 30, 3) := by decide +kernel
theorem dX3_isSame_343 : decode cX3_isSame 343 = .ok (.iload 6, 2) := by decide +kernel
theorem dX3_isSame_345 : decode cX3_isSame 345 = .ok (.ifCond .lt 21, 3) := by decide +kernel
theorem dX3_isSame_348 : decode cX3_isSame 348 = .ok (.aload 8, 2) := by decide +kernel
theorem dX3_isSame_350 : decode cX3_isSame 350 = .ok (.getfield 76, 3) := by decide +kernel
theorem dX3_isSame_353 : decode cX3_isSame 353 = .ok (.aload_n 0, 1) := by decide +kernel
theorem dX3_isSame_354 : decode cX3_isSame 354 = .ok (.getfield 17, 3) := by decide +kernel
theorem dX3_isSame_357 : decode cX3_isSame 357 = .ok (.iload 6, 2) := by decide +kernel
theorem dX3_isSame_359 : decode cX3_isSame 359 = .ok (.aaload, 1) := by decide +kernel
theorem dX3_isSame_360 : decode cX3_isSame 360 = .ok (.getfield 76, 3) := by decide +kernel
theorem dX3_isSame_363 : decode cX3_isSame 363 = .ok (.if_icmp .lt 7, 3) := by decide +kernel
theorem dX3_isSame_366 : decode cX3_isSame 366 = .ok (.iload 7, 2) := by decide +kernel
theorem dX3_isSame_368 : decode cX3_isSame 368 = .ok (.istore 6, 2) := by decide +kernel
theorem dX3_isSame_370 : decode cX3_isSame 370 = .ok (.iinc 7 (-1), 3) := by decide +kernel
theorem dX3_isSame_373 : decode cX3_isSame 373 = .ok (.goto (-168), 3) := by decide +kernel
theorem dX3_isSame_376 : decode cX3_isSame 376 = .ok (.bipush 9, 2) := by decide +kernel
theorem dX3_isSame_378 : decode cX3_isSame 378 = .ok (.newarray .int, 2) := by decide +kernel
theorem dX3_isSame_380 : decode cX3_isSame 380 = .ok (.dup, 1) := by decide +kernel
theorem dX3_isSame_381 : decode cX3_isSame 381 = .ok (.iconst 0, 1) := by decide +kernel
theorem dX3_isSame_382 : decode cX3_isSame 382 = .ok (.aload_n 0, 1) := by decide +kernel
theorem dX3_isSame_383 : decode cX3_isSame 383 = .ok (.getfield 29, 3) := by decide +kernel
theorem dX3_isSame_386 : decode cX3_isSame 386 = .ok (.iastore, 1) := by decide +kernel
theorem dX3_isSame_387 : decode cX3_isSame 387 = .ok (.dup, 1) := by decide +kernel
theorem dX3_isSame_388 : decode cX3_isSame 388 = .ok (.iconst 1, 1) := by decide +kernel
theorem dX3_isSame_389 : decode cX3_isSame 389 = .ok (.aload_n 0, 1) := by decide +kernel
theorem dX3_isSame_390 : decode cX3_isSame 390 = .ok (.getfield 9, 3) := by decide +kernel
theorem dX3_isSame_393 : decode cX3_isSame 393 = .ok (.arraylength, 1) := by decide +kernel
theorem dX3_isSame_394 : decode cX3_isSame 394 = .ok (.iastore, 1) := by decide +kernel
theorem dX3_isSame_395 : decode cX3_isSame 395 = .ok (.dup, 1) := by decide +kernel
theorem dX3_isSame_396 : decode cX3_isSame 396 = .ok (.iconst 2, 1) := by decide +kernel
theorem dX3_isSame_397 : decode cX3_isSame 397 = .ok (.aload_n 0, 1) := by decide +kernel
theorem dX3_isSame_398 : decode cX3_isSame 398 = .ok (.getfield 17, 3) := by decide +kernel
theorem dX3_isSame_401 : decode cX3_isSame 401 = .ok (.arraylength, 1) := by decide +kernel
theorem dX3_isSame_402 : decode cX3_isSame 402 = .ok (.iastore, 1) := by decide +kernel
theorem dX3_isSame_403 : decode cX3_isSame 403 = .ok (.dup, 1) := by decide +kernel
theorem dX3_isSame_404 : decode cX3_isSame 404 = .ok (.iconst 3, 1) := by decide +kernel
theorem dX3_isSame_405 : decode cX3_isSame 405 = .ok (.aload_n 0, 1) := by decide +kernel
theorem dX3_isSame_406 : decode cX3_isSame 406 = .ok (.invokevirtual 101, 3) := by decide +kernel
theorem dX3_isSame_409 : decode cX3_isSame 409 = .ok (.iastore, 1) := by decide +kernel
theorem dX3_isSame_410 : decode cX3_isSame 410 = .ok (.dup, 1) := by decide +kernel
theorem dX3_isSame_411 : decode cX3_isSame 411 = .ok (.iconst 4, 1) := by decide +kernel
theorem dX3_isSame_412 : decode cX3_isSame 412 = .ok (.iload_n 2, 1) := by decide +kernel
theorem dX3_isSame_413 : decode cX3_isSame 413 = .ok (.iastore, 1) := by decide +kernel
theorem dX3_isSame_414 : decode cX3_isSame 414 = .ok (.dup, 1) := by decide +kernel
theorem dX3_isSame_415 : decode cX3_isSame 415 = .ok (.iconst 5, 1) := by decide +kernel
theorem dX3_isSame_416 : decode cX3_isSame 416 = .ok (.iload_n 3, 1) := by decide +kernel
theorem dX3_isSame_417 : decode cX3_isSame 417 = .ok (.iastore, 1) := by decide +kernel
theorem dX3_isSame_418 : decode cX3_isSame 418 = .ok (.dup, 1) := by decide +kernel
theorem dX3_isSame_419 : decode cX3_isSame 419 = .ok (.bipush 6, 2) := by decide +kernel
theorem dX3_isSame_421 : decode cX3_isSame 421 = .ok (.aload_n 0, 1) := by decide +kernel
theorem dX3_isSame_422 : decode cX3_isSame 422 = .ok (.invokevirtual 104, 3) := by decide +kernel
theorem dX3_isSame_425 : decode cX3_isSame 425 = .ok (.iastore, 1) := by decide +kernel
theorem dX3_isSame_426 : decode cX3_isSame 426 = .ok (.dup, 1) := by decide +kernel
theorem dX3_isSame_427 : decode cX3_isSame 427 = .ok (.bipush 7, 2) := by decide +kernel
theorem dX3_isSame_429 : decode cX3_isSame 429 = .ok (.iload 4, 2) := by decide +kernel
theorem dX3_isSame_431 : decode cX3_isSame 431 = .ok (.iastore, 1) := by decide +kernel
theorem dX3_isSame_432 : decode cX3_isSame 432 = .ok (.dup, 1) := by decide +kernel
theorem dX3_isSame_433 : decode cX3_isSame 433 = .ok (.bipush 8, 2) := by decide +kernel
theorem dX3_isSame_435 : decode cX3_isSame 435 = .ok (.iload 5, 2) := by decide +kernel
theorem dX3_isSame_437 : decode cX3_isSame 437 = .ok (.iastore, 1) := by decide +kernel
theorem dX3_isSame_438 : decode cX3_isSame 438 = .ok (.astore 7, 2) := by decide +kernel
theorem dX3_isSame_440 : decode cX3_isSame 440 = .ok (.iconst 0, 1) := by decide +kernel
theorem dX3_isSame_441 : decode cX3_isSame 441 = .ok (.istore 8, 2) := by decide +kernel
theorem dX3_isSame_443 : decode cX3_isSame 443 = .ok (.iload 8, 2) := by decide +kernel
theorem dX3_isSame_445 : decode cX3_isSame 445 = .ok (.bipush 9, 2) := by decide +kernel
theorem dX3_isSame_447 : decode cX3_isSame 447 = .ok (.if_icmp .ge 25, 3) := by decide +kernel
theorem dX3_isSame_450 : decode cX3_isSame 450 = .ok (.aload_n 1, 1) := by decide +kernel
theorem dX3_isSame_451 : decode cX3_isSame 451 = .ok (.iload 8, 2) := by decide +kernel
theorem dX3_isSame_453 : decode cX3_isSame 453 = .ok (.invokevirtual 106, 3) := by decide +kernel
theorem dX3_isSame_456 : decode cX3_isSame 456 = .ok (.aload 7, 2) := by decide +kernel
theorem dX3_isSame_458 : decode cX3_isSame 458 = .ok (.iload 8, 2) := by decide +kernel
theorem dX3_isSame_460 : decode cX3_isSame 460 = .ok (.iaload, 1) := by decide +kernel
theorem dX3_isSame_461 : decode cX3_isSame 461 = .ok (.if_icmp .eq 5, 3) := by decide +kernel
theorem dX3_isSame_464 : decode cX3_isSame 464 = .ok (.iconst 0, 1) := by decide +kernel
theorem dX3_isSame_465 : decode cX3_isSame 465 = .ok (.ireturn, 1) := by decide +kernel
theorem dX3_isSame_466 : decode cX3_isSame 466 = .ok (.iinc 8 1, 3) := by decide +kernel
theorem dX3_isSame_469 : decode cX3_isSame 469 = .ok (.goto (-26), 3) := by decide +kernel
theorem dX3_isSame_472 : decode cX3_isSame 472 = .ok (.aload_n 1, 1) := by decide +kernel
theorem dX3_isSame_473 : decode cX3_isSame 473 = .ok (.invokevirtual 110, 3) := by decide +kernel
theorem dX3_isSame_476 : decode cX3_isSame 476 = .ok (.iload 6, 2) := by decide +kernel
theorem dX3_isSame_478 : decode cX3_isSame 478 = .ok (.if_icmp .ne 34, 3) := by decide +kernel
theorem dX3_isSame_481 : decode cX3_isSame 481 = .ok (.aload_n 1, 1) := by decide +kernel
theorem dX3_isSame_482 : decode cX3_isSame 482 = .ok (.invokevirtual 113, 3) := by decide +kernel
theorem dX3_isSame_485 : decode cX3_isSame 485 = .ok (.aload_n 0, 1) := by decide +kernel
theorem dX3_isSame_486 : decode cX3_isSame 486 = .ok (.getfield 29, 3) := by decide +kernel
theorem dX3_isSame_489 : decode cX3_isSame 489 = .ok (.ifCond .ne 7, 3) := by decide +kernel
theorem dX3_isSame_492 : decode cX3_isSame 492 = .ok (.dconst 0, 1) := by decide +kernel
theorem dX3_isSame_493 : decode cX3_isSame 493 = .ok (.goto 11, 3) := by decide +kernel
theorem dX3_isSame_496 : decode cX3_isSame 496 = .ok (.iload_n 3, 1) := by decide +kernel
theorem dX3_isSame_497 : decode cX3_isSame 497 = .ok (.i2d, 1) := by decide +kernel
theorem dX3_isSame_498 : decode cX3_isSame 498 = .ok (.aload_n 0, 1) := by decide +kernel
theorem dX3_isSame_499 : decode cX3_isSame 499 = .ok (.getfield 29, 3) := by decide +kernel
theorem dX3_isSame_502 : decode cX3_isSame 502 = .ok (.i2d, 1) := by decide +kernel
theorem dX3_isSame_503 : decode cX3_isSame 503 = .ok (.ddiv, 1) := by decide +kernel
theorem dX3_isSame_504 : decode cX3_isSame 504 = .ok (.dcmp .l, 1) := by decide +kernel
theorem dX3_isSame_505 : decode cX3_isSame 505 = .ok (.ifCond .ne 7, 3) := by decide +kernel
theorem dX3_isSame_508 : decode cX3_isSame 508 = .ok (.iconst 1, 1) := by decide +kernel
theorem dX3_isSame_509 : decode cX3_isSame 509 = .ok (.goto 4, 3) := by decide +kernel
theorem dX3_isSame_512 : decode cX3_isSame 512 = .ok (.iconst 0, 1) := by decide +kernel
theorem dX3_isSame_513 : decode cX3_isSame 513 = .ok (.ireturn, 1) := by decide +kernel
theorem dX4_init_0 : decode cX4_init 0 = .ok (.aload_n 0, 1) := by decide +kernel
theorem dX4_init_1 : decode cX4_init 1 = .ok (.invokespecial 1, 3) := by decide +kernel
theorem dX4_init_4 : decode cX4_init 4 = .ok (.return_, 1) := by decide +kernel
theorem dX4_comes_0 : decode cX4_comes 0 = .ok (.aload_n 0, 1) := by decide +kernel
theorem dX4_comes_1 : decode cX4_comes 1 = .ok (.dup, 1) := by decide +kernel
theorem dX4_comes_2 : decode cX4_comes 2 = .ok (.getfield 20, 3) := by decide +kernel
theorem dX4_comes_5 : decode cX4_comes 5 = .ok (.iload_n 1, 1) := by decide +kernel
theorem dX4_comes_6 : decode cX4_comes 6 = .ok (.iadd, 1) := by decide +kernel
theorem dX4_comes_7 : decode cX4_comes 7 = .ok (.putfield 20, 3) := by decide +kernel
theorem dX4_comes_10 : decode cX4_comes 10 = .ok (.aload_n 0, 1) := by decide +kernel
theorem dX4_comes_11 : decode cX4_comes 11 = .ok (.aload_n 0, 1) := by decide +kernel
theorem dX4_comes_12 : decode cX4_comes 12 = .ok (.getfield 23, 3) := by decide +kernel
theorem dX4_comes_15 : decode cX4_comes 15 = .ok (.iload_n 2, 1) := by decide +kernel
theorem dX4_comes_16 : decode cX4_comes 16 = .ok (.iadd, 1) := by decide +kernel
theorem dX4_comes_17 : decode cX4_comes 17 = .ok (.bipush 99, 2) := by decide +kernel
theorem dX4_comes_19 : decode cX4_comes 19 = .ok (.if_icmp .le 8, 3) := by decide +kernel
theorem dX4_comes_22 : decode cX4_comes 22 = .ok (.bipush 99, 2) := by decide +kernel
theorem dX4_comes_24 : decode cX4_comes 24 = .ok (.goto 9, 3) := by decide +kernel
theorem dX4_comes_27 : decode cX4_comes 27 = .ok (.aload_n 0, 1) := by decide +kernel
theorem dX4_comes_28 : decode cX4_comes 28 = .ok (.getfield 23, 3) := by decide +kernel
theorem dX4_comes_31 : decode cX4_comes 31 = .ok (.iload_n 2, 1) := by decide +kernel
theorem dX4_comes_32 : decode cX4_comes 32 = .ok (.iadd, 1) := by decide +kernel
theorem dX4_comes_33 : decode cX4_comes 33 = .ok (.putfield 23, 3) := by decide +kernel
theorem dX4_comes_36 : decode cX4_comes 36 = .ok (.aload_n 0, 1) := by decide +kernel
theorem dX4_comes_37 : decode cX4_comes 37 = .ok (.getfield 20, 3) := by decide +kernel
theorem dX4_comes_40 : decode cX4_comes 40 = .ok (.sipush 200, 3) := by decide +kernel
theorem dX4_comes_43 : decode cX4_comes 43 = .ok (.if_icmp .gt 4, 3) := by decide +kernel
theorem dX4_comes_46 : decode cX4_comes 46 = .ok (.return_, 1) := by decide +kernel
theorem dX4_comes_47 : decode cX4_comes 47 = .ok (.aload_n 0, 1) := by decide +kernel
theorem dX4_comes_48 : decode cX4_comes 48 = .ok (.dup, 1) := by decide +kernel
theorem dX4_comes_49 : decode cX4_comes 49 = .ok (.getfield 26, 3) := by decide +kernel
theorem dX4_comes_52 : decode cX4_comes 52 = .ok (.aload_n 0, 1) := by decide +kernel
theorem dX4_comes_53 : decode cX4_comes 53 = .ok (.getfield 20, 3) := by decide +kernel
theorem dX4_comes_56 : decode cX4_comes 56 = .ok (.sipush 200, 3) := by decide +kernel
theorem dX4_comes_59 : decode cX4_comes 59 = .ok (.isub, 1) := by decide +kernel
theorem dX4_comes_60 : decode cX4_comes 60 = .ok (.iadd, 1) := by decide +kernel
theorem dX4_comes_61 : decode cX4_comes 61 = .ok (.putfield 26, 3) := by decide +kernel
theorem dX4_comes_64 : decode cX4_comes 64 = .ok (.aload_n 0, 1) := by decide +kernel
theorem dX4_comes_65 : decode cX4_comes 65 = .ok (.sipush 200, 3) := by decide +kernel
theorem dX4_comes_68 : decode cX4_comes 68 = .ok (.putfield 20, 3) := by decide +kernel
theorem dX4_comes_71 : decode cX4_comes 71 = .ok (.return_, 1) := by decide +kernel
end
section
/-! PART 61: the world of the law: the class's cells, the hand-made land, int arrays behind them -/
abbrev US : Type := QLs × QLs × QLs × (Nat → Nat × (Nat → Int32))
/-- the class's two lands -/
def pr (X Y : QLs) : Nat → QLs := va_up (fun _ => Y) 0 X
theorem pr0 (X Y : QLs) : pr X Y 0 = X := va_up_self _ _ _
theorem pr1 (X Y : QLs) : pr X Y 1 = Y := va_up_ne _ _ (by decide)
theorem XAt.cg {z : QZ} {σ τ : Nat → QLs} {ct : Nat → va_E} (h : XAt z σ ct) (h0 : τ 0 = σ 0) (h1 : τ 1 = σ 1) : XAt z τ ct := by
  refine ⟨h.1, fun b hb => ?_⟩
  rcases (show b = 0 ∨ b = 1 by omega) with rfl | rfl
  · rw [h0]; exact h.2 0 (by omega)
  · rw [h1]; exact h.2 1 (by omega)
theorem XAt.off {z : QZ} {σ : Nat → QLs} {ct ct2 : Nat → va_E} (h : XAt z σ ct) (hk : ∀ k, k < 55 → ct2 k = ct k) : XAt z σ ct2 :=
  ⟨by rw [hk 0 (by omega)]; exact h.1, fun b hb => (h.2 b hb).off (fun k h1 h2 => hk k (by omega))⟩
abbrev tkV (r : Nat → Int32) : List Value := [.int (r 0), .int (r 1), .int (r 2), .int (r 3), .int (r 4), .int (r 5), .int (r 6), .int (r 7)]
abbrev ppV (r : Nat → Int32) : List Value := [.int (r 0), .int (r 1), .int (r 2), .int (r 3), .int (r 4), .int (r 9), .int (r 5), .int (r 6), .int (r 7)]
/-- the place in the class's row of the j-th field of a pipe made by hand -/
def fjP : Nat → Nat := fun j => match j with
  | 5 => 9
  | 6 => 5
  | 7 => 6
  | 8 => 7
  | k => k
theorem tkV_get {r : Nat → Int32} {j : Nat} (h : j < 8) : (tkV r)[j]? = some (.int (r j)) := by
  rcases (show j = 0 ∨ j = 1 ∨ j = 2 ∨ j = 3 ∨ j = 4 ∨ j = 5 ∨ j = 6 ∨ j = 7 by omega) with rfl | rfl | rfl | rfl | rfl | rfl | rfl | rfl <;> rfl
theorem ppV_get {r : Nat → Int32} {j : Nat} (h : j < 9) : (ppV r)[j]? = some (.int (r (fjP j))) := by
  rcases (show j = 0 ∨ j = 1 ∨ j = 2 ∨ j = 3 ∨ j = 4 ∨ j = 5 ∨ j = 6 ∨ j = 7 ∨ j = 8 by omega) with rfl | rfl | rfl | rfl | rfl | rfl | rfl | rfl | rfl <;> rfl
theorem tkV_set {r : Nat → Int32} {j : Nat} (h : j < 8) (x : Int32) : (tkV r).set j (.int x) = tkV (upd r j x) := by
  rcases (show j = 0 ∨ j = 1 ∨ j = 2 ∨ j = 3 ∨ j = 4 ∨ j = 5 ∨ j = 6 ∨ j = 7 by omega) with rfl | rfl | rfl | rfl | rfl | rfl | rfl | rfl <;> simp [upd]
theorem ppV_set {r : Nat → Int32} {j : Nat} (h : j < 9) (x : Int32) : (ppV r).set j (.int x) = ppV (upd r (fjP j) x) := by
  rcases (show j = 0 ∨ j = 1 ∨ j = 2 ∨ j = 3 ∨ j = 4 ∨ j = 5 ∨ j = 6 ∨ j = 7 ∨ j = 8 by omega) with rfl | rfl | rfl | rfl | rfl | rfl | rfl | rfl | rfl <;> simp [upd, fjP]
/-- slots: 0 and 1 the two arrays, 2 + i the tanks, 12 + k the pipes -/
def sUsed (t p a : Nat) : Prop := a < 2 + t ∨ (12 ≤ a ∧ a < 12 + p)
theorem su0 {t p : Nat} : sUsed t p 0 := Or.inl (by omega)
theorem su1 {t p : Nat} : sUsed t p 1 := Or.inl (by omega)
theorem suT {t p i : Nat} (h : i < t) : sUsed t p (2 + i) := Or.inl (by omega)
theorem suP {t p k : Nat} (h : k < p) : sUsed t p (12 + k) := Or.inr ⟨by omega, by omega⟩
def IxOk (ix : Nat → Nat) (t p b : Nat) : Prop := (t ≤ 10 ∧ p ≤ 14 ∧ 56 ≤ b) ∧ (∀ a, sUsed t p a → 56 ≤ ix a ∧ ix a < b) ∧ ∀ a c, sUsed t p a → sUsed t p c → ix a = ix c → a = c
def simV (z : QZ) (ix : Nat → Nat) (t p : Nat) (S : QLs) (a : Nat) : va_E :=
  if a = 0 then .inl (zA z, t, .inr (.inr (.inr (.inr (fun k => if k < t then some (za z (ix (2 + k))) else none)))))
  else if a = 1 then .inl (zB z, p, .inr (.inr (.inr (.inr (fun k => if k < p then some (za z (ix (12 + k))) else none)))))
  else if a < 12 then .inr (4, tkV (qT S (a - 2))) else .inr (2, ppV (qP S (a - 12)))
theorem simV_T {z : QZ} {ix : Nat → Nat} {t p : Nat} {S : QLs} {i : Nat} (h : i < 10) : simV z ix t p S (2 + i) = .inr (4, tkV (qT S i)) := by
  unfold simV
  rw [if_neg (by omega), if_neg (by omega), if_pos (by omega), show 2 + i - 2 = i by omega]
theorem simV_P {z : QZ} {ix : Nat → Nat} {t p : Nat} {S : QLs} {k : Nat} : simV z ix t p S (12 + k) = .inr (2, ppV (qP S k)) := by
  unfold simV
  rw [if_neg (by omega), if_neg (by omega), if_neg (by omega), show 12 + k - 12 = k by omega]
def SAt (z : QZ) (ix : Nat → Nat) (t p b : Nat) (S : QLs) (ct : Nat → va_E) : Prop :=
  IxOk ix t p b ∧ qt S = t ∧ qp S = p ∧ ct 55 = .inr (3, [.ref (za z (ix 0)), .ref (za z (ix 1)), .int (qD S)]) ∧ ∀ a, sUsed t p a → ct (ix a) = simV z ix t p S a
theorem SAt.off {z : QZ} {ix : Nat → Nat} {t p b b2 : Nat} {S : QLs} {ct ct2 : Nat → va_E} (h : SAt z ix t p b S ct) (hb : b ≤ b2) (hk : ∀ k, 55 ≤ k → k < b → ct2 k = ct k) : SAt z ix t p b2 S ct2 := by
  obtain ⟨⟨h1, h2, h3⟩, h4, h5, h6, h7⟩ := h
  refine ⟨⟨⟨h1.1, h1.2.1, by omega⟩, fun a ha => ⟨(h2 a ha).1, by have := (h2 a ha).2; omega⟩, h3⟩, h4, h5, ?_, fun a ha => ?_⟩
  · rw [hk 55 (by omega) (by omega)]; exact h6
  · have := h2 a ha
    rw [hk _ (by omega) (by omega)]; exact h7 a ha
theorem SAt.put {z : QZ} {ix : Nat → Nat} {t p b : Nat} {S S2 : QLs} {ct : Nat → va_E} {a : Nat} {e : va_E} (h : SAt z ix t p b S ct) (ha : sUsed t p a) (ht : qt S2 = qt S) (hp : qp S2 = qp S) (hD : qD S2 = qD S) (he : e = simV z ix t p S2 a) (hne : ∀ c, sUsed t p c → c ≠ a → simV z ix t p S2 c = simV z ix t p S c) : SAt z ix t p b S2 (va_up ct (ix a) e) := by
  obtain ⟨⟨h1, h2, h3⟩, h4, h5, h6, h7⟩ := h
  subst he
  have h9 := h2 a ha
  refine ⟨⟨h1, h2, h3⟩, ht.trans h4, hp.trans h5, ?_, fun c hc => ?_⟩
  · rw [va_up_ne _ _ (by omega), hD]; exact h6
  · by_cases e : c = a
    · subst e; rw [va_up_self]
    · rw [va_up_ne _ _ (fun q => e (h3 _ _ hc ha q)), hne c hc e]; exact h7 c hc
theorem SAt.putT {z : QZ} {ix : Nat → Nat} {t p b : Nat} {S : QLs} {ct : Nat → va_E} {i : Nat} (h : SAt z ix t p b S ct) (hi : i < t) (r : Nat → Int32) : SAt z ix t p b (sT S i r) (va_up ct (ix (2 + i)) (.inr (4, tkV r))) := by
  have h10 : t ≤ 10 := h.1.1.1
  refine h.put (suT hi) rfl rfl rfl (by rw [simV_T (by omega), show qT (sT S i r) i = r from va_up_self _ _ _]) (fun c hc hne => ?_)
  by_cases h2 : c < 2
  · rcases (show c = 0 ∨ c = 1 by omega) with rfl | rfl <;> rfl
  · by_cases h12 : c < 12
    · obtain ⟨j, rfl⟩ : ∃ j, c = 2 + j := ⟨c - 2, by omega⟩
      rw [simV_T (by omega), simV_T (by omega), show qT (sT S i r) j = qT S j from va_up_ne _ _ (by omega)]
    · obtain ⟨j, rfl⟩ : ∃ j, c = 12 + j := ⟨c - 12, by omega⟩
      rw [simV_P, simV_P]; rfl
theorem SAt.putP {z : QZ} {ix : Nat → Nat} {t p b : Nat} {S : QLs} {ct : Nat → va_E} {i : Nat} (h : SAt z ix t p b S ct) (hi : i < p) (r : Nat → Int32) : SAt z ix t p b (sP S i r) (va_up ct (ix (12 + i)) (.inr (2, ppV r))) := by
  refine h.put (suP hi) rfl rfl rfl (by rw [simV_P, show qP (sP S i r) i = r from va_up_self _ _ _]) (fun c hc hne => ?_)
  by_cases h2 : c < 2
  · rcases (show c = 0 ∨ c = 1 by omega) with rfl | rfl <;> rfl
  · by_cases h12 : c < 12
    · obtain ⟨j, rfl⟩ : ∃ j, c = 2 + j := ⟨c - 2, by omega⟩
      rw [simV_T (by omega), simV_T (by omega)]; rfl
    · obtain ⟨j, rfl⟩ : ∃ j, c = 12 + j := ⟨c - 12, by omega⟩
      rw [simV_P, simV_P, show qP (sP S i r) j = qP S j from va_up_ne _ _ (by omega)]
theorem SAt.putD {z : QZ} {ix : Nat → Nat} {t p b : Nat} {S : QLs} {ct : Nat → va_E} (h : SAt z ix t p b S ct) (d : Int32) : SAt z ix t p b (sD S d) (va_up ct 55 (.inr (3, [.ref (za z (ix 0)), .ref (za z (ix 1)), .int d]))) := by
  obtain ⟨⟨h1, h2, h3⟩, h4, h5, h6, h7⟩ := h
  refine ⟨⟨h1, h2, h3⟩, h4, h5, va_up_self _ _ _, fun a ha => ?_⟩
  have := h2 a ha
  rw [va_up_ne _ _ (by omega)]; exact h7 a ha
/-- two lands of which the hand-made one can't tell the difference -/
def SEq (S S2 : QLs) : Prop := qt S2 = qt S ∧ qp S2 = qp S ∧ qD S2 = qD S ∧ (∀ i, i < qt S → ∀ k, k < 8 → qT S2 i k = qT S i k) ∧ ∀ i, i < qp S → ∀ k, k < 8 ∨ k = 9 → qP S2 i k = qP S i k
theorem SEq.rf {S : QLs} : SEq S S := ⟨rfl, rfl, rfl, fun _ _ _ _ => rfl, fun _ _ _ _ => rfl⟩
theorem SEq.tr {S S2 S3 : QLs} (h : SEq S S2) (g : SEq S2 S3) : SEq S S3 := ⟨g.1.trans h.1, g.2.1.trans h.2.1, g.2.2.1.trans h.2.2.1, fun i hi k hk => (g.2.2.2.1 i (by rw [h.1]; exact hi) k hk).trans (h.2.2.2.1 i hi k hk), fun i hi k hk => (g.2.2.2.2 i (by rw [h.2.1]; exact hi) k hk).trans (h.2.2.2.2 i hi k hk)⟩
theorem SEq.sy {S S2 : QLs} (h : SEq S S2) : SEq S2 S := ⟨h.1.symm, h.2.1.symm, h.2.2.1.symm, fun i hi k hk => (h.2.2.2.1 i (by rw [← h.1]; exact hi) k hk).symm, fun i hi k hk => (h.2.2.2.2 i (by rw [← h.2.1]; exact hi) k hk).symm⟩
theorem tkV_cg {r q : Nat → Int32} (h : ∀ k, k < 8 → q k = r k) : tkV q = tkV r := by
  unfold tkV
  rw [h 0 (by omega), h 1 (by omega), h 2 (by omega), h 3 (by omega), h 4 (by omega), h 5 (by omega), h 6 (by omega), h 7 (by omega)]
theorem ppV_cg {r q : Nat → Int32} (h : ∀ k, k < 8 ∨ k = 9 → q k = r k) : ppV q = ppV r := by
  unfold ppV
  rw [h 0 (by omega), h 1 (by omega), h 2 (by omega), h 3 (by omega), h 4 (by omega), h 5 (by omega), h 6 (by omega), h 7 (by omega), h 9 (by omega)]
theorem SAt.cg {z : QZ} {ix : Nat → Nat} {t p b : Nat} {S S2 : QLs} {ct : Nat → va_E} (h : SAt z ix t p b S ct) (hs : SEq S S2) : SAt z ix t p b S2 ct := by
  obtain ⟨h1, h4, h5, h6, h7⟩ := h
  have h10 : t ≤ 10 := h1.1.1
  refine ⟨h1, hs.1.trans h4, hs.2.1.trans h5, by rw [hs.2.2.1]; exact h6, fun c hc => ?_⟩
  rw [h7 c hc]
  by_cases h2 : c < 2
  · rcases (show c = 0 ∨ c = 1 by omega) with rfl | rfl <;> rfl
  · by_cases h12 : c < 12
    · obtain ⟨j, rfl⟩ : ∃ j, c = 2 + j := ⟨c - 2, by omega⟩
      have hj : j < qt S := by rcases hc with hc | hc <;> omega
      rw [simV_T (by omega), simV_T (by omega), tkV_cg (hs.2.2.2.1 j hj)]
    · obtain ⟨j, rfl⟩ : ∃ j, c = 12 + j := ⟨c - 12, by omega⟩
      have hj : j < qp S := by rcases hc with hc | hc <;> omega
      rw [simV_P, simV_P, ppV_cg (hs.2.2.2.2 j hj)]
def UAt (z : QZ) (ix : Nat → Nat) (t p b n : Nat) (u : US) (ct : Nat → va_E) : Prop :=
  XAt z (pr u.1 u.2.1) ct ∧ SAt z ix t p b u.2.2.1 ct ∧ ∀ j, j < n → ct (b + j) = .inl (zI z, (u.2.2.2 j).1, .inl (u.2.2.2 j).2)
section UA
variable {z : QZ} {ix : Nat → Nat} {t p b n : Nat} {X Y S : QLs} {f : Nat → Nat × (Nat → Int32)} {ct : Nat → va_E}
theorem UAt.putT {i : Nat} (h : UAt z ix t p b n (X, Y, S, f) ct) (hi : i < t) (r : Nat → Int32) : UAt z ix t p b n (X, Y, sT S i r, f) (va_up ct (ix (2 + i)) (.inr (4, tkV r))) := by
  have h9 := h.2.1.1.2.1 _ (suT (p := p) hi)
  exact ⟨h.1.off (fun k hk => va_up_ne _ _ (by omega)), h.2.1.putT hi r, fun j hj => by rw [va_up_ne _ _ (by omega)]; exact h.2.2 j hj⟩
theorem UAt.putP {i : Nat} (h : UAt z ix t p b n (X, Y, S, f) ct) (hi : i < p) (r : Nat → Int32) : UAt z ix t p b n (X, Y, sP S i r, f) (va_up ct (ix (12 + i)) (.inr (2, ppV r))) := by
  have h9 := h.2.1.1.2.1 _ (suP (t := t) hi)
  exact ⟨h.1.off (fun k hk => va_up_ne _ _ (by omega)), h.2.1.putP hi r, fun j hj => by rw [va_up_ne _ _ (by omega)]; exact h.2.2 j hj⟩
theorem UAt.putD (h : UAt z ix t p b n (X, Y, S, f) ct) (d : Int32) : UAt z ix t p b n (X, Y, sD S d, f) (va_up ct 55 (.inr (3, [.ref (za z (ix 0)), .ref (za z (ix 1)), .int d]))) := by
  have h9 := h.2.1.1.1.2.2
  exact ⟨h.1.off (fun k hk => va_up_ne _ _ (by omega)), h.2.1.putD d, fun j hj => by rw [va_up_ne _ _ (by omega)]; exact h.2.2 j hj⟩
theorem UAt.putI {j : Nat} (h : UAt z ix t p b n (X, Y, S, f) ct) (hj : j < n) (g : Nat → Int32) : UAt z ix t p b n (X, Y, S, va_up f j ((f j).1, g)) (va_up ct (b + j) (.inl (zI z, (f j).1, .inl g))) := by
  have h9 := h.2.1.1.1.2.2
  refine ⟨h.1.off (fun k hk => va_up_ne _ _ (by omega)), h.2.1.off (Nat.le_refl _) (fun k h1 h2 => va_up_ne _ _ (by omega)), fun i hi => ?_⟩
  by_cases e : i = j
  · subst e; rw [va_up_self]; show _ = (.inl (zI z, (va_up f i _ i).1, .inl (va_up f i _ i).2) : va_E); rw [va_up_self]
  · rw [va_up_ne _ _ (by omega)]; show _ = (.inl (zI z, (va_up f j _ i).1, .inl (va_up f j _ i).2) : va_E); rw [va_up_ne _ _ e]; exact h.2.2 i hi
theorem UAt.cgS {S2 : QLs} (h : UAt z ix t p b n (X, Y, S, f) ct) (hs : SEq S S2) : UAt z ix t p b n (X, Y, S2, f) ct := ⟨h.1, h.2.1.cg hs, h.2.2⟩
/-- the arrays forgotten -/
theorem UAt.drop {f2 : Nat → Nat × (Nat → Int32)} (h : UAt z ix t p b n (X, Y, S, f) ct) (b2 : Nat) (hb : b ≤ b2) : UAt z ix t p b2 0 (X, Y, S, f2) ct := ⟨h.1, h.2.1.off hb (fun _ _ _ => rfl), fun j hj => by omega⟩
end UA
section UR
variable {p : Program} {l : Launch} {e : Env} {R : Room} {s : State} {m : MethodId} {args : Array Value} {below : List Frame} {meth : Method} {c : Code} {H : Heap} {locs : List Loc} {cells slots : Nat} {Q : State → Prop}
variable {cc : ByteArray} {nL : Nat} {ret : Option FieldType} {own : String} {ws : List Cond} {pc : Nat} {ls : Array Slot} {rest : List Value} {z : QZ} {c0 : Nat → va_E}
variable {ix : Nat → Nat} {t q b n : Nat} {X Y S : QLs} {f : Nat → Nat × (Nat → Int32)}
theorem GW.imp {α β : Type} {At : α → (Nat → va_E) → Prop} {At2 : β → (Nat → va_E) → Prop} {lo hi : Nat} {H0 : Heap} {a : α} {a2 : β} (h : GW z At lo hi H0 c0 a H locs) (hi2 : ∀ ct, At a ct → At2 a2 ct) : GW z At2 lo hi H0 c0 a2 H locs := by
  obtain ⟨ct, hP, hS, hA, hF, hn, hq⟩ := h
  exact ⟨ct, hP, hS, hi2 ct hA, hF, hn, hq⟩
theorem gw_ix {H0 : Heap} (h : GW z (UAt z ix t q b n) 0 (b + n) H0 c0 (X, Y, S, f) H locs) : IxOk ix t q b ∧ qt S = t ∧ qp S = q ∧ b + n ≤ zn z := by
  obtain ⟨ct, hP, hS, hA, hF, hn, hq⟩ := h
  exact ⟨hA.2.1.1, hA.2.1.2.1, hA.2.1.2.2.1, hn⟩
theorem U_gO (C0 : Cx p s m args meth c cc nL ret own ws) (hK : QK z s) (h : GW z (UAt z ix t q b n) 0 (b + n) s.heap c0 (X, Y, S, f) H locs) (hin : ∀ w ∈ u_ws RX3 TX3 3, w ∈ ws) (j : Nat) (hj : j < 3) {index : Nat} (hlink : Cond.fieldLink own index (TX3 j).1 (TX3 j).2.1 (TX3 j).2.2.1 ∈ ws) {v : Value} (hv : [Value.ref (za z (ix 0)), .ref (za z (ix 1)), .int (qD S)][j]? = some v) (hdg : decode cc pc = .ok (.getfield index, 3))
    (kk : W p l e R s m args below meth c H locs cells slots Q (F0 m (pc + 3) ls (v :: rest))) : W p l e R s m args below meth c H locs cells slots Q (F0 m pc ls (.ref (za z 55) :: rest)) := by
  obtain ⟨⟨⟨-, -, h9⟩, -⟩, -⟩ := gw_ix h
  exact G_get C0 hK h hin 3 rfl (by omega) (fun ct hA => hA.2.1.2.2.2.1) j hj hlink hv hdg kk
theorem U_pD (C0 : Cx p s m args meth c cc nL ret own ws) (hK : QK z s) (h : GW z (UAt z ix t q b n) 0 (b + n) s.heap c0 (X, Y, S, f) H locs) (hin : ∀ w ∈ u_ws RX3 TX3 3, w ∈ ws) {index : Nat} (hlink : Cond.fieldLink own index (TX3 2).1 (TX3 2).2.1 (TX3 2).2.2.1 ∈ ws) {x : Int32} (hdg : decode cc pc = .ok (.putfield index, 3))
    (kk : ∀ (H1 : Heap) (locs1 : List Loc) (S1 : QLs), S1 = sD S x → GW z (UAt z ix t q b n) 0 (b + n) s.heap c0 (X, Y, S1, f) H1 locs1 → W p l e R s m args below meth c H1 locs1 cells slots Q (F0 m (pc + 3) ls rest)) : W p l e R s m args below meth c H locs cells slots Q (F0 m pc ls (.int x :: .ref (za z 55) :: rest)) := by
  obtain ⟨⟨⟨-, -, h9⟩, -⟩, -⟩ := gw_ix h
  exact G_put C0 hK h hin 3 rfl tyX3 tyX3_ok nmX3 ⟨by omega, by omega⟩ (fun ct hA => hA.2.1.2.2.2.1) 2 (by decide) hlink rfl (tyX3_ok 2 (by decide)) (show 2 < 3 by decide) (a' := (X, Y, sD S x, f)) (fun ct hA => hA.putD x) hdg (fun H1 locs1 h1 => kk H1 locs1 _ rfl h1)
theorem U_gT (C0 : Cx p s m args meth c cc nL ret own ws) (hK : QK z s) (h : GW z (UAt z ix t q b n) 0 (b + n) s.heap c0 (X, Y, S, f) H locs) (hin : ∀ w ∈ u_ws RX4 TX4 8, w ∈ ws) {i : Nat} (hi : i < t) (j : Nat) (hj : j < 8) {index : Nat} (hlink : Cond.fieldLink own index (TX4 j).1 (TX4 j).2.1 (TX4 j).2.2.1 ∈ ws) (hdg : decode cc pc = .ok (.getfield index, 3))
    (kk : W p l e R s m args below meth c H locs cells slots Q (F0 m (pc + 3) ls (.int (qT S i j) :: rest))) : W p l e R s m args below meth c H locs cells slots Q (F0 m pc ls (.ref (za z (ix (2 + i))) :: rest)) := by
  obtain ⟨⟨⟨h8, -, h9⟩, h7, -⟩, -⟩ := gw_ix h
  have h6 := h7 _ (suT (p := q) hi)
  exact G_get C0 hK h hin 4 rfl (fs := tkV (qT S i)) (by omega) (fun ct hA => by rw [hA.2.1.2.2.2.2 _ (suT hi), simV_T (by omega)]) j hj hlink (tkV_get hj) hdg kk
theorem U_gP (C0 : Cx p s m args meth c cc nL ret own ws) (hK : QK z s) (h : GW z (UAt z ix t q b n) 0 (b + n) s.heap c0 (X, Y, S, f) H locs) (hin : ∀ w ∈ u_ws RX2 TX2 9, w ∈ ws) {i : Nat} (hi : i < q) (j : Nat) (hj : j < 9) {k9 : Nat} (hf9 : fjP j = k9) {index : Nat} (hlink : Cond.fieldLink own index (TX2 j).1 (TX2 j).2.1 (TX2 j).2.2.1 ∈ ws) (hdg : decode cc pc = .ok (.getfield index, 3))
    (kk : W p l e R s m args below meth c H locs cells slots Q (F0 m (pc + 3) ls (.int (qP S i k9) :: rest))) : W p l e R s m args below meth c H locs cells slots Q (F0 m pc ls (.ref (za z (ix (12 + i))) :: rest)) := by
  subst hf9
  obtain ⟨⟨⟨h8, -, h9⟩, h7, -⟩, -⟩ := gw_ix h
  have h6 := h7 _ (suP (t := t) hi)
  exact G_get C0 hK h hin 2 rfl (fs := ppV (qP S i)) (by omega) (fun ct hA => by rw [hA.2.1.2.2.2.2 _ (suP hi), simV_P]) j hj hlink (ppV_get hj) hdg kk
theorem U_pT (C0 : Cx p s m args meth c cc nL ret own ws) (hK : QK z s) (h : GW z (UAt z ix t q b n) 0 (b + n) s.heap c0 (X, Y, S, f) H locs) (hin : ∀ w ∈ u_ws RX4 TX4 8, w ∈ ws) {i : Nat} (hi : i < t) (j : Nat) (hj : j < 8) {index : Nat} (hlink : Cond.fieldLink own index (TX4 j).1 (TX4 j).2.1 (TX4 j).2.2.1 ∈ ws) {x : Int32} (hdg : decode cc pc = .ok (.putfield index, 3))
    (kk : ∀ (H1 : Heap) (locs1 : List Loc) (S1 : QLs), S1 = sT S i (upd (qT S i) j x) → GW z (UAt z ix t q b n) 0 (b + n) s.heap c0 (X, Y, S1, f) H1 locs1 → W p l e R s m args below meth c H1 locs1 cells slots Q (F0 m (pc + 3) ls rest)) : W p l e R s m args below meth c H locs cells slots Q (F0 m pc ls (.int x :: .ref (za z (ix (2 + i))) :: rest)) := by
  obtain ⟨⟨⟨h8, -, h9⟩, h7, -⟩, -⟩ := gw_ix h
  have h6 := h7 _ (suT (p := q) hi)
  have h5 : (TX4 j).2.2.2 = false := by rcases (show j = 0 ∨ j = 1 ∨ j = 2 ∨ j = 3 ∨ j = 4 ∨ j = 5 ∨ j = 6 ∨ j = 7 by omega) with rfl | rfl | rfl | rfl | rfl | rfl | rfl | rfl <;> rfl
  have h4 : tyX4 j = .int := by rcases (show j = 0 ∨ j = 1 ∨ j = 2 ∨ j = 3 ∨ j = 4 ∨ j = 5 ∨ j = 6 ∨ j = 7 by omega) with rfl | rfl | rfl | rfl | rfl | rfl | rfl | rfl <;> rfl
  exact G_put C0 hK h hin 4 rfl tyX4 tyX4_ok nmX4 (fs := tkV (qT S i)) ⟨by omega, by omega⟩ (fun ct hA => by rw [hA.2.1.2.2.2.2 _ (suT hi), simV_T (by omega)]) j hj hlink h5 (by rw [tyX4_ok j hj, h4]) (show j < 8 from hj) (a' := (X, Y, sT S i (upd (qT S i) j x), f)) (fun ct hA => by rw [tkV_set hj]; exact hA.putT hi _) hdg (fun H1 locs1 h1 => kk H1 locs1 _ rfl h1)
theorem U_pP (C0 : Cx p s m args meth c cc nL ret own ws) (hK : QK z s) (h : GW z (UAt z ix t q b n) 0 (b + n) s.heap c0 (X, Y, S, f) H locs) (hin : ∀ w ∈ u_ws RX2 TX2 9, w ∈ ws) {i : Nat} (hi : i < q) (j : Nat) (hj : j < 9) {k9 : Nat} (hf9 : fjP j = k9) {index : Nat} (hlink : Cond.fieldLink own index (TX2 j).1 (TX2 j).2.1 (TX2 j).2.2.1 ∈ ws) {x : Int32} (hdg : decode cc pc = .ok (.putfield index, 3))
    (kk : ∀ (H1 : Heap) (locs1 : List Loc) (S1 : QLs), S1 = sP S i (upd (qP S i) k9 x) → GW z (UAt z ix t q b n) 0 (b + n) s.heap c0 (X, Y, S1, f) H1 locs1 → W p l e R s m args below meth c H1 locs1 cells slots Q (F0 m (pc + 3) ls rest)) : W p l e R s m args below meth c H locs cells slots Q (F0 m pc ls (.int x :: .ref (za z (ix (12 + i))) :: rest)) := by
  subst hf9
  obtain ⟨⟨⟨h8, -, h9⟩, h7, -⟩, -⟩ := gw_ix h
  have h6 := h7 _ (suP (t := t) hi)
  have h5 : (TX2 j).2.2.2 = false := by rcases (show j = 0 ∨ j = 1 ∨ j = 2 ∨ j = 3 ∨ j = 4 ∨ j = 5 ∨ j = 6 ∨ j = 7 ∨ j = 8 by omega) with rfl | rfl | rfl | rfl | rfl | rfl | rfl | rfl | rfl <;> rfl
  have h4 : tyX2 j = .int := by rcases (show j = 0 ∨ j = 1 ∨ j = 2 ∨ j = 3 ∨ j = 4 ∨ j = 5 ∨ j = 6 ∨ j = 7 ∨ j = 8 by omega) with rfl | rfl | rfl | rfl | rfl | rfl | rfl | rfl | rfl <;> rfl
  exact G_put C0 hK h hin 2 rfl tyX2 tyX2_ok nmX2 (fs := ppV (qP S i)) ⟨by omega, by omega⟩ (fun ct hA => by rw [hA.2.1.2.2.2.2 _ (suP hi), simV_P]) j hj hlink h5 (by rw [tyX2_ok j hj, h4]) (show j < 9 from hj) (a' := (X, Y, sP S i (upd (qP S i) (fjP j) x), f)) (fun ct hA => by rw [ppV_set hj]; exact hA.putP hi _) hdg (fun H1 locs1 h1 => kk H1 locs1 _ rfl h1)
theorem U_lT (C0 : Cx p s m args meth c cc nL ret own ws) (hK : QK z s) (h : GW z (UAt z ix t q b n) 0 (b + n) s.heap c0 (X, Y, S, f) H locs) (hdg : decode cc pc = .ok (.arraylength, 1))
    (kk : W p l e R s m args below meth c H locs cells slots Q (F0 m (pc + 1) ls (.int (nI t) :: rest))) : W p l e R s m args below meth c H locs cells slots Q (F0 m pc ls (.ref (za z (ix 0)) :: rest)) := by
  obtain ⟨⟨-, h7, -⟩, -⟩ := gw_ix h
  have h6 := h7 _ (su0 (t := t) (p := q))
  obtain ⟨ct, hP, hS, hA, hF, hn, hq⟩ := h
  exact va_alen (x := (t, .inr (.inr (.inr (.inr (fun k => if k < t then some (za z (ix (2 + k))) else none)))))) C0.1 C0.2.1 hK.1 hP (ix 0) 2 ((wd_get (by omega)).trans (by rw [hA.2.1.2.2.2.2 _ su0]; rfl)) rfl rfl hdg kk
theorem U_lP (C0 : Cx p s m args meth c cc nL ret own ws) (hK : QK z s) (h : GW z (UAt z ix t q b n) 0 (b + n) s.heap c0 (X, Y, S, f) H locs) (hdg : decode cc pc = .ok (.arraylength, 1))
    (kk : W p l e R s m args below meth c H locs cells slots Q (F0 m (pc + 1) ls (.int (nI q) :: rest))) : W p l e R s m args below meth c H locs cells slots Q (F0 m pc ls (.ref (za z (ix 1)) :: rest)) := by
  obtain ⟨⟨-, h7, -⟩, -⟩ := gw_ix h
  have h6 := h7 _ (su1 (t := t) (p := q))
  obtain ⟨ct, hP, hS, hA, hF, hn, hq⟩ := h
  exact va_alen (x := (q, .inr (.inr (.inr (.inr (fun k => if k < q then some (za z (ix (12 + k))) else none)))))) C0.1 C0.2.1 hK.1 hP (ix 1) 3 ((wd_get (by omega)).trans (by rw [hA.2.1.2.2.2.2 _ su1]; rfl)) rfl rfl hdg kk
theorem U_aT (C0 : Cx p s m args meth c cc nL ret own ws) (hK : QK z s) (h : GW z (UAt z ix t q b n) 0 (b + n) s.heap c0 (X, Y, S, f) H locs) {i : Nat} {x : Int32} (hx : x = nI i) (hi : i < t) (hdg : decode cc pc = .ok (.aaload, 1))
    (kk : W p l e R s m args below meth c H locs cells slots Q (F0 m (pc + 1) ls (.ref (za z (ix (2 + i))) :: rest))) : W p l e R s m args below meth c H locs cells slots Q (F0 m pc ls (.int x :: .ref (za z (ix 0)) :: rest)) := by
  obtain ⟨⟨h8, h7, -⟩, -⟩ := gw_ix h
  have h6 := h7 _ (su0 (t := t) (p := q))
  obtain ⟨ct, hP, hS, hA, hF, hn, hq⟩ := h
  subst hx
  have e1 : (nI i).toNatClampNeg = i := nI_clamp (by omega)
  refine va_aldq (n := t) (f := fun k => if k < t then some (za z (ix (2 + k))) else none) C0.1 C0.2.1 hK.1 hP (ix 0) 2 ((wd_get (by omega)).trans (by rw [hA.2.1.2.2.2.2 _ su0]; rfl)) rfl (vp_in_nI hi (by omega)) hdg ?_
  rw [e1, if_pos hi]; exact kk
theorem U_aP (C0 : Cx p s m args meth c cc nL ret own ws) (hK : QK z s) (h : GW z (UAt z ix t q b n) 0 (b + n) s.heap c0 (X, Y, S, f) H locs) {i : Nat} {x : Int32} (hx : x = nI i) (hi : i < q) (hdg : decode cc pc = .ok (.aaload, 1))
    (kk : W p l e R s m args below meth c H locs cells slots Q (F0 m (pc + 1) ls (.ref (za z (ix (12 + i))) :: rest))) : W p l e R s m args below meth c H locs cells slots Q (F0 m pc ls (.int x :: .ref (za z (ix 1)) :: rest)) := by
  obtain ⟨⟨h8, h7, -⟩, -⟩ := gw_ix h
  have h6 := h7 _ (su1 (t := t) (p := q))
  obtain ⟨ct, hP, hS, hA, hF, hn, hq⟩ := h
  subst hx
  have e1 : (nI i).toNatClampNeg = i := nI_clamp (by omega)
  refine va_aldq (n := q) (f := fun k => if k < q then some (za z (ix (12 + k))) else none) C0.1 C0.2.1 hK.1 hP (ix 1) 3 ((wd_get (by omega)).trans (by rw [hA.2.1.2.2.2.2 _ su1]; rfl)) rfl (vp_in_nI hi (by omega)) hdg ?_
  rw [e1, if_pos hi]; exact kk
theorem U_il (C0 : Cx p s m args meth c cc nL ret own ws) (hK : QK z s) (h : GW z (UAt z ix t q b n) 0 (b + n) s.heap c0 (X, Y, S, f) H locs) {j i : Nat} (hj : j < n) {x : Int32} (hx : x = nI i) (hi : i < (f j).1) (hl : (f j).1 < 1000) (hdg : decode cc pc = .ok (.iaload, 1))
    (kk : W p l e R s m args below meth c H locs cells slots Q (F0 m (pc + 1) ls (.int ((f j).2 i) :: rest))) : W p l e R s m args below meth c H locs cells slots Q (F0 m pc ls (.int x :: .ref (za z (b + j)) :: rest)) :=
  G_iald C0 hK h (by omega) (fun ct hA => hA.2.2 j hj) hx hi (show (f j).1 < 2147483648 by omega) hdg kk
theorem U_is (C0 : Cx p s m args meth c cc nL ret own ws) (hK : QK z s) (h : GW z (UAt z ix t q b n) 0 (b + n) s.heap c0 (X, Y, S, f) H locs) {j i : Nat} (hj : j < n) {x v : Int32} (hx : x = nI i) (hi : i < (f j).1) (hl : (f j).1 < 1000) (hdg : decode cc pc = .ok (.iastore, 1))
    (kk : ∀ (H1 : Heap) (locs1 : List Loc), GW z (UAt z ix t q b n) 0 (b + n) s.heap c0 (X, Y, S, va_up f j ((f j).1, upd (f j).2 i v)) H1 locs1 → W p l e R s m args below meth c H1 locs1 cells slots Q (F0 m (pc + 1) ls rest)) : W p l e R s m args below meth c H locs cells slots Q (F0 m pc ls (.int v :: .int x :: .ref (za z (b + j)) :: rest)) :=
  G_iast C0 hK h ⟨by omega, by omega⟩ (fun ct hA => hA.2.2 j hj) hx hi (show (f j).1 < 2147483648 by omega) (a' := (X, Y, S, va_up f j ((f j).1, upd (f j).2 i v))) (fun ct hA => hA.putI hj _) hdg kk
theorem u_ltT {H0 : Heap} (h : GW z (UAt z ix t q b n) 0 (b + n) H0 c0 (X, Y, S, f) H locs) {i : Nat} (hi : i < t) : ix (2 + i) < b + n := by
  obtain ⟨⟨-, h7, -⟩, -⟩ := gw_ix h
  have := h7 _ (suT (p := q) hi)
  omega
end UR
end
section
/-! PART 62: worlds that grow -/
def zx (z : QZ) (q : Nat) : QZ := (z.1, z.2.1, z.2.2.1, z.2.2.2.1, zn z + 1, va_up (za z) (zn z) q)
def XZ (sz : Nat) (z z2 : QZ) : Prop := (zG z2 = zG z ∧ zI z2 = zI z ∧ zR z2 = zR z ∧ zA z2 = zA z ∧ zB z2 = zB z) ∧ zn z ≤ zn z2 ∧ (∀ k, k < zn z → za z2 k = za z k) ∧ (∀ k, zn z ≤ k → k < zn z2 → sz ≤ za z2 k) ∧ qI (zn z2) (za z2)
theorem XZ.rf {sz : Nat} {z : QZ} (h : qI (zn z) (za z)) : XZ sz z z := ⟨⟨rfl, rfl, rfl, rfl, rfl⟩, Nat.le_refl _, fun _ _ => rfl, fun k h1 h2 => by omega, h⟩
theorem XZ.tr {sz sz2 : Nat} {z z2 z3 : QZ} (h : XZ sz z z2) (g : XZ sz2 z2 z3) (hs : sz ≤ sz2) : XZ sz z z3 := by
  obtain ⟨⟨a1, a2, a3, a4, a5⟩, hn, hk, ho, hq⟩ := h
  obtain ⟨⟨b1, b2, b3, b4, b5⟩, gn, gk, go, gq⟩ := g
  refine ⟨⟨b1.trans a1, b2.trans a2, b3.trans a3, b4.trans a4, b5.trans a5⟩, by omega, fun k h1 => (gk k (by omega)).trans (hk k h1), fun k h1 h2 => ?_, gq⟩
  by_cases h3 : k < zn z2
  · rw [gk k h3]; exact ho k h1 h3
  · have := go k (by omega) h2; omega
theorem XZ.A {sz sz0 : Nat} {z z2 : QZ} (h : XZ sz z z2) (hs : sz0 ≤ sz) (q : Nat) : qA (zn z2) (za z2) sz0 q ↔ qA (zn z) (za z) sz0 q := by
  obtain ⟨-, hn, hk, ho, -⟩ := h
  constructor
  · rintro (⟨k, h1, rfl⟩ | h1)
    · by_cases h3 : k < zn z
      · exact Or.inl ⟨k, h3, (hk k h3).symm⟩
      · exact Or.inr (by have := ho k (by omega) h1; omega)
    · exact Or.inr h1
  · rintro (⟨k, h1, rfl⟩ | h1)
    · exact Or.inl ⟨k, by omega, hk k h1⟩
    · exact Or.inr h1
theorem vaS_iff {A A2 : Nat → Prop} (h : ∀ x, A2 x ↔ A x) {H0 H : Heap} {locs : List Loc} (hS : va_S A H0 H locs) : va_S A2 H0 H locs := ⟨hS.1, fun q h1 h2 => hS.2.1 q h1 (fun h3 => h2 ((h q).mpr h3)), fun l hl => (h _).mpr (hS.2.2 l hl)⟩
theorem QK.zx {sz : Nat} {z z2 : QZ} {s : State} (h : XZ sz z z2) (hK : QK z s) : QK z2 s := by
  obtain ⟨⟨a1, a2, a3, a4, a5⟩, -⟩ := h
  refine ⟨?_, hK.2⟩
  have e : zT z2 = zT z := by unfold zT; rw [a2, a3, a4, a5]
  rw [e, a1]; exact hK.1
theorem LandAt.ext {sz B : Nat} {z z2 : QZ} {S : QLs} {ct : Nat → va_E} (h : XZ sz z z2) (hB : B + 27 ≤ zn z) (hu : LandAt z B S ct) : LandAt z2 B S ct := by
  obtain ⟨⟨a1, a2, a3, a4, a5⟩, hn, hk, ho, hq⟩ := h
  obtain ⟨h1, h2, h3, h4, h5⟩ := hu
  refine ⟨?_, ?_, ?_, fun i hi => ?_, fun i hi => ?_⟩
  · rw [hk _ (by omega), hk _ (by omega)]; exact h1
  · rw [h2, a3]
    refine congrArg (fun g => (.inl (_, 10, .inr (.inr (.inr (.inr g)))) : va_E)) (funext fun i => ?_)
    split
    · rw [hk _ (by omega)]
    · rfl
  · rw [h3, a3]
    refine congrArg (fun g => (.inl (_, 14, .inr (.inr (.inr (.inr g)))) : va_E)) (funext fun i => ?_)
    split
    · rw [hk _ (by omega)]
    · rfl
  · rw [a2]; exact h4 i hi
  · rw [a2]; exact h5 i hi
theorem XAt.ext {sz : Nat} {z z2 : QZ} {σ : Nat → QLs} {ct : Nat → va_E} (h : XZ sz z z2) (hB : 55 ≤ zn z) (hu : XAt z σ ct) : XAt z2 σ ct := by
  refine ⟨?_, fun b hb => (hu.2 b hb).ext h (by omega)⟩
  rw [h.2.2.1 _ (by omega), h.2.2.1 _ (by omega)]; exact hu.1
theorem SAt.ext {sz : Nat} {z z2 : QZ} {ix : Nat → Nat} {t p b : Nat} {S : QLs} {ct : Nat → va_E} (h : XZ sz z z2) (hB : b ≤ zn z) (hu : SAt z ix t p b S ct) : SAt z2 ix t p b S ct := by
  obtain ⟨h1, h4, h5, h6, h7⟩ := hu
  have hx : ∀ a, sUsed t p a → za z2 (ix a) = za z (ix a) := fun a ha => h.2.2.1 _ (by have := (h1.2.1 a ha).2; omega)
  obtain ⟨⟨a1, a2, a3, a4, a5⟩, -⟩ := h
  refine ⟨h1, h4, h5, by rw [hx 0 su0, hx 1 su1]; exact h6, fun a ha => ?_⟩
  rw [h7 a ha]
  unfold simV
  rw [a4, a5]
  split
  · refine congrArg (fun g => (.inl (_, t, .inr (.inr (.inr (.inr g)))) : va_E)) (funext fun k => ?_)
    split
    · rename_i hk; rw [hx _ (suT hk)]
    · rfl
  · split
    · refine congrArg (fun g => (.inl (_, p, .inr (.inr (.inr (.inr g)))) : va_E)) (funext fun k => ?_)
      split
      · rename_i hk; rw [hx _ (suP hk)]
      · rfl
    · rfl
theorem UAt.ext {sz : Nat} {z z2 : QZ} {ix : Nat → Nat} {t p b n : Nat} {u : US} {ct : Nat → va_E} (h : XZ sz z z2) (hB : b + n ≤ zn z) (hu : UAt z ix t p b n u ct) : UAt z2 ix t p b n u ct := by
  have h56 := hu.2.1.1.1.2.2
  refine ⟨hu.1.ext h (by omega), hu.2.1.ext h (by omega), fun j hj => ?_⟩
  rw [h.1.2.1]; exact hu.2.2 j hj
/-- a further cell behind the others -/
theorem UAt.more {z : QZ} {ix : Nat → Nat} {t p b n : Nat} {X Y S : QLs} {f : Nat → Nat × (Nat → Int32)} {ct : Nat → va_E} (h : UAt z ix t p b n (X, Y, S, f) ct) {k : Nat} (hk : b + n ≤ k) (e : va_E) : UAt z ix t p b n (X, Y, S, f) (va_up ct k e) := by
  have h56 := h.2.1.1.1.2.2
  exact ⟨h.1.off (fun j hj => va_up_ne _ _ (by omega)), h.2.1.off (Nat.le_refl _) (fun j h1 h2 => va_up_ne _ _ (by omega)), fun j hj => by rw [va_up_ne _ _ (by omega)]; exact h.2.2 j hj⟩
theorem UAt.moreI {z : QZ} {ix : Nat → Nat} {t p b n len : Nat} {X Y S : QLs} {f : Nat → Nat × (Nat → Int32)} {g : Nat → Int32} {ct : Nat → va_E} (h : UAt z ix t p b n (X, Y, S, f) ct) : UAt z ix t p b (n + 1) (X, Y, S, va_up f n (len, g)) (va_up ct (b + n) (.inl (zI z, len, .inl g))) := by
  obtain ⟨h1, h2, h3⟩ := h.more (k := b + n) (Nat.le_refl _) (.inl (zI z, len, .inl g))
  refine ⟨h1, h2, fun j hj => ?_⟩
  show _ = (.inl (zI z, (va_up f n (len, g) j).1, .inl (va_up f n (len, g) j).2) : va_E)
  by_cases e : j = n
  · subst e; rw [va_up_self, va_up_self]
  · rw [va_up_ne f _ e]; exact h3 j (by omega)
theorem wd_snoc {n q : Nat} {ad : Nat → Nat} {ct : Nat → va_E} {e : va_E} : wd (n + 1) (va_up ad n q) (va_up ct n e) = wd n ad ct ++ [(q, e)] := by
  unfold wd
  rw [List.range_succ, List.map_append, List.map_cons, List.map_nil, va_up_self, va_up_self]
  refine congrArg (fun x => x ++ [(q, e)]) (List.map_congr_left fun k hk => ?_)
  have : k < n := List.mem_range.mp hk
  rw [va_up_ne _ _ (by omega), va_up_ne _ _ (by omega)]
theorem GW.grow {z : QZ} {q : Nat} {e : va_E} {ct : Nat → va_E} {H0 H1 : Heap} {locs : List Loc} {α : Type} {At : α → (Nat → va_E) → Prop} {a : α} {hi : Nat} (hP : va_P (zG z) vwCl (wd (zn z) (za z) ct ++ [(q, e)]) H1) (hD : va_D (qA (zn z) (za z) H0.size) (wd (zn z) (za z) ct ++ [(q, e)])) (hS : va_S (qA (zn z) (za z) H0.size) H0 H1 locs) (hA : At a (va_up ct (zn z) e)) (hh : hi ≤ zn z + 1) : XZ H0.size z (zx z q) ∧ GW (zx z q) At 0 hi H0 (va_up ct (zn z) e) a H1 locs := by
  have hsnoc := wd_snoc (n := zn z) (q := q) (ad := za z) (ct := ct) (e := e)
  have hl : (wd (zn z) (za z) ct).length = zn z := wd_len
  have hq : qI (zn z + 1) (va_up (za z) (zn z) q) := by
    intro i j hi hj hij
    exact hD.1 i j _ _ (by rw [← hsnoc]; exact wd_get hi) (by rw [← hsnoc]; exact wd_get hj) hij
  have hqs : H0.size ≤ q := by
    have h1 := hD.2 (zn z) (q, e) (by rw [← hsnoc]; exact (wd_get (by omega)).trans (by rw [va_up_self, va_up_self]))
    rcases h1 with ⟨k, hk, h2⟩ | h1
    · have := hq k (zn z) (by omega) (by omega) (by rw [va_up_ne _ _ (by omega), va_up_self]; exact h2)
      omega
    · exact h1
  have hX : XZ H0.size z (zx z q) := ⟨⟨rfl, rfl, rfl, rfl, rfl⟩, Nat.le_succ _, fun k hk => va_up_ne _ _ (by omega), fun k h1 h2 => by
    have h2 : k < zn z + 1 := h2
    show H0.size ≤ va_up (za z) (zn z) q k
    rw [show k = zn z by omega, va_up_self]; exact hqs, hq⟩
  refine ⟨hX, va_up ct (zn z) e, ?_, vaS_iff (hX.A (Nat.le_refl _)) hS, hA, Fr.rf, hh, hq⟩
  show va_P (zG z) vwCl (wd (zn z + 1) (va_up (za z) (zn z) q) _) H1
  rw [hsnoc]; exact hP
section UN
variable {p : Program} {l : Launch} {e : Env} {R : Room} {s : State} {m : MethodId} {args : Array Value} {below : List Frame} {meth : Method} {c : Code} {H : Heap} {locs : List Loc} {cells slots : Nat} {Q : State → Prop}
variable {cc : ByteArray} {nL : Nat} {ret : Option FieldType} {own : String} {ws : List Cond} {pc : Nat} {ls : Array Slot} {rest : List Value} {z : QZ} {c0 : Nat → va_E}
variable {ix : Nat → Nat} {t q b n : Nat} {X Y S : QLs} {f : Nat → Nat × (Nat → Int32)}
theorem U_ni (C0 : Cx p s m args meth c cc nL ret own ws) (hK : QK z s) (h : GW z (UAt z ix t q b n) 0 (b + n) s.heap c0 (X, Y, S, f) H locs) (hzn : zn z = b + n) (hw : Cond.arrayClass .int ∈ ws) {len : Nat} {x : Int32} (hx : x = nI len) (hlen : len < 1000) (hc : cells + 1 ≤ R.cells) (hs : slots + len ≤ R.slots) (hdg : decode cc pc = .ok (.newarray .int, 2))
    (kk : ∀ (z2 : QZ) (c1 : Nat → va_E) (H1 : Heap), XZ s.heap.size z z2 → zn z2 = b + (n + 1) → QK z2 s → GW z2 (UAt z2 ix t q b (n + 1)) 0 (b + (n + 1)) s.heap c1 (X, Y, S, va_up f n (len, fun _ => 0)) H1 locs → W p l e R s m args below meth c H1 locs (cells + 1) (slots + len) Q (F0 m (pc + 2) ls (.ref (za z2 (b + n)) :: rest))) : W p l e R s m args below meth c H locs cells slots Q (F0 m pc ls (.int x :: rest)) := by
  obtain ⟨ct, hP, hS, hA, hF, hn, hq⟩ := h
  refine q_newi C0 hK hP (wd_DA hq) hS (fun q h => qA_new h) hw hx hlen hc hs hdg (fun a H1 hP1 hD1 hS1 => ?_)
  have hA2 : UAt z ix t q b (n + 1) (X, Y, S, va_up f n (len, fun _ => 0)) (va_up ct (zn z) (.inl (zI z, len, .inl (fun _ => 0)))) := by rw [hzn]; exact hA.moreI
  obtain ⟨hX, hG⟩ := GW.grow (At := UAt z ix t q b (n + 1)) (a := (X, Y, S, va_up f n (len, fun _ => 0))) (hi := b + (n + 1)) hP1 hD1 hS1 hA2 (by omega)
  have hG2 : GW (zx z a) (UAt (zx z a) ix t q b (n + 1)) 0 (b + (n + 1)) s.heap (va_up ct (zn z) (.inl (zI z, len, .inl (fun _ => 0)))) (X, Y, S, va_up f n (len, fun _ => 0)) H1 locs := by
    refine hG.imp (fun ct2 hA3 => ?_)
    obtain ⟨g1, g2, g3⟩ := hA3
    have h56 := g2.1.1.2.2
    exact ⟨g1.ext hX (by omega), g2.ext hX (by omega), g3⟩
  have ea : a = za (zx z a) (b + n) := by
    show a = va_up (za z) (zn z) a (b + n)
    rw [← hzn, va_up_self]
  have hz2 : zn (zx z a) = b + (n + 1) := by show zn z + 1 = _; omega
  have k2 := kk (zx z a) _ H1 hX hz2 (hK.zx hX) hG2
  rw [← ea] at k2
  exact k2
end UN
/-- the world behind a call that may make cells: it has grown -/
def UEnd (v : QZ × (Nat → Nat) × US) (t : State) : Prop := ∃ ct, va_P (zG v.1) vwCl (wd (zn v.1) (za v.1) ct) t.heap ∧ QK v.1 t ∧ UAt v.1 v.2.1 (qt v.2.2.2.2.1) (qp v.2.2.2.2.1) (zn v.1) 0 v.2.2 ct
/-- contracts of methods that make cells: from a world z with the land S made by hand, no further array -/
def NPre (z : QZ) (ix : Nat → Nat) (u : US) (ct : Nat → va_E) : Prop := UAt z ix (qt u.2.2.1) (qp u.2.2.1) (zn z) 0 u ct
def NI (l : Launch) (y : MethodName) (ws : List Cond) (rm : Room) (z : QZ) (av : List Value) (mc ms : Nat) (ix : Nat → Nat) (u : US) (post : Int32 → QZ × (Nat → Nat) × US → Prop) : Prop :=
  ∀ ct sz, qI (zn z) (za z) → NPre z ix u ct → Met l y ws rm (va_Pc av (QPre z ct sz)) (va_Qi (fun r v => XZ sz z v.1 ∧ post r v) UEnd (qA (zn z) (za z) sz)) mc ms (qA (zn z) (za z) sz)
def NV (l : Launch) (y : MethodName) (ws : List Cond) (rm : Room) (z : QZ) (av : List Value) (mc ms : Nat) (ix : Nat → Nat) (u : US) (post : QZ × (Nat → Nat) × US → Prop) : Prop :=
  ∀ ct sz, qI (zn z) (za z) → NPre z ix u ct → Met l y ws rm (va_Pc av (QPre z ct sz)) (va_Qv (fun v => XZ sz z v.1 ∧ post v) UEnd (qA (zn z) (za z) sz)) mc ms (qA (zn z) (za z) sz)
/-- the state at rest -/
abbrev GN (z : QZ) (ix : Nat → Nat) (H0 : Heap) (c0 : Nat → va_E) (u : US) (H : Heap) (locs : List Loc) : Prop := GW z (UAt z ix (qt u.2.2.1) (qp u.2.2.1) (zn z) 0) 0 (zn z + 0) H0 c0 u H locs
section UC
variable {p : Program} {l : Launch} {e : Env} {R : Room} {s : State} {m : MethodId} {args : Array Value} {below : List Frame} {meth : Method} {c : Code} {H : Heap} {locs : List Loc} {cells slots : Nat} {Q : State → Prop}
variable {cc : ByteArray} {nL : Nat} {ret : Option FieldType} {own : String} {ws : List Cond} {pc : Nat} {ls : Array Slot} {st0 rest : List Value} {z : QZ} {c0 : Nat → va_E} {ix : Nat → Nat} {u : US}
variable {y : MethodName} {bytes : ByteArray} {maxL mc ms n index : Nat} {ret2 : Option FieldType} {ws2 : List Cond} {rm : Room} {C : String} {As : List Value}
theorem UEnd.gn {z z2 : QZ} {ix : Nat → Nat} {u : US} {t : State} {H0 H1 : Heap} {locs : List Loc} {sz : Nat} (hX : XZ sz z z2) (hs : H0.size ≤ sz) (hS : va_S (qA (zn z) (za z) H0.size) H0 H1 locs) (ht : t.heap = H1) (h : UEnd (z2, ix, u) t) : XZ H0.size z z2 ∧ ∃ c1, GN z2 ix H0 c1 u H1 locs := by
  obtain ⟨ct, hP, hK, hA⟩ := h
  rw [ht] at hP
  obtain ⟨a1, a2, a3, a4, a5⟩ := id hX
  exact ⟨⟨a1, a2, a3, fun k h1 h2 => by have := a4 k h1 h2; omega, a5⟩, ct, ct, hP, vaS_iff (hX.A hs) hS, hA, Fr.rf, Nat.le_refl _, a5⟩
theorem N_callSi (C0 : Cx p s m args meth c cc nL ret own ws) (hK : QK z s) (h : GN z ix s.heap c0 u H locs) {post : Int32 → QZ × (Nat → Nat) × US → Prop} (hM : NI l y ws2 rm z As mc ms ix u post)
    (cw : CallB R s args own index y bytes maxL ret2 ws2 rm mc ms n ∧ (Cond.static y).before args s = true) (hlen : As.length = n) (hsz : ls.size = nL) (hst : st0 = As.reverse ++ rest) (hroom : (rest.map fun v => v.category).sum ≤ 8) (hf : cells + mc ≤ R.cells ∧ slots + ms ≤ R.slots) (hdg : decode cc pc = .ok (.invokestatic index, 3))
    (kk : ∀ (r : Int32) (z2 : QZ) (ix2 : Nat → Nat) (u2 : US) (c1 : Nat → va_E) (H1 : Heap) (locs1 : List Loc), post r (z2, ix2, u2) → XZ s.heap.size z z2 → QK z2 s → GN z2 ix2 s.heap c1 u2 H1 locs1 → W p l e R s m args below meth c H1 locs1 (cells + mc) (slots + ms) Q (F0 m (pc + 3) ls (.int r :: rest))) : W p l e R s m args below meth c H locs cells slots Q (F0 m pc ls st0) := by
  obtain ⟨ct, hP, hS, hA, hF, hn, hq⟩ := h
  refine va_calli (va_runS (As := As) (rest := rest) ⟨C0.1, C0.2.1, C0.2.2.2.1, C0.2.2.2.2.1, C0.2.2.2.2.2.1⟩ (hM ct H.size hq hA) cw ⟨q_blind, q_given hK hP⟩ rfl hlen hsz hst (lv_room hroom) hdg hf) hS (fun q _ h => qA_sub hS.1 h) (fun q h => qA_sub hS.1 h) (fun r v t H1 locs1 ht hvm hp hB hz1 hk1 hS1 => ?_)
  obtain ⟨z2, ix2, u2⟩ := v
  obtain ⟨hX, hp⟩ := hp
  obtain ⟨hX2, c1, hG⟩ := UEnd.gn hX hS.1 hS1 ht hB
  exact kk r z2 ix2 u2 c1 H1 locs1 hp hX2 (hK.zx hX2) hG
theorem N_callVv (C0 : Cx p s m args meth c cc nL ret own ws) (hK : QK z s) (h : GN z ix s.heap c0 u H locs) {post : QZ × (Nat → Nat) × US → Prop} (hM : NV l y ws2 rm z (.ref (za z 55) :: As) mc ms ix u post)
    (cw : CallW R s args own RX3 index y bytes maxL ret2 ws2 rm mc ms n) (hlen : As.length = n) (hsz : ls.size = nL) (hst : st0 = As.reverse ++ .ref (za z 55) :: rest) (hroom : (rest.map fun v => v.category).sum ≤ 8) (hf : cells + mc ≤ R.cells ∧ slots + ms ≤ R.slots) (hdg : decode cc pc = .ok (.invokevirtual index, 3))
    (kk : ∀ (z2 : QZ) (ix2 : Nat → Nat) (u2 : US) (c1 : Nat → va_E) (H1 : Heap) (locs1 : List Loc), post (z2, ix2, u2) → XZ s.heap.size z z2 → QK z2 s → GN z2 ix2 s.heap c1 u2 H1 locs1 → W p l e R s m args below meth c H1 locs1 (cells + mc) (slots + ms) Q (F0 m (pc + 3) ls rest)) : W p l e R s m args below meth c H locs cells slots Q (F0 m pc ls st0) := by
  obtain ⟨ct, hP, hS, hA, hF, hn, hq⟩ := h
  have h56 : 56 ≤ zn z := hA.2.1.1.1.2.2
  refine va_callv (va_runV (As := As) (rest := rest) ⟨C0.1, C0.2.1, C0.2.2.2.1, C0.2.2.2.2.1, C0.2.2.2.2.2.1⟩ (hM ct H.size hq hA) cw ⟨q_blind, q_recv (q := (RX3, TX3, 3)) hK hP (show 55 < zn z by omega) hA.2.1.2.2.2.1 rfl, q_given hK hP⟩ rfl hlen hsz hst (lv_room hroom) hdg hf) hS (fun q _ h => qA_sub hS.1 h) (fun q h => qA_sub hS.1 h) (fun v t H1 locs1 ht hvm hp hB hz1 hk1 hS1 => ?_)
  obtain ⟨z2, ix2, u2⟩ := v
  obtain ⟨hX, hp⟩ := hp
  obtain ⟨hX2, c1, hG⟩ := UEnd.gn hX hS.1 hS1 ht hB
  exact kk z2 ix2 u2 c1 H1 locs1 hp hX2 (hK.zx hX2) hG
/-- the ends of such methods: z the world at the start, z2 the one now -/
theorem N_end {z2 : QZ} {ix2 : Nat → Nat} {u2 : US} {c1 : Nat → va_E} (hK : QK z2 s) (hX : XZ s.heap.size z z2) (h : GN z2 ix2 s.heap c1 u2 H locs) {t : State} (ht : t.heap = H) (hW : s.WarmedH t.vm) : UEnd (z2, ix2, u2) t ∧ va_S (qA (zn z) (za z) s.heap.size) s.heap H locs := by
  obtain ⟨ct, hP, hS, hA, hF, hn, hq⟩ := h
  exact ⟨⟨ct, by rw [ht]; exact hP, QK.warm hW hK, hA⟩, vaS_iff (fun x => (hX.A (Nat.le_refl _) x).symm) hS⟩
theorem N_zret {z2 : QZ} {ix2 : Nat → Nat} {u2 : US} {c1 : Nat → va_E} (C0 : Cx p s m args meth c cc nL (some .boolean) own ws) (hK : QK z2 s) (hX : XZ s.heap.size z z2) (h : GN z2 ix2 s.heap c1 u2 H locs) {r : Int32} {post : Int32 → QZ × (Nat → Nat) × US → Prop} {mc ms : Nat} (hp : post r (z2, ix2, u2)) (hb : r = 0 ∨ r = 1) (h1 : cells ≤ mc) (h2 : slots ≤ ms) (hdg : decode cc pc = .ok (.ireturn, 1)) :
    W p l e R s m args below meth c H locs cells slots (MQ below (va_Qi (fun r v => XZ s.heap.size z v.1 ∧ post r v) UEnd (qA (zn z) (za z) s.heap.size)) args s mc ms (qA (zn z) (za z) s.heap.size)) (F0 m pc ls [.int r]) := by
  have hS : va_S (qA (zn z) (za z) s.heap.size) s.heap H locs := by
    obtain ⟨ct, hP, hS, hA, hF, hn, hq⟩ := h
    exact vaS_iff (fun x => (hX.A (Nat.le_refl _) x).symm) hS
  refine W.widen (k := mc) (n := ms) h1 h2 ?_
  exact W.zret C0.1 C0.2.1 C0.2.2.1 (by rcases hb with rfl | rfl <;> rfl) (fun t ht hW => ⟨⟨r, (z2, ix2, u2), rfl, ⟨hX, hp⟩, (N_end hK hX h ht hW).1⟩, hS.F ht⟩) hS.2.2 hdg C0.2.2.2.2.2.2
theorem N_vret {z2 : QZ} {ix2 : Nat → Nat} {u2 : US} {c1 : Nat → va_E} (C0 : Cx p s m args meth c cc nL none own ws) (hK : QK z2 s) (hX : XZ s.heap.size z z2) (h : GN z2 ix2 s.heap c1 u2 H locs) {post : QZ × (Nat → Nat) × US → Prop} {mc ms : Nat} (hp : post (z2, ix2, u2)) (h1 : cells ≤ mc) (h2 : slots ≤ ms) (hdg : decode cc pc = .ok (.return_, 1)) :
    W p l e R s m args below meth c H locs cells slots (MQ below (va_Qv (fun v => XZ s.heap.size z v.1 ∧ post v) UEnd (qA (zn z) (za z) s.heap.size)) args s mc ms (qA (zn z) (za z) s.heap.size)) (F0 m pc ls []) := by
  have hS : va_S (qA (zn z) (za z) s.heap.size) s.heap H locs := by
    obtain ⟨ct, hP, hS, hA, hF, hn, hq⟩ := h
    exact vaS_iff (fun x => (hX.A (Nat.le_refl _) x).symm) hS
  refine W.widen (k := mc) (n := ms) h1 h2 ?_
  exact W.vret C0.1 C0.2.1 C0.2.2.1 (fun t ht hW => ⟨⟨(z2, ix2, u2), rfl, ⟨hX, hp⟩, (N_end hK hX h ht hW).1⟩, hS.F ht⟩) hS.2.2 hdg C0.2.2.2.2.2.2
end UC
/-- the entry of such a method -/
theorem n_entry {l : Launch} {y : MethodName} {ws ws' : List Cond} {rm : Room} {z : QZ} {av : List Value} {mc ms : Nat} {ct : Nat → va_E} {sz : Nat} {Qc : Array Value → State → Outcome → State → Prop} {free : Addr → Prop} {cc : ByteArray} {maxL : Nat} {ret : Option FieldType} {ix : Nat → Nat} {u : US}
    (hy : plainName y.cls = true) (hw : ws = Cond.code y cc maxL ret :: ws') (hlen : (lg_sl av).length ≤ maxL) (hq : qI (zn z) (za z)) (hat : NPre z ix u ct)
    (body : ∀ p e s m below meth c ls, Cx p s m av.toArray meth c cc maxL ret y.cls ws → QK z s → sz = s.heap.size → GN z ix s.heap ct u s.heap [] → lv_has ls maxL (lv_args 0 av) →
      W p l e rm s m av.toArray below meth c s.heap [] 0 0 (MQ below Qc av.toArray s mc ms free) (F0 m 0 ls [])) : Met l y ws rm (va_Pc av (QPre z ct sz)) Qc mc ms free :=
  q_entry (lo := 0) (hi := zn z + 0) (At := UAt z ix (qt u.2.2.1) (qp u.2.2.1) (zn z) 0) (a := u) hy hw hlen (Nat.le_refl _) hq hat body
end
section
/-! PART 63: the class's contracts over the law's world; contracts in larger rooms -/
theorem hasRoom_mono {s : State} {pl : Platform} {a b : Room} (h : s.hasRoom pl b = true) (h1 : a.frames ≤ b.frames) (h2 : a.cells ≤ b.cells) (h3 : a.slots ≤ b.slots) (h4 : a.locals ≤ b.locals) : s.hasRoom pl a = true := by
  simp only [State.hasRoom, Bool.and_eq_true, decide_eq_true_eq] at h ⊢
  obtain ⟨⟨⟨⟨hA, q1, q2, q3, q4, q5⟩, hC⟩, hD⟩, hE⟩ := h
  exact ⟨⟨⟨⟨by omega, by omega, by omega, by omega, by omega, q5⟩, by omega⟩, by omega⟩, hE⟩
theorem met_spec {l : Launch} {y : MethodName} {ws : List Cond} {rm rm2 : Room} {Pc : Array Value → State → Prop} {K : Program → Env → List Frame → State → Array Value → Prop} {Q Q2 : Array Value → State → Outcome → State → Prop} (h : MetFree l y (headSpec ws rm) Pc K Q) (h1 : rm.frames ≤ rm2.frames) (h2 : rm.cells ≤ rm2.cells) (h3 : rm.slots ≤ rm2.slots) (h4 : rm.locals ≤ rm2.locals) (hQ : ∀ a s o t, Q a s o t → Q2 a s o t) : MetFree l y (headSpec ws rm2) Pc K Q2 := fun p e ha hb hc s m args below hf hap hp hk => by
  obtain ⟨a1, a2, a3, a4, a5, a6, a7, a8⟩ := (Spec.appliesLoose_iff hf).mp hap
  obtain ⟨n, o, b1, b2, b3, b4⟩ := h p e ha hb hc s m args below hf ((Spec.appliesLoose_iff hf).mpr ⟨a1, a2, a3, a4, a5, a6, hasRoom_mono a7 h1 h2 h3 h4, a8⟩) hp hk
  exact ⟨n, o, b1, b2, b3, hQ _ _ _ _ b4⟩
section LIFT
variable {l : Launch} {y : MethodName} {ws : List Cond} {rm : Room} {z : QZ} {av : List Value} {mc ms : Nat} {ix : Nat → Nat} {t q b n : Nat} {X Y S : QLs} {f : Nat → Nat × (Nat → Int32)}
theorem u_out {ct ct2 : Nat → va_E} {τ : Nat → QLs} (h : UAt z ix t q b n (X, Y, S, f) ct) (hX : XAt z τ ct2) (hF : Fr 0 55 ct ct2) : UAt z ix t q b n (τ 0, τ 1, S, f) ct2 := by
  have h56 := h.2.1.1.1.2.2
  exact ⟨hX.cg (pr0 _ _) (pr1 _ _), h.2.1.off (Nat.le_refl _) (fun k h1 h2 => hF k (by omega)), fun j hj => by rw [hF _ (by omega)]; exact h.2.2 j hj⟩
/-- a call of the class, seen from the law's world: its two lands become τ 0, τ 1 -/
theorem kI {post : Int32 → (Nat → QLs) → Prop} {post2 : Int32 → US → Prop} (hM : GI l y ws rm z av mc ms (XAt z) 0 55 (va_up (fun _ => Y) 0 X) post) (hp : ∀ r τ, post r τ → post2 r (τ 0, τ 1, S, f)) : GI l y ws rm z av mc ms (UAt z ix t q b n) 0 (b + n) (X, Y, S, f) post2 := fun ct sz hn hq hat => by
  have h56 := hat.2.1.1.1.2.2
  refine met_spec (hM ct sz (by omega) hq hat.1) (Nat.le_refl _) (Nat.le_refl _) (Nat.le_refl _) (Nat.le_refl _) (fun a s o t q9 => ?_)
  obtain ⟨⟨⟨r, τ, hv, hpp, hb⟩, hF⟩, L, hE, hf⟩ := q9
  obtain ⟨ct2, g1, g2, g3, g4⟩ := hb
  exact ⟨⟨⟨r, _, hv, hp r τ hpp, ct2, g1, g2, u_out hat g3 g4, g4.wider (Nat.le_refl _) (by omega)⟩, hF⟩, L, hE, hf⟩
theorem kD {post : UInt64 → (Nat → QLs) → Prop} {post2 : UInt64 → US → Prop} (hM : GD l y ws rm z av mc ms (XAt z) 0 55 (va_up (fun _ => Y) 0 X) post) (hp : ∀ r τ, post r τ → post2 r (τ 0, τ 1, S, f)) : GD l y ws rm z av mc ms (UAt z ix t q b n) 0 (b + n) (X, Y, S, f) post2 := fun ct sz hn hq hat => by
  have h56 := hat.2.1.1.1.2.2
  refine met_spec (hM ct sz (by omega) hq hat.1) (Nat.le_refl _) (Nat.le_refl _) (Nat.le_refl _) (Nat.le_refl _) (fun a s o t q9 => ?_)
  obtain ⟨⟨⟨r, τ, hv, hpp, hb⟩, hF⟩, L, hE, hf⟩ := q9
  obtain ⟨ct2, g1, g2, g3, g4⟩ := hb
  exact ⟨⟨⟨r, _, hv, hp r τ hpp, ct2, g1, g2, u_out hat g3 g4, g4.wider (Nat.le_refl _) (by omega)⟩, hF⟩, L, hE, hf⟩
theorem k0 {r : Int32} {v : Int32} {X2 : QLs} {τ : Nat → QLs} (h : r = v ∧ τ = va_up (fun _ => Y) 0 X2) : r = v ∧ ((τ 0, τ 1, S, f) : US) = (X2, Y, S, f) := by
  obtain ⟨h1, rfl⟩ := h
  exact ⟨h1, by rw [va_up_self, va_up_ne _ _ (by decide : (1 : Nat) ≠ 0)]⟩
theorem k0d {r : UInt64} {v : UInt64} {X2 : QLs} {τ : Nat → QLs} (h : r = v ∧ τ = va_up (fun _ => Y) 0 X2) : r = v ∧ ((τ 0, τ 1, S, f) : US) = (X2, Y, S, f) := by
  obtain ⟨h1, rfl⟩ := h
  exact ⟨h1, by rw [va_up_self, va_up_ne _ _ (by decide : (1 : Nat) ≠ 0)]⟩
theorem k1 {r : Int32} {v : Int32} {τ : Nat → QLs} (h : r = v ∧ ∃ S2, τ = va_up (va_up (fun _ => Y) 0 X) 1 S2) : r = v ∧ ∃ Y2, ((τ 0, τ 1, S, f) : US) = (X, Y2, S, f) := by
  obtain ⟨h1, S2, rfl⟩ := h
  exact ⟨h1, S2, by rw [va_up_self, va_up_ne _ _ (by decide : (0 : Nat) ≠ 1), va_up_self]⟩
theorem k_build (hk : LOk X) (ht : qt X < 10) (x y v : Int32) (h9 : (0 ≤ x ∧ x ≤ 99) ∧ (0 ≤ y ∧ y ≤ 20) ∧ (0 ≤ v ∧ v ≤ 20)) : GI l yX1_build wsX1_build ({ frames := 2, cells := 0, slots := 0, locals := 43 } : Room) z [.ref (za z 0), .int x, .int y, .int v] 0 0 (UAt z ix t q b n) 0 (b + n) (X, Y, S, f) (fun r u => r = nI (qt X) ∧ u = (addT X x y v, Y, S, f)) :=
  kI (c_X1_build_ok l z _ X hk ht x y v h9) (fun _ _ h => k0 h)
theorem k_lay (hk : LOk X) (i : Nat) (hi : i < qt X) (j : Nat) (hj : j < qt X) (hp9 : qp X < 14) (hne : i ≠ j) (x y : Int32) (h9 : (1 ≤ x ∧ x ≤ 20) ∧ (0 ≤ y ∧ y ≤ 60)) : GI l yX1_lay wsX1_lay ({ frames := 2, cells := 0, slots := 0, locals := 41 } : Room) z [.ref (za z 0), .int (nI i), .int (nI j), .int x, .int y] 0 0 (UAt z ix t q b n) 0 (b + n) (X, Y, S, f) (fun r u => r = nI (qp X) ∧ u = (addP X (nI i) (nI j) x y, Y, S, f)) :=
  kI (c_X1_lay_ok l z _ X hk i hi j hj hp9 hne x y h9) (fun _ _ h => k0 h)
theorem k_set (hk : LOk X) (i : Nat) (hi : i < qt X) (x y : Int32) (h9 : (0 ≤ x ∧ x ≤ 20) ∧ (0 ≤ y ∧ y ≤ 20)) : GI l yX1_set wsX1_set ({ frames := 2, cells := 0, slots := 0, locals := 43 } : Room) z [.ref (za z 0), .int (nI i), .int x, .int y] 0 0 (UAt z ix t q b n) 0 (b + n) (X, Y, S, f) (fun r u => r = 100 * qT X i 1 + qT X i 2 ∧ u = (sT (sT X i (upd (qT X i) 1 x)) i (upd (qT (sT X i (upd (qT X i) 1 x)) i) 2 y), Y, S, f)) :=
  kI (c_X1_set_ok l z _ X hk i hi x y h9) (fun _ _ h => k0 h)
theorem k_flush (hk : LOk X) (i : Nat) (hi : i < qt X) : GI l yX1_flush wsX1_flush ({ frames := 2, cells := 0, slots := 0, locals := 41 } : Room) z [.ref (za z 0), .int (nI i)] 0 0 (UAt z ix t q b n) 0 (b + n) (X, Y, S, f) (fun r u => r = qT X i 4 ∧ u = (sT (sT X i (upd (qT X i) 4 0)) i (upd (qT (sT X i (upd (qT X i) 4 0)) i) 3 (qT (sT X i (upd (qT X i) 4 0)) i 3 / 2)), Y, S, f)) :=
  kI (c_X1_flush_ok l z _ X hk i hi) (fun _ _ h => k0 h)
theorem k_scrape (hk : LOk X) (i : Nat) (hi : i < qp X) : GI l yX1_scrape wsX1_scrape ({ frames := 2, cells := 0, slots := 0, locals := 41 } : Room) z [.ref (za z 0), .int (nI i)] 0 0 (UAt z ix t q b n) 0 (b + n) (X, Y, S, f) (fun r u => r = qP X i 4 ∧ u = (sP X i (upd (qP X i) 4 0), Y, S, f)) :=
  kI (c_X1_scrape_ok l z _ X hk i hi) (fun _ _ h => k0 h)
theorem k_steal (hk : LOk X) (i : Nat) (hi : i < qp X) (x : Int32) (h9 : 0 ≤ x ∧ x ≤ 9) : GI l yX1_steal wsX1_steal ({ frames := 2, cells := 0, slots := 0, locals := 41 } : Room) z [.ref (za z 0), .int (nI i), .int x] 0 0 (UAt z ix t q b n) 0 (b + n) (X, Y, S, f) (fun r u => r = qP X i 9 ∧ u = (sP X i (upd (qP X i) 9 x), Y, S, f)) :=
  kI (c_X1_steal_ok l z _ X hk i hi x h9) (fun _ _ h => k0 h)
theorem k_tank (hk : LOk X) (i : Nat) (hi : i < qt X) (k : Nat) (hk9 : k < 8) : GI l yX1_tank wsX1_tank ({ frames := 2, cells := 0, slots := 0, locals := 41 } : Room) z [.ref (za z 0), .int (nI i), .int (nI k)] 0 0 (UAt z ix t q b n) 0 (b + n) (X, Y, S, f) (fun r u => r = qT X i k ∧ u = (X, Y, S, f)) :=
  kI (c_X1_tank_ok l z _ X hk i hi k hk9) (fun _ _ h => k0 h)
theorem k_pipe (hk : LOk X) (i : Nat) (hi : i < qp X) (k : Nat) (hk9 : k < 9) : GI l yX1_pipe wsX1_pipe ({ frames := 3, cells := 0, slots := 0, locals := 68 } : Room) z [.ref (za z 0), .int (nI i), .int (nI k)] 0 0 (UAt z ix t q b n) 0 (b + n) (X, Y, S, f) (fun r u => r = ofPipeL X i k ∧ u = (X, Y, S, f)) :=
  kI (c_X1_pipe_ok l z _ X hk i hi k hk9) (fun _ _ h => k0 h)
theorem k_count (hk : LOk X) (k : Nat) (hk9 : k ≤ 8) : GI l yX1_count wsX1_count ({ frames := 3, cells := 0, slots := 0, locals := 64 } : Room) z [.ref (za z 0), .int (nI k)] 0 0 (UAt z ix t q b n) 0 (b + n) (X, Y, S, f) (fun r u => r = ofAllL X k ∧ u = (X, Y, S, f)) :=
  kI (c_X1_count_ok l z _ X hk k hk9) (fun _ _ h => k0 h)
theorem k_reach (hk : LOk X) (i : Nat) (hi : i < qt X) : GI l yX1_reach wsX1_reach ({ frames := 2, cells := 0, slots := 0, locals := 41 } : Room) z [.ref (za z 0), .int (nI i)] 0 0 (UAt z ix t q b n) 0 (b + n) (X, Y, S, f) (fun r u => r = reachL X (nI i) ∧ u = (X, Y, S, f)) :=
  kI (c_X1_reach_ok l z _ X hk i hi) (fun _ _ h => k0 h)
theorem k_suspect (hk : LOk X) : GI l yX1_suspect wsX1_suspect ({ frames := 0, cells := 0, slots := 0, locals := 0 } : Room) z [.ref (za z 0)] 0 0 (UAt z ix t q b n) 0 (b + n) (X, Y, S, f) (fun r u => r = (qsus X (qp X)).1 ∧ u = (X, Y, S, f)) :=
  kI (c_X1_suspect l z _ X hk) (fun _ _ h => k0 h)
theorem k_pass (hk : LOk X) (n9 : Nat) (h1 : 1 ≤ n9) (h2 : n9 ≤ 100) : GI l yX1_pass wsX1_pass ({ frames := 6, cells := 0, slots := 0, locals := 129 } : Room) z [.ref (za z 0), .int (nI n9)] 0 0 (UAt z ix t q b n) 0 (b + n) (X, Y, S, f) (fun r u => r = sumT (itN dayF n9 X) 6 - sumT X 6 ∧ u = (itN dayF n9 X, Y, S, f)) :=
  kI (c_X1_pass_ok l z _ X hk n9 h1 h2) (fun _ _ h => k0 h)
theorem k_foresee (hk : LOk X) (n9 : Nat) (h1 : 1 ≤ n9) (h2 : n9 ≤ 100) (k : Nat) (hk9 : k ≤ 3) : GI l yX1_foresee wsX1_foresee ({ frames := 6, cells := 0, slots := 0, locals := 129 } : Room) z [.ref (za z 0), .int (nI n9), .int (nI k)] 0 0 (UAt z ix t q b n) 0 (b + n) (X, Y, S, f) (fun r u => r = qfore X (copyL X Y) n9 k ∧ ∃ Y2, u = (X, Y2, S, f)) :=
  kI (c_X1_foresee_ok l z (fun _ => Y) X hk n9 h1 h2 k hk9) (fun _ _ h => k1 h)
theorem k_sated (hk : LOk X) (i : Nat) (hi : i < qt X) : GI l yX1_sated wsX1_sated ({ frames := 5, cells := 0, slots := 0, locals := 106 } : Room) z [.ref (za z 0), .int (nI i)] 0 0 (UAt z ix t q b n) 0 (b + n) (X, Y, S, f) (fun r u => r = qsatF (copyL X Y) i 100 0 ∧ ∃ Y2, u = (X, Y2, S, f)) :=
  kI (c_X1_sated_ok l z (fun _ => Y) X hk i hi) (fun _ _ h => k1 h)
theorem k_mean (hk : LOk X) : GD l yX1_mean wsX1_mean ({ frames := 1, cells := 0, slots := 0, locals := 23 } : Room) z [.ref (za z 0)] 0 0 (UAt z ix t q b n) 0 (b + n) (X, Y, S, f) (fun r u => r = qmean X ∧ u = (X, Y, S, f)) :=
  kD (c_X1_mean l z _ X hk) (fun _ _ h => k0d h)
end LIFT
end
section
/-! PART 64: what the hand-made land does, as functions -/
def comesR (r : Nat → Int32) (x y : Int32) : Nat → Int32 :=
  let r1 := upd r 3 (r 3 + x)
  let r2 := upd r1 4 (if r1 4 + y ≤ 99 then r1 4 + y else 99)
  if 200 < r2 3 then upd (upd r2 7 (r2 7 + (r2 3 - 200))) 3 200 else r2
def simBy (S : QLs) (k : Nat) : Int32 := 10 * (qT S (qf S k) 0 - qT S (qo S k) 0) + qT S (qf S k) 3 - qT S (qo S k) 3
def simIts (S : QLs) (k : Nat) : Int32 := if qP S k 2 - qP S k 4 ≤ 1 + simBy S k / 10 then qP S k 2 - qP S k 4 else 1 + simBy S k / 10
def simF (S : QLs) (k : Nat) : Int32 :=
  if simBy S k < 1 then 0 else if simBy S k < qP S k 3 then 0 else if qP S k 4 < qP S k 2 then (if simIts S k ≤ qT S (qf S k) 3 then simIts S k else qT S (qf S k) 3) else 0
abbrev sfeedF : Nat → QLs → QLs := fun i S => sT S i (comesR (qT S i) (qT S i 1) (qT S i 1 / 4))
def sflow1 (k : Nat) (S : QLs) : QLs :=
  let S1 := sP S k (upd (qP S k) 5 (simF S k))
  let S2 := sP S1 k (upd (qP S1 k) 6 (if qP S1 k 5 ≤ qP S1 k 9 then qP S1 k 5 else qP S1 k 9))
  sP S2 k (upd (qP S2 k) 7 (qP S2 k 7 + qP S2 k 6))
def sflow2 (k f o : Nat) (S : QLs) : QLs :=
  let w : Int32 := qT S f 4 * qP S k 5 / qT S f 3
  let S4 := sT S f (upd (qT S f) 3 (qT S f 3 - qP S k 5))
  let S5 := sT S4 f (upd (qT S4 f) 4 (qT S4 f 4 - w))
  sT S5 o (comesR (qT S5 o) (qP S5 k 5 - qP S5 k 6) w)
def sflow3 (k : Nat) (S : QLs) : QLs := if qD S - qD S / 4 * 4 = 0 then (if 20 ≤ qP S k 4 then S else sP S k (upd (qP S k) 4 (qP S k 4 + 1))) else S
def sflowF (k : Nat) (S : QLs) : QLs := if qP (sflow1 k S) k 5 = 0 then sflow1 k S else sflow3 k (sflow2 k (qf S k) (qo S k) (sflow1 k S))
def sdrinkF (i : Nat) (S : QLs) : QLs :=
  let S1 := sT S i (upd (qT S i) 5 (if qT S i 4 ≤ 49 then qT S i 2 else qT S i 2 / 2))
  let S2 := if qT S1 i 5 ≤ qT S1 i 3 then S1 else sT S1 i (upd (qT S1 i) 5 (qT S1 i 3))
  let S3 := sT S2 i (upd (qT S2 i) 3 (qT S2 i 3 - qT S2 i 5))
  sT S3 i (upd (qT S3 i) 6 (qT S3 i 6 + qT S3 i 5))
def sdr (S : QLs) : Nat → Int32
  | 0 => 0
  | n + 1 => sdr S n + qT (itN sdrinkF (n + 1) S) n 5
def spass (t q : Nat) (S : QLs) : QLs :=
  let S1 := itN sfeedF t S
  let S2 := itN sflowF q S1
  let S3 := itN sdrinkF t S2
  sD S3 (qD S3 + 1)
theorem shp_sflow1 {S : QLs} {k : Nat} : Shp S (sflow1 k S) := ((shp_sP (by decide)).trans (shp_sP (by decide))).trans (shp_sP (by decide))
theorem shp_sflow2 {S : QLs} {k f o : Nat} : Shp S (sflow2 k f o S) := (shp_sT.trans shp_sT).trans shp_sT
theorem shp_sflow3 {S : QLs} {k : Nat} : Shp S (sflow3 k S) := by
  unfold sflow3
  split
  · split
    · exact Shp.rf
    · exact shp_sP (by decide)
  · exact Shp.rf
theorem shp_sflow {S : QLs} {k : Nat} : Shp S (sflowF k S) := by
  unfold sflowF
  split
  · exact shp_sflow1
  · exact (shp_sflow1.trans shp_sflow2).trans shp_sflow3
theorem shp_sdrink {S : QLs} {i : Nat} : Shp S (sdrinkF i S) := by
  unfold sdrinkF
  refine (Shp.trans ?_ shp_sT).trans shp_sT
  generalize (if qT S i 4 ≤ 49 then qT S i 2 else qT S i 2 / 2) = v
  show Shp S (if _ then _ else _)
  split
  · exact shp_sT
  · exact Shp.trans (shp_sT (S := S) (i := i)) shp_sT
end
section
set_option maxHeartbeats 4000000 in
set_option maxRecDepth 100000 in
theorem c_X4_comes {l : Launch} {z : QZ} {ix : Nat → Nat} {t q b n : Nat} {X Y S : QLs} {f : Nat → Nat × (Nat → Int32)} (i : Nat) (hi : i < t) (x y : Int32) : GV l yX4_comes wsX4_comes ({ frames := 0, cells := 0, slots := 0, locals := 0 } : Room) z [.ref (za z (ix (2 + i))), .int x, .int y] 0 0 (UAt z ix t q b n) 0 (b + n) (X, Y, S, f) (fun u => u = (X, Y, sT S i (comesR (qT S i) x y), f)) := by
  intro ct sz hn hq9 hat
  refine q_entry (lo := 0) (cc := cX4_comes) (maxL := 3) (ret := none) (by decide) rfl (Nat.le_of_ble_eq_true rfl) hn hq9 hat ?_
  intro p e s m below meth c ls C0 hK hsz h hl
  subst hsz
  obtain ⟨hx, hb, hr, hml, hown, hts, hlocks⟩ := id C0
  obtain ⟨hix, hqt, hqp, hbn⟩ := gw_ix h
  obtain ⟨⟨h10, h14, h56⟩, -⟩ := id hix
  have hin4 : ∀ w ∈ u_ws RX4 TX4 8, w ∈ wsX4_comes := by decide +kernel
  have hl : lv_has ls 3 [(0, .ref (za z (ix (2 + i)))), (1, .int x), (2, .int y)] := hl
  refine lv_aload_n hx hb dX4_comes_0 rfl (lv_at hl 0 rfl) ?_
  refine lv_dup hx hb dX4_comes_1 rfl ?_
  refine U_gT C0 hK h hin4 hi 3 (by decide) (by decide +kernel) dX4_comes_2 ?_
  refine lv_iload_n hx hb dX4_comes_5 rfl (lv_at hl 1 rfl) ?_
  refine lv_iadd hx hb dX4_comes_6 ?_
  refine U_pT C0 hK h hin4 hi 3 (by decide) (by decide +kernel) dX4_comes_7 (fun H locs S1 eS1 h => ?_)
  refine lv_aload_n hx hb dX4_comes_10 rfl (lv_at hl 0 rfl) ?_
  refine lv_aload_n hx hb dX4_comes_11 rfl (lv_at hl 0 rfl) ?_
  refine U_gT C0 hK h hin4 hi 4 (by decide) (by decide +kernel) dX4_comes_12 ?_
  refine lv_iload_n hx hb dX4_comes_15 rfl (lv_at hl 2 rfl) ?_
  refine lv_iadd hx hb dX4_comes_16 ?_
  refine lv_bipush (v := 99) hx hb dX4_comes_17 (by decide) ?_
  refine lv_icmp_le (tgt := 27) hx hb dX4_comes_19 (by decide) (fun c_19 => ?_) (fun c_19 => ?_)
  · refine lv_aload_n hx hb dX4_comes_27 rfl (lv_at hl 0 rfl) ?_
    refine U_gT C0 hK h hin4 hi 4 (by decide) (by decide +kernel) dX4_comes_28 ?_
    refine lv_iload_n hx hb dX4_comes_31 rfl (lv_at hl 2 rfl) ?_
    refine lv_iadd hx hb dX4_comes_32 ?_
    refine U_pT C0 hK h hin4 hi 4 (by decide) (by decide +kernel) dX4_comes_33 (fun H locs S2 eS2 h => ?_)
    refine lv_aload_n hx hb dX4_comes_36 rfl (lv_at hl 0 rfl) ?_
    refine U_gT C0 hK h hin4 hi 3 (by decide) (by decide +kernel) dX4_comes_37 ?_
    refine lv_sipush (v := 200) hx hb dX4_comes_40 (by decide) ?_
    refine lv_icmp_gt (tgt := 47) hx hb dX4_comes_43 (by decide) (fun c_43 => ?_) (fun c_43 => ?_)
    · refine lv_aload_n hx hb dX4_comes_47 rfl (lv_at hl 0 rfl) ?_
      refine lv_dup hx hb dX4_comes_48 rfl ?_
      refine U_gT C0 hK h hin4 hi 7 (by decide) (by decide +kernel) dX4_comes_49 ?_
      refine lv_aload_n hx hb dX4_comes_52 rfl (lv_at hl 0 rfl) ?_
      refine U_gT C0 hK h hin4 hi 3 (by decide) (by decide +kernel) dX4_comes_53 ?_
      refine lv_sipush (v := 200) hx hb dX4_comes_56 (by decide) ?_
      refine lv_isub hx hb dX4_comes_59 ?_
      refine lv_iadd hx hb dX4_comes_60 ?_
      refine U_pT C0 hK h hin4 hi 7 (by decide) (by decide +kernel) dX4_comes_61 (fun H locs S3 eS3 h => ?_)
      refine lv_aload_n hx hb dX4_comes_64 rfl (lv_at hl 0 rfl) ?_
      refine lv_sipush (v := 200) hx hb dX4_comes_65 (by decide) ?_
      refine U_pT C0 hK h hin4 hi 3 (by decide) (by decide +kernel) dX4_comes_68 (fun H locs S4 eS4 h => ?_)
      exact G_vret C0 hK h (congrArg (fun r => ((X, Y, r, f) : US)) (by subst eS4 eS3 eS2 eS1; simp only [qT_sT, sT_sT] at c_19 c_43 ⊢; refine congrArg (sT S i) ?_; unfold comesR; simp only []; rw [if_pos c_19] at *; rw [if_pos c_43])) (Nat.le_of_ble_eq_true rfl) (Nat.le_of_ble_eq_true rfl) dX4_comes_71
    · exact G_vret C0 hK h (congrArg (fun r => ((X, Y, r, f) : US)) (by subst eS2 eS1; simp only [qT_sT, sT_sT] at c_19 c_43 ⊢; refine congrArg (sT S i) ?_; unfold comesR; simp only []; rw [if_pos c_19] at *; rw [if_neg c_43])) (Nat.le_of_ble_eq_true rfl) (Nat.le_of_ble_eq_true rfl) dX4_comes_46
  · refine lv_bipush (v := 99) hx hb dX4_comes_22 (by decide) ?_
    refine lv_goto (tgt := 33) hx hb dX4_comes_24 (by decide) ?_
    refine U_pT C0 hK h hin4 hi 4 (by decide) (by decide +kernel) dX4_comes_33 (fun H locs S5 eS5 h => ?_)
    refine lv_aload_n hx hb dX4_comes_36 rfl (lv_at hl 0 rfl) ?_
    refine U_gT C0 hK h hin4 hi 3 (by decide) (by decide +kernel) dX4_comes_37 ?_
    refine lv_sipush (v := 200) hx hb dX4_comes_40 (by decide) ?_
    refine lv_icmp_gt (tgt := 47) hx hb dX4_comes_43 (by decide) (fun c_43 => ?_) (fun c_43 => ?_)
    · refine lv_aload_n hx hb dX4_comes_47 rfl (lv_at hl 0 rfl) ?_
      refine lv_dup hx hb dX4_comes_48 rfl ?_
      refine U_gT C0 hK h hin4 hi 7 (by decide) (by decide +kernel) dX4_comes_49 ?_
      refine lv_aload_n hx hb dX4_comes_52 rfl (lv_at hl 0 rfl) ?_
      refine U_gT C0 hK h hin4 hi 3 (by decide) (by decide +kernel) dX4_comes_53 ?_
      refine lv_sipush (v := 200) hx hb dX4_comes_56 (by decide) ?_
      refine lv_isub hx hb dX4_comes_59 ?_
      refine lv_iadd hx hb dX4_comes_60 ?_
      refine U_pT C0 hK h hin4 hi 7 (by decide) (by decide +kernel) dX4_comes_61 (fun H locs S6 eS6 h => ?_)
      refine lv_aload_n hx hb dX4_comes_64 rfl (lv_at hl 0 rfl) ?_
      refine lv_sipush (v := 200) hx hb dX4_comes_65 (by decide) ?_
      refine U_pT C0 hK h hin4 hi 3 (by decide) (by decide +kernel) dX4_comes_68 (fun H locs S7 eS7 h => ?_)
      exact G_vret C0 hK h (congrArg (fun r => ((X, Y, r, f) : US)) (by subst eS7 eS6 eS5 eS1; simp only [qT_sT, sT_sT] at c_19 c_43 ⊢; refine congrArg (sT S i) ?_; unfold comesR; simp only []; rw [if_neg c_19] at *; rw [if_pos c_43])) (Nat.le_of_ble_eq_true rfl) (Nat.le_of_ble_eq_true rfl) dX4_comes_71
    · exact G_vret C0 hK h (congrArg (fun r => ((X, Y, r, f) : US)) (by subst eS5 eS1; simp only [qT_sT, sT_sT] at c_19 c_43 ⊢; refine congrArg (sT S i) ?_; unfold comesR; simp only []; rw [if_neg c_19] at *; rw [if_neg c_43])) (Nat.le_of_ble_eq_true rfl) (Nat.le_of_ble_eq_true rfl) dX4_comes_46
set_option maxHeartbeats 4000000 in
set_option maxRecDepth 100000 in
theorem c_X3_flows {l : Launch} {z : QZ} {ix : Nat → Nat} {t q b n : Nat} {X Y S : QLs} {f : Nat → Nat × (Nat → Int32)} (hk : LOk S) (k : Nat) (hkq : k < q) : GI l yX3_flows wsX3_flows ({ frames := 0, cells := 0, slots := 0, locals := 0 } : Room) z [.ref (za z 55), .ref (za z (ix (12 + k)))] 0 0 (UAt z ix t q b n) 0 (b + n) (X, Y, S, f) (fun r u => r = simF S k ∧ u = (X, Y, S, f)) := by
  intro ct sz hn hq9 hat
  refine q_entry (lo := 0) (cc := cX3_flows) (maxL := 6) (ret := (some .int)) (by decide) rfl (Nat.le_of_ble_eq_true rfl) hn hq9 hat ?_
  intro p e s m below meth c ls C0 hK hsz h hl
  subst hsz
  obtain ⟨hx, hb, hr, hml, hown, hts, hlocks⟩ := id C0
  obtain ⟨hix, hqt, hqp, hbn⟩ := gw_ix h
  obtain ⟨⟨h10, h14, h56⟩, -⟩ := id hix
  have hin2 : ∀ w ∈ u_ws RX2 TX2 9, w ∈ wsX3_flows := by decide +kernel
  have hin3 : ∀ w ∈ u_ws RX3 TX3 3, w ∈ wsX3_flows := by decide +kernel
  have hin4 : ∀ w ∈ u_ws RX4 TX4 8, w ∈ wsX3_flows := by decide +kernel
  have hl : lv_has ls 6 [(0, .ref (za z 55)), (1, .ref (za z (ix (12 + k))))] := hl
  have hk1 := hk.1
  have hk2 := hk.2.1
  obtain ⟨hk3, hk4, hk5, hF0, hF1⟩ := hk.2.2 k (by omega)
  rw [hqt] at hk3 hk4
  refine lv_aload_n hx hb dX3_flows_0 rfl (lv_at hl 0 rfl) ?_
  refine U_gO C0 hK h hin3 0 (by decide) (by decide +kernel) rfl dX3_flows_1 ?_
  refine lv_aload_n hx hb dX3_flows_4 rfl (lv_at hl 1 rfl) ?_
  refine U_gP C0 hK h hin2 hkq 0 (by decide) (k9 := 0) rfl (by decide +kernel) dX3_flows_5 ?_
  refine U_aT C0 hK h (i := qf S k) hF0 (by omega) dX3_flows_8 ?_
  refine lv_astore_n (lv' := [(2, .ref (za z (ix (2 + (qf S k))))), (0, .ref (za z 55)), (1, .ref (za z (ix (12 + k))))]) hx hb dX3_flows_9 rfl hl (by decide) rfl (fun ls hl => ?_)
  refine lv_aload_n hx hb dX3_flows_10 rfl (lv_at hl 1 rfl) ?_
  refine U_gO C0 hK h hin3 0 (by decide) (by decide +kernel) rfl dX3_flows_11 ?_
  refine lv_aload_n hx hb dX3_flows_14 rfl (lv_at hl 2 rfl) ?_
  refine U_gP C0 hK h hin2 hkq 1 (by decide) (k9 := 1) rfl (by decide +kernel) dX3_flows_15 ?_
  refine U_aT C0 hK h (i := qo S k) hF1 (by omega) dX3_flows_18 ?_
  refine lv_astore_n (lv' := [(3, .ref (za z (ix (2 + (qo S k))))), (2, .ref (za z (ix (2 + (qf S k))))), (0, .ref (za z 55)), (1, .ref (za z (ix (12 + k))))]) hx hb dX3_flows_19 rfl hl (by decide) rfl (fun ls hl => ?_)
  refine lv_bipush (v := 10) hx hb dX3_flows_20 (by decide) ?_
  refine lv_aload_n hx hb dX3_flows_22 rfl (lv_at hl 1 rfl) ?_
  refine U_gT C0 hK h hin4 (by omega) 0 (by decide) (by decide +kernel) dX3_flows_23 ?_
  refine lv_aload_n hx hb dX3_flows_26 rfl (lv_at hl 0 rfl) ?_
  refine U_gT C0 hK h hin4 (by omega) 0 (by decide) (by decide +kernel) dX3_flows_27 ?_
  refine lv_isub hx hb dX3_flows_30 ?_
  refine lv_imul hx hb dX3_flows_31 ?_
  refine lv_aload_n hx hb dX3_flows_32 rfl (lv_at hl 1 rfl) ?_
  refine U_gT C0 hK h hin4 (by omega) 3 (by decide) (by decide +kernel) dX3_flows_33 ?_
  refine lv_iadd hx hb dX3_flows_36 ?_
  refine lv_aload_n hx hb dX3_flows_37 rfl (lv_at hl 0 rfl) ?_
  refine U_gT C0 hK h hin4 (by omega) 3 (by decide) (by decide +kernel) dX3_flows_38 ?_
  refine lv_isub hx hb dX3_flows_41 ?_
  refine lv_istore (lv' := [(4, .int (((10 * ((qT S (qf S k) 0) - (qT S (qo S k) 0))) + (qT S (qf S k) 3)) - (qT S (qo S k) 3))), (3, .ref (za z (ix (2 + (qo S k))))), (2, .ref (za z (ix (2 + (qf S k))))), (0, .ref (za z 55)), (1, .ref (za z (ix (12 + k))))]) hx hb dX3_flows_42 hl (by decide) rfl (fun ls hl => ?_)
  refine lv_iload hx hb dX3_flows_44 (lv_at hl 0 rfl) ?_
  refine lv_iconst (v := 1) hx hb dX3_flows_46 (by decide) ?_
  refine lv_icmp_lt (tgt := 70) hx hb dX3_flows_47 (by decide) (fun c_47 => ?_) (fun c_47 => ?_)
  · refine lv_iconst (v := 0) hx hb dX3_flows_70 (by decide) ?_
    exact G_iret C0 hK h ⟨by unfold simF; have c47 : simBy S k < 1 := c_47; rw [if_pos c47], rfl⟩ (Nat.le_of_ble_eq_true rfl) (Nat.le_of_ble_eq_true rfl) dX3_flows_71
  · refine lv_iload hx hb dX3_flows_50 (lv_at hl 0 rfl) ?_
    refine lv_aload_n hx hb dX3_flows_52 rfl (lv_at hl 4 rfl) ?_
    refine U_gP C0 hK h hin2 hkq 3 (by decide) (k9 := 3) rfl (by decide +kernel) dX3_flows_53 ?_
    refine lv_icmp_lt (tgt := 70) hx hb dX3_flows_56 (by decide) (fun c_56 => ?_) (fun c_56 => ?_)
    · refine lv_iconst (v := 0) hx hb dX3_flows_70 (by decide) ?_
      exact G_iret C0 hK h ⟨by unfold simF; have c47 : ¬ simBy S k < 1 := c_47; have c56 : simBy S k < qP S k 3 := c_56; rw [if_neg c47, if_pos c56], rfl⟩ (Nat.le_of_ble_eq_true rfl) (Nat.le_of_ble_eq_true rfl) dX3_flows_71
    · refine lv_aload_n hx hb dX3_flows_59 rfl (lv_at hl 4 rfl) ?_
      refine U_gP C0 hK h hin2 hkq 2 (by decide) (k9 := 2) rfl (by decide +kernel) dX3_flows_60 ?_
      refine lv_aload_n hx hb dX3_flows_63 rfl (lv_at hl 4 rfl) ?_
      refine U_gP C0 hK h hin2 hkq 4 (by decide) (k9 := 4) rfl (by decide +kernel) dX3_flows_64 ?_
      refine lv_icmp_gt (tgt := 72) hx hb dX3_flows_67 (by decide) (fun c_67 => ?_) (fun c_67 => ?_)
      · refine lv_aload_n hx hb dX3_flows_72 rfl (lv_at hl 4 rfl) ?_
        refine U_gP C0 hK h hin2 hkq 2 (by decide) (k9 := 2) rfl (by decide +kernel) dX3_flows_73 ?_
        refine lv_aload_n hx hb dX3_flows_76 rfl (lv_at hl 4 rfl) ?_
        refine U_gP C0 hK h hin2 hkq 4 (by decide) (k9 := 4) rfl (by decide +kernel) dX3_flows_77 ?_
        refine lv_isub hx hb dX3_flows_80 ?_
        refine lv_istore (lv' := [(5, .int ((qP S k 2) - (qP S k 4))), (4, .int (((10 * ((qT S (qf S k) 0) - (qT S (qo S k) 0))) + (qT S (qf S k) 3)) - (qT S (qo S k) 3))), (3, .ref (za z (ix (2 + (qo S k))))), (2, .ref (za z (ix (2 + (qf S k))))), (0, .ref (za z 55)), (1, .ref (za z (ix (12 + k))))]) hx hb dX3_flows_81 hl (by decide) rfl (fun ls hl => ?_)
        refine lv_iload hx hb dX3_flows_83 (lv_at hl 0 rfl) ?_
        refine lv_iconst (v := 1) hx hb dX3_flows_85 (by decide) ?_
        refine lv_iload hx hb dX3_flows_86 (lv_at hl 1 rfl) ?_
        refine lv_bipush (v := 10) hx hb dX3_flows_88 (by decide) ?_
        refine lv_idiv hx hb dX3_flows_90 (by decide) ?_
        refine lv_iadd hx hb dX3_flows_91 ?_
        refine lv_icmp_le (tgt := 104) hx hb dX3_flows_92 (by decide) (fun c_92 => ?_) (fun c_92 => ?_)
        · refine lv_iload hx hb dX3_flows_104 (lv_at hl 0 rfl) ?_
          refine lv_aload_n hx hb dX3_flows_106 rfl (lv_at hl 3 rfl) ?_
          refine U_gT C0 hK h hin4 (by omega) 3 (by decide) (by decide +kernel) dX3_flows_107 ?_
          refine lv_icmp_le (tgt := 120) hx hb dX3_flows_110 (by decide) (fun c_110 => ?_) (fun c_110 => ?_)
          · refine lv_iload hx hb dX3_flows_120 (lv_at hl 0 rfl) ?_
            exact G_iret C0 hK h ⟨by unfold simF; have c47 : ¬ simBy S k < 1 := c_47; have c56 : ¬ simBy S k < qP S k 3 := c_56; have e9 : simIts S k = qP S k 2 - qP S k 4 := if_pos c_92; rw [if_neg c47, if_neg c56, if_pos c_67, e9]; exact (if_pos c_110).symm, rfl⟩ (Nat.le_of_ble_eq_true rfl) (Nat.le_of_ble_eq_true rfl) dX3_flows_122
          · refine lv_aload_n hx hb dX3_flows_113 rfl (lv_at hl 3 rfl) ?_
            refine U_gT C0 hK h hin4 (by omega) 3 (by decide) (by decide +kernel) dX3_flows_114 ?_
            refine lv_goto (tgt := 122) hx hb dX3_flows_117 (by decide) ?_
            exact G_iret C0 hK h ⟨by unfold simF; have c47 : ¬ simBy S k < 1 := c_47; have c56 : ¬ simBy S k < qP S k 3 := c_56; have e9 : simIts S k = qP S k 2 - qP S k 4 := if_pos c_92; rw [if_neg c47, if_neg c56, if_pos c_67, e9]; exact (if_neg c_110).symm, rfl⟩ (Nat.le_of_ble_eq_true rfl) (Nat.le_of_ble_eq_true rfl) dX3_flows_122
        · refine lv_iconst (v := 1) hx hb dX3_flows_95 (by decide) ?_
          refine lv_iload hx hb dX3_flows_96 (lv_at hl 1 rfl) ?_
          refine lv_bipush (v := 10) hx hb dX3_flows_98 (by decide) ?_
          refine lv_idiv hx hb dX3_flows_100 (by decide) ?_
          refine lv_iadd hx hb dX3_flows_101 ?_
          refine lv_istore (lv' := [(5, .int (1 + ((((10 * ((qT S (qf S k) 0) - (qT S (qo S k) 0))) + (qT S (qf S k) 3)) - (qT S (qo S k) 3)) / 10))), (4, .int (((10 * ((qT S (qf S k) 0) - (qT S (qo S k) 0))) + (qT S (qf S k) 3)) - (qT S (qo S k) 3))), (3, .ref (za z (ix (2 + (qo S k))))), (2, .ref (za z (ix (2 + (qf S k))))), (0, .ref (za z 55)), (1, .ref (za z (ix (12 + k))))]) hx hb dX3_flows_102 hl (by decide) rfl (fun ls hl => ?_)
          refine lv_iload hx hb dX3_flows_104 (lv_at hl 0 rfl) ?_
          refine lv_aload_n hx hb dX3_flows_106 rfl (lv_at hl 3 rfl) ?_
          refine U_gT C0 hK h hin4 (by omega) 3 (by decide) (by decide +kernel) dX3_flows_107 ?_
          refine lv_icmp_le (tgt := 120) hx hb dX3_flows_110 (by decide) (fun c_110 => ?_) (fun c_110 => ?_)
          · refine lv_iload hx hb dX3_flows_120 (lv_at hl 0 rfl) ?_
            exact G_iret C0 hK h ⟨by unfold simF; have c47 : ¬ simBy S k < 1 := c_47; have c56 : ¬ simBy S k < qP S k 3 := c_56; have e9 : simIts S k = 1 + simBy S k / 10 := if_neg c_92; rw [if_neg c47, if_neg c56, if_pos c_67, e9]; exact (if_pos c_110).symm, rfl⟩ (Nat.le_of_ble_eq_true rfl) (Nat.le_of_ble_eq_true rfl) dX3_flows_122
          · refine lv_aload_n hx hb dX3_flows_113 rfl (lv_at hl 3 rfl) ?_
            refine U_gT C0 hK h hin4 (by omega) 3 (by decide) (by decide +kernel) dX3_flows_114 ?_
            refine lv_goto (tgt := 122) hx hb dX3_flows_117 (by decide) ?_
            exact G_iret C0 hK h ⟨by unfold simF; have c47 : ¬ simBy S k < 1 := c_47; have c56 : ¬ simBy S k < qP S k 3 := c_56; have e9 : simIts S k = 1 + simBy S k / 10 := if_neg c_92; rw [if_neg c47, if_neg c56, if_pos c_67, e9]; exact (if_neg c_110).symm, rfl⟩ (Nat.le_of_ble_eq_true rfl) (Nat.le_of_ble_eq_true rfl) dX3_flows_122
      · refine lv_iconst (v := 0) hx hb dX3_flows_70 (by decide) ?_
        exact G_iret C0 hK h ⟨by unfold simF; have c47 : ¬ simBy S k < 1 := c_47; have c56 : ¬ simBy S k < qP S k 3 := c_56; rw [if_neg c47, if_neg c56, if_neg c_67], rfl⟩ (Nat.le_of_ble_eq_true rfl) (Nat.le_of_ble_eq_true rfl) dX3_flows_71
set_option maxHeartbeats 4000000 in
set_option maxRecDepth 100000 in
theorem c_X3_water {l : Launch} {z : QZ} {ix : Nat → Nat} {t q b n : Nat} {X Y S : QLs} {f : Nat → Nat × (Nat → Int32)} : GI l yX3_water wsX3_water ({ frames := 0, cells := 0, slots := 0, locals := 0 } : Room) z [.ref (za z 55)] 0 0 (UAt z ix t q b n) 0 (b + n) (X, Y, S, f) (fun r u => r = sumT S 3 ∧ u = (X, Y, S, f)) := by
  intro ct sz hn hq9 hat
  refine q_entry (lo := 0) (cc := cX3_water) (maxL := 6) (ret := (some .int)) (by decide) rfl (Nat.le_of_ble_eq_true rfl) hn hq9 hat ?_
  intro p e s m below meth c ls C0 hK hsz h hl
  subst hsz
  obtain ⟨hx, hb, hr, hml, hown, hts, hlocks⟩ := id C0
  obtain ⟨hix, hqt, hqp, hbn⟩ := gw_ix h
  obtain ⟨⟨h10, h14, h56⟩, -⟩ := id hix
  have hin3 : ∀ w ∈ u_ws RX3 TX3 3, w ∈ wsX3_water := by decide +kernel
  have hin4 : ∀ w ∈ u_ws RX4 TX4 8, w ∈ wsX3_water := by decide +kernel
  have hl : lv_has ls 6 [(0, .ref (za z 55))] := hl
  have L13 : ∀ (d i : Nat), i + d = t → ∀ (H : Heap) (locs : List Loc) (ls : Array Slot), GW z (UAt z ix t q b n) 0 (b + n) s.heap ct (X, Y, S, f) H locs → lv_has ls 6 [(4, .int (nI i)), (3, .int (nI t)), (2, .ref (za z (ix 0))), (1, .int (qsum (fun j => qT S j 3) i)), (0, .ref (za z 55))] → W p l e ({ frames := 0, cells := 0, slots := 0, locals := 0 } : Room) s m [.ref (za z 55)].toArray below meth c H locs 0 0 (EI z (UAt z ix t q b n) 0 (b + n) ct s below [.ref (za z 55)] 0 0 (fun r u => r = sumT S 3 ∧ u = (X, Y, S, f))) (F0 m 13 ls []) := by
    intro  d
    induction d with
    | zero =>
      intro i hdi H locs ls h hl
      have hEi : i = t := by omega
      refine lv_iload hx hb dX3_water_13 (lv_at hl 0 rfl) ?_
      refine lv_iload_n hx hb dX3_water_15 rfl (lv_at hl 1 rfl) ?_
      refine lv_icmp_ge (tgt := 39) hx hb dX3_water_16 (by decide) (fun _ => ?_) (fun q9 => absurd (nI_le (by omega) (by omega)) q9)
      refine lv_iload_n hx hb dX3_water_39 rfl (lv_at hl 3 rfl) ?_
      exact G_iret C0 hK h ⟨by rw [hEi]; unfold sumT; rw [hqt], rfl⟩ (Nat.le_of_ble_eq_true rfl) (Nat.le_of_ble_eq_true rfl) dX3_water_40
    | succ d ihL13 =>
      intro i hdi H locs ls h hl
      have hEi : i < t := by omega
      refine lv_iload hx hb dX3_water_13 (lv_at hl 0 rfl) ?_
      refine lv_iload_n hx hb dX3_water_15 rfl (lv_at hl 1 rfl) ?_
      refine lv_icmp_ge (tgt := 39) hx hb dX3_water_16 (by decide) (fun q9 => absurd q9 (nI_ge (by omega) (by omega))) (fun _ => ?_)
      refine lv_aload_n hx hb dX3_water_19 rfl (lv_at hl 2 rfl) ?_
      refine lv_iload hx hb dX3_water_20 (lv_at hl 0 rfl) ?_
      refine U_aT C0 hK h (i := i) rfl (by omega) dX3_water_22 ?_
      refine lv_astore (lv' := [(5, .ref (za z (ix (2 + i)))), (4, .int (nI i)), (3, .int (nI t)), (2, .ref (za z (ix 0))), (1, .int (qsum (fun j => qT S j 3) i)), (0, .ref (za z 55))]) hx hb dX3_water_23 hl (by decide) rfl (fun ls hl => ?_)
      refine lv_iload_n hx hb dX3_water_25 rfl (lv_at hl 4 rfl) ?_
      refine lv_aload hx hb dX3_water_26 (lv_at hl 0 rfl) ?_
      refine U_gT C0 hK h hin4 (by omega) 3 (by decide) (by decide +kernel) dX3_water_28 ?_
      refine lv_iadd hx hb dX3_water_31 ?_
      refine lv_istore_n (lv' := [(1, .int ((qsum (fun j => qT S j 3) i) + (qT S i 3))), (5, .ref (za z (ix (2 + i)))), (4, .int (nI i)), (3, .int (nI t)), (2, .ref (za z (ix 0))), (0, .ref (za z 55))]) hx hb dX3_water_32 rfl hl (by decide) rfl (fun ls hl => ?_)
      refine lv_iinc (v := nI (i + 1)) (lv' := [(4, .int (nI (i + 1))), (1, .int ((qsum (fun j => qT S j 3) i) + (qT S i 3))), (5, .ref (za z (ix (2 + i)))), (3, .int (nI t)), (2, .ref (za z (ix 0))), (0, .ref (za z 55))]) hx hb dX3_water_33 hl (k := 2) rfl (q_inc i 1) (by decide) rfl (fun ls hl => ?_)
      refine lv_goto (tgt := 13) hx hb dX3_water_36 (by decide) ?_
      exact ihL13 (i + 1) (by omega) _ _ _ h (lv_sub hl [0, 3, 4, 1, 5] rfl)
  refine lv_iconst (v := 0) hx hb dX3_water_0 (by decide) ?_
  refine lv_istore_n (lv' := [(1, .int 0), (0, .ref (za z 55))]) hx hb dX3_water_1 rfl hl (by decide) rfl (fun ls hl => ?_)
  refine lv_aload_n hx hb dX3_water_2 rfl (lv_at hl 1 rfl) ?_
  refine U_gO C0 hK h hin3 0 (by decide) (by decide +kernel) rfl dX3_water_3 ?_
  refine lv_astore_n (lv' := [(2, .ref (za z (ix 0))), (1, .int 0), (0, .ref (za z 55))]) hx hb dX3_water_6 rfl hl (by decide) rfl (fun ls hl => ?_)
  refine lv_aload_n hx hb dX3_water_7 rfl (lv_at hl 0 rfl) ?_
  refine U_lT C0 hK h dX3_water_8 ?_
  refine lv_istore_n (lv' := [(3, .int (nI t)), (2, .ref (za z (ix 0))), (1, .int 0), (0, .ref (za z 55))]) hx hb dX3_water_9 rfl hl (by decide) rfl (fun ls hl => ?_)
  refine lv_iconst (v := 0) hx hb dX3_water_10 (by decide) ?_
  refine lv_istore (lv' := [(4, .int 0), (3, .int (nI t)), (2, .ref (za z (ix 0))), (1, .int 0), (0, .ref (za z 55))]) hx hb dX3_water_11 hl (by decide) rfl (fun ls hl => ?_)
  exact L13 (t) 0 (by omega) _ _ _ h (lv_sub hl [0, 1, 2, 3, 4] rfl)
set_option maxHeartbeats 4000000 in
set_option maxRecDepth 100000 in
theorem c_X3_lost {l : Launch} {z : QZ} {ix : Nat → Nat} {t q b n : Nat} {X Y S : QLs} {f : Nat → Nat × (Nat → Int32)} : GI l yX3_lost wsX3_lost ({ frames := 0, cells := 0, slots := 0, locals := 0 } : Room) z [.ref (za z 55)] 0 0 (UAt z ix t q b n) 0 (b + n) (X, Y, S, f) (fun r u => r = sumP S 7 ∧ u = (X, Y, S, f)) := by
  intro ct sz hn hq9 hat
  refine q_entry (lo := 0) (cc := cX3_lost) (maxL := 6) (ret := (some .int)) (by decide) rfl (Nat.le_of_ble_eq_true rfl) hn hq9 hat ?_
  intro p e s m below meth c ls C0 hK hsz h hl
  subst hsz
  obtain ⟨hx, hb, hr, hml, hown, hts, hlocks⟩ := id C0
  obtain ⟨hix, hqt, hqp, hbn⟩ := gw_ix h
  obtain ⟨⟨h10, h14, h56⟩, -⟩ := id hix
  have hin2 : ∀ w ∈ u_ws RX2 TX2 9, w ∈ wsX3_lost := by decide +kernel
  have hin3 : ∀ w ∈ u_ws RX3 TX3 3, w ∈ wsX3_lost := by decide +kernel
  have hl : lv_has ls 6 [(0, .ref (za z 55))] := hl
  have L13 : ∀ (d i : Nat), i + d = q → ∀ (H : Heap) (locs : List Loc) (ls : Array Slot), GW z (UAt z ix t q b n) 0 (b + n) s.heap ct (X, Y, S, f) H locs → lv_has ls 6 [(4, .int (nI i)), (3, .int (nI q)), (2, .ref (za z (ix 1))), (1, .int (qsum (fun j => qP S j 7) i)), (0, .ref (za z 55))] → W p l e ({ frames := 0, cells := 0, slots := 0, locals := 0 } : Room) s m [.ref (za z 55)].toArray below meth c H locs 0 0 (EI z (UAt z ix t q b n) 0 (b + n) ct s below [.ref (za z 55)] 0 0 (fun r u => r = sumP S 7 ∧ u = (X, Y, S, f))) (F0 m 13 ls []) := by
    intro  d
    induction d with
    | zero =>
      intro i hdi H locs ls h hl
      have hEi : i = q := by omega
      refine lv_iload hx hb dX3_lost_13 (lv_at hl 0 rfl) ?_
      refine lv_iload_n hx hb dX3_lost_15 rfl (lv_at hl 1 rfl) ?_
      refine lv_icmp_ge (tgt := 39) hx hb dX3_lost_16 (by decide) (fun _ => ?_) (fun q9 => absurd (nI_le (by omega) (by omega)) q9)
      refine lv_iload_n hx hb dX3_lost_39 rfl (lv_at hl 3 rfl) ?_
      exact G_iret C0 hK h ⟨by rw [hEi]; unfold sumP; rw [hqp], rfl⟩ (Nat.le_of_ble_eq_true rfl) (Nat.le_of_ble_eq_true rfl) dX3_lost_40
    | succ d ihL13 =>
      intro i hdi H locs ls h hl
      have hEi : i < q := by omega
      refine lv_iload hx hb dX3_lost_13 (lv_at hl 0 rfl) ?_
      refine lv_iload_n hx hb dX3_lost_15 rfl (lv_at hl 1 rfl) ?_
      refine lv_icmp_ge (tgt := 39) hx hb dX3_lost_16 (by decide) (fun q9 => absurd q9 (nI_ge (by omega) (by omega))) (fun _ => ?_)
      refine lv_aload_n hx hb dX3_lost_19 rfl (lv_at hl 2 rfl) ?_
      refine lv_iload hx hb dX3_lost_20 (lv_at hl 0 rfl) ?_
      refine U_aP C0 hK h (i := i) rfl (by omega) dX3_lost_22 ?_
      refine lv_astore (lv' := [(5, .ref (za z (ix (12 + i)))), (4, .int (nI i)), (3, .int (nI q)), (2, .ref (za z (ix 1))), (1, .int (qsum (fun j => qP S j 7) i)), (0, .ref (za z 55))]) hx hb dX3_lost_23 hl (by decide) rfl (fun ls hl => ?_)
      refine lv_iload_n hx hb dX3_lost_25 rfl (lv_at hl 4 rfl) ?_
      refine lv_aload hx hb dX3_lost_26 (lv_at hl 0 rfl) ?_
      refine U_gP C0 hK h hin2 (by omega) 8 (by decide) (k9 := 7) rfl (by decide +kernel) dX3_lost_28 ?_
      refine lv_iadd hx hb dX3_lost_31 ?_
      refine lv_istore_n (lv' := [(1, .int ((qsum (fun j => qP S j 7) i) + (qP S i 7))), (5, .ref (za z (ix (12 + i)))), (4, .int (nI i)), (3, .int (nI q)), (2, .ref (za z (ix 1))), (0, .ref (za z 55))]) hx hb dX3_lost_32 rfl hl (by decide) rfl (fun ls hl => ?_)
      refine lv_iinc (v := nI (i + 1)) (lv' := [(4, .int (nI (i + 1))), (1, .int ((qsum (fun j => qP S j 7) i) + (qP S i 7))), (5, .ref (za z (ix (12 + i)))), (3, .int (nI q)), (2, .ref (za z (ix 1))), (0, .ref (za z 55))]) hx hb dX3_lost_33 hl (k := 2) rfl (q_inc i 1) (by decide) rfl (fun ls hl => ?_)
      refine lv_goto (tgt := 13) hx hb dX3_lost_36 (by decide) ?_
      exact ihL13 (i + 1) (by omega) _ _ _ h (lv_sub hl [0, 3, 4, 1, 5] rfl)
  refine lv_iconst (v := 0) hx hb dX3_lost_0 (by decide) ?_
  refine lv_istore_n (lv' := [(1, .int 0), (0, .ref (za z 55))]) hx hb dX3_lost_1 rfl hl (by decide) rfl (fun ls hl => ?_)
  refine lv_aload_n hx hb dX3_lost_2 rfl (lv_at hl 1 rfl) ?_
  refine U_gO C0 hK h hin3 1 (by decide) (by decide +kernel) rfl dX3_lost_3 ?_
  refine lv_astore_n (lv' := [(2, .ref (za z (ix 1))), (1, .int 0), (0, .ref (za z 55))]) hx hb dX3_lost_6 rfl hl (by decide) rfl (fun ls hl => ?_)
  refine lv_aload_n hx hb dX3_lost_7 rfl (lv_at hl 0 rfl) ?_
  refine U_lP C0 hK h dX3_lost_8 ?_
  refine lv_istore_n (lv' := [(3, .int (nI q)), (2, .ref (za z (ix 1))), (1, .int 0), (0, .ref (za z 55))]) hx hb dX3_lost_9 rfl hl (by decide) rfl (fun ls hl => ?_)
  refine lv_iconst (v := 0) hx hb dX3_lost_10 (by decide) ?_
  refine lv_istore (lv' := [(4, .int 0), (3, .int (nI q)), (2, .ref (za z (ix 1))), (1, .int 0), (0, .ref (za z 55))]) hx hb dX3_lost_11 hl (by decide) rfl (fun ls hl => ?_)
  exact L13 (q) 0 (by omega) _ _ _ h (lv_sub hl [0, 1, 2, 3, 4] rfl)
end
section
/-! PART 66: the day of the hand-made land -/
theorem flow_fix0 {z : QZ} {ix : Nat → Nat} {t q b n i : Nat} {X Y S5 S8 Sb : QLs} {f : Nat → Nat × (Nat → Int32)} {H0 H : Heap} {c0 : Nat → va_E} {locs : List Loc} (e8 : S8 = sflow1 i S5) (c : qP S8 i 5 = 0) (e5 : S5 = itN sflowF i Sb) (h : GW z (UAt z ix t q b n) 0 (b + n) H0 c0 (X, Y, S8, f) H locs) : GW z (UAt z ix t q b n) 0 (b + n) H0 c0 (X, Y, itN sflowF (i + 1) Sb, f) H locs := by
  have e7 : S8 = sflowF i S5 := by
    rw [e8] at c ⊢
    exact (if_pos c).symm
  rw [e7, e5] at h
  exact h
theorem flow_fix {z : QZ} {ix : Nat → Nat} {t q b n i : Nat} {X Y S5 S8 S11 S12 Sb : QLs} {f : Nat → Nat × (Nat → Int32)} {H0 H : Heap} {c0 : Nat → va_E} {locs : List Loc} (e8 : S8 = sflow1 i S5) (e11 : S11 = sflow2 i (qf S5 i) (qo S5 i) S8) (c : ¬ qP S8 i 5 = 0) (e6 : S12 = sflow3 i S11) (e5 : S5 = itN sflowF i Sb) (h : GW z (UAt z ix t q b n) 0 (b + n) H0 c0 (X, Y, S12, f) H locs) : GW z (UAt z ix t q b n) 0 (b + n) H0 c0 (X, Y, itN sflowF (i + 1) Sb, f) H locs := by
  have e7 : S12 = sflowF i S5 := by
    rw [e6, e11, e8]
    rw [e8] at c
    exact (if_neg c).symm
  rw [e7, e5] at h
  exact h
set_option maxHeartbeats 4000000 in
set_option maxRecDepth 100000 in
theorem c_X3_pass {l : Launch} {z : QZ} {ix : Nat → Nat} {t q b n : Nat} {X Y S : QLs} {f : Nat → Nat × (Nat → Int32)} (hk : LOk S) (hw : ∀ k, k < q → ∀ S2, S2 = itN sflowF k (itN sfeedF t S) → ¬ simF S2 k = 0 → ¬ qT S2 (qf S2 k) 3 = 0) : GI l yX3_pass wsX3_pass ({ frames := 1, cells := 0, slots := 0, locals := 25 } : Room) z [.ref (za z 55)] 0 0 (UAt z ix t q b n) 0 (b + n) (X, Y, S, f) (fun r u => u = (X, Y, spass t q S, f)) := by
  intro ct sz hn hq9 hat
  refine q_entry (lo := 0) (cc := cX3_pass) (maxL := 8) (ret := (some .int)) (by decide) rfl (Nat.le_of_ble_eq_true rfl) hn hq9 hat ?_
  intro p e s m below meth c ls C0 hK hsz h hl
  subst hsz
  obtain ⟨hx, hb, hr, hml, hown, hts, hlocks⟩ := id C0
  obtain ⟨hix, hqt, hqp, hbn⟩ := gw_ix h
  obtain ⟨⟨h10, h14, h56⟩, -⟩ := id hix
  have hin2 : ∀ w ∈ u_ws RX2 TX2 9, w ∈ wsX3_pass := by decide +kernel
  have hin3 : ∀ w ∈ u_ws RX3 TX3 3, w ∈ wsX3_pass := by decide +kernel
  have hin4 : ∀ w ∈ u_ws RX4 TX4 8, w ∈ wsX3_pass := by decide +kernel
  have hl : lv_has ls 8 [(0, .ref (za z 55))] := hl
  have L270 : ∀ (Sb : QLs) (hq9 : Sb = itN sflowF q (itN sfeedF t S)) (d i : Nat), i + d = t → ∀ (H : Heap) (locs : List Loc) (ls : Array Slot), GW z (UAt z ix t q b n) 0 (b + n) s.heap ct (X, Y, (itN sdrinkF i Sb), f) H locs → lv_has ls 8 [(4, .int (nI i)), (3, .int (nI t)), (2, .ref (za z (ix 0))), (1, .int (sdr Sb i)), (0, .ref (za z 55))] → W p l e ({ frames := 1, cells := 0, slots := 0, locals := 25 } : Room) s m [.ref (za z 55)].toArray below meth c H locs 0 0 (EI z (UAt z ix t q b n) 0 (b + n) ct s below [.ref (za z 55)] 0 0 (fun r u => u = (X, Y, spass t q S, f))) (F0 m 270 ls []) := by
    intro Sb hq9 d
    induction d with
    | zero =>
      intro i hdi H locs ls h hl
      have hEi : i = t := by omega
      obtain ⟨S1, eS1⟩ : ∃ z9, z9 = itN sdrinkF i Sb := ⟨_, rfl⟩
      rw [← eS1] at h
      have hs9 : Shp Sb S1 := by rw [eS1]; exact shp_it (f := sdrinkF) (fun _ _ => shp_sdrink) Sb i
      refine lv_iload hx hb dX3_pass_270 (lv_at hl 0 rfl) ?_
      refine lv_iload_n hx hb dX3_pass_272 rfl (lv_at hl 1 rfl) ?_
      refine lv_icmp_ge (tgt := 379) hx hb dX3_pass_273 (by decide) (fun _ => ?_) (fun q9 => absurd (nI_le (by omega) (by omega)) q9)
      refine lv_aload_n hx hb dX3_pass_379 rfl (lv_at hl 4 rfl) ?_
      refine lv_dup hx hb dX3_pass_380 rfl ?_
      refine U_gO C0 hK h hin3 2 (by decide) (by decide +kernel) rfl dX3_pass_381 ?_
      refine lv_iconst (v := 1) hx hb dX3_pass_384 (by decide) ?_
      refine lv_iadd hx hb dX3_pass_385 ?_
      refine U_pD C0 hK h hin3 (by decide +kernel) dX3_pass_386 (fun H locs S2 eS2 h => ?_)
      refine lv_iload_n hx hb dX3_pass_389 rfl (lv_at hl 3 rfl) ?_
      exact G_iret C0 hK h (by subst eS2; rw [eS1, hEi, hq9]; rfl) (Nat.le_of_ble_eq_true rfl) (Nat.le_of_ble_eq_true rfl) dX3_pass_390
    | succ d ihL270 =>
      intro i hdi H locs ls h hl
      have hEi : i < t := by omega
      obtain ⟨S3, eS3⟩ : ∃ z9, z9 = itN sdrinkF i Sb := ⟨_, rfl⟩
      rw [← eS3] at h
      have hs9 : Shp Sb S3 := by rw [eS3]; exact shp_it (f := sdrinkF) (fun _ _ => shp_sdrink) Sb i
      refine lv_iload hx hb dX3_pass_270 (lv_at hl 0 rfl) ?_
      refine lv_iload_n hx hb dX3_pass_272 rfl (lv_at hl 1 rfl) ?_
      refine lv_icmp_ge (tgt := 379) hx hb dX3_pass_273 (by decide) (fun q9 => absurd q9 (nI_ge (by omega) (by omega))) (fun _ => ?_)
      refine lv_aload_n hx hb dX3_pass_276 rfl (lv_at hl 2 rfl) ?_
      refine lv_iload hx hb dX3_pass_277 (lv_at hl 0 rfl) ?_
      refine U_aT C0 hK h (i := i) rfl (by omega) dX3_pass_279 ?_
      refine lv_astore (lv' := [(5, .ref (za z (ix (2 + i)))), (4, .int (nI i)), (3, .int (nI t)), (2, .ref (za z (ix 0))), (1, .int (sdr Sb i)), (0, .ref (za z 55))]) hx hb dX3_pass_280 hl (by decide) rfl (fun ls hl => ?_)
      refine lv_aload hx hb dX3_pass_282 (lv_at hl 0 rfl) ?_
      refine lv_aload hx hb dX3_pass_284 (lv_at hl 0 rfl) ?_
      refine U_gT C0 hK h hin4 (by omega) 4 (by decide) (by decide +kernel) dX3_pass_286 ?_
      refine lv_bipush (v := 49) hx hb dX3_pass_289 (by decide) ?_
      refine lv_icmp_le (tgt := 304) hx hb dX3_pass_291 (by decide) (fun c_291 => ?_) (fun c_291 => ?_)
      · refine lv_aload hx hb dX3_pass_304 (lv_at hl 0 rfl) ?_
        refine U_gT C0 hK h hin4 (by omega) 2 (by decide) (by decide +kernel) dX3_pass_306 ?_
        refine U_pT C0 hK h hin4 (by omega) 5 (by decide) (by decide +kernel) dX3_pass_309 (fun H locs S4 eS4 h => ?_)
        refine lv_aload hx hb dX3_pass_312 (lv_at hl 0 rfl) ?_
        refine U_gT C0 hK h hin4 (by omega) 5 (by decide) (by decide +kernel) dX3_pass_314 ?_
        refine lv_aload hx hb dX3_pass_317 (lv_at hl 0 rfl) ?_
        refine U_gT C0 hK h hin4 (by omega) 3 (by decide) (by decide +kernel) dX3_pass_319 ?_
        refine lv_icmp_le (tgt := 335) hx hb dX3_pass_322 (by decide) (fun c_322 => ?_) (fun c_322 => ?_)
        · refine lv_aload hx hb dX3_pass_335 (lv_at hl 0 rfl) ?_
          refine lv_dup hx hb dX3_pass_337 rfl ?_
          refine U_gT C0 hK h hin4 (by omega) 3 (by decide) (by decide +kernel) dX3_pass_338 ?_
          refine lv_aload hx hb dX3_pass_341 (lv_at hl 0 rfl) ?_
          refine U_gT C0 hK h hin4 (by omega) 5 (by decide) (by decide +kernel) dX3_pass_343 ?_
          refine lv_isub hx hb dX3_pass_346 ?_
          refine U_pT C0 hK h hin4 (by omega) 3 (by decide) (by decide +kernel) dX3_pass_347 (fun H locs S5 eS5 h => ?_)
          refine lv_aload hx hb dX3_pass_350 (lv_at hl 0 rfl) ?_
          refine lv_dup hx hb dX3_pass_352 rfl ?_
          refine U_gT C0 hK h hin4 (by omega) 6 (by decide) (by decide +kernel) dX3_pass_353 ?_
          refine lv_aload hx hb dX3_pass_356 (lv_at hl 0 rfl) ?_
          refine U_gT C0 hK h hin4 (by omega) 5 (by decide) (by decide +kernel) dX3_pass_358 ?_
          refine lv_iadd hx hb dX3_pass_361 ?_
          refine U_pT C0 hK h hin4 (by omega) 6 (by decide) (by decide +kernel) dX3_pass_362 (fun H locs S6 eS6 h => ?_)
          refine lv_iload_n hx hb dX3_pass_365 rfl (lv_at hl 4 rfl) ?_
          refine lv_aload hx hb dX3_pass_366 (lv_at hl 0 rfl) ?_
          refine U_gT C0 hK h hin4 (by omega) 5 (by decide) (by decide +kernel) dX3_pass_368 ?_
          refine lv_iadd hx hb dX3_pass_371 ?_
          refine lv_istore_n (lv' := [(1, .int ((sdr Sb i) + (qT S6 i 5))), (5, .ref (za z (ix (2 + i)))), (4, .int (nI i)), (3, .int (nI t)), (2, .ref (za z (ix 0))), (0, .ref (za z 55))]) hx hb dX3_pass_372 rfl hl (by decide) rfl (fun ls hl => ?_)
          refine lv_iinc (v := nI (i + 1)) (lv' := [(4, .int (nI (i + 1))), (1, .int ((sdr Sb i) + (qT S6 i 5))), (5, .ref (za z (ix (2 + i)))), (3, .int (nI t)), (2, .ref (za z (ix 0))), (0, .ref (za z 55))]) hx hb dX3_pass_373 hl (k := 2) rfl (q_inc i 1) (by decide) rfl (fun ls hl => ?_)
          refine lv_goto (tgt := 270) hx hb dX3_pass_376 (by decide) ?_
          have e8 : S6 = sdrinkF i S3 := by subst eS6 eS5 eS4; unfold sdrinkF; simp only []; rw [if_pos c_291]; rw [if_pos c_322]
          have e9 : S6 = itN sdrinkF (i + 1) Sb := by rw [e8, eS3]; rfl
          have e7 : sdr Sb i + qT S6 i 5 = sdr Sb (i + 1) := by rw [e9]; rfl
          rw [e7] at hl
          rw [e9] at h
          exact ihL270 (i + 1) (by omega) _ _ _ h (lv_sub hl [0, 3, 4, 1, 5] rfl)
        · refine lv_aload hx hb dX3_pass_325 (lv_at hl 0 rfl) ?_
          refine lv_aload hx hb dX3_pass_327 (lv_at hl 0 rfl) ?_
          refine U_gT C0 hK h hin4 (by omega) 3 (by decide) (by decide +kernel) dX3_pass_329 ?_
          refine U_pT C0 hK h hin4 (by omega) 5 (by decide) (by decide +kernel) dX3_pass_332 (fun H locs S7 eS7 h => ?_)
          refine lv_aload hx hb dX3_pass_335 (lv_at hl 0 rfl) ?_
          refine lv_dup hx hb dX3_pass_337 rfl ?_
          refine U_gT C0 hK h hin4 (by omega) 3 (by decide) (by decide +kernel) dX3_pass_338 ?_
          refine lv_aload hx hb dX3_pass_341 (lv_at hl 0 rfl) ?_
          refine U_gT C0 hK h hin4 (by omega) 5 (by decide) (by decide +kernel) dX3_pass_343 ?_
          refine lv_isub hx hb dX3_pass_346 ?_
          refine U_pT C0 hK h hin4 (by omega) 3 (by decide) (by decide +kernel) dX3_pass_347 (fun H locs S8 eS8 h => ?_)
          refine lv_aload hx hb dX3_pass_350 (lv_at hl 0 rfl) ?_
          refine lv_dup hx hb dX3_pass_352 rfl ?_
          refine U_gT C0 hK h hin4 (by omega) 6 (by decide) (by decide +kernel) dX3_pass_353 ?_
          refine lv_aload hx hb dX3_pass_356 (lv_at hl 0 rfl) ?_
          refine U_gT C0 hK h hin4 (by omega) 5 (by decide) (by decide +kernel) dX3_pass_358 ?_
          refine lv_iadd hx hb dX3_pass_361 ?_
          refine U_pT C0 hK h hin4 (by omega) 6 (by decide) (by decide +kernel) dX3_pass_362 (fun H locs S9 eS9 h => ?_)
          refine lv_iload_n hx hb dX3_pass_365 rfl (lv_at hl 4 rfl) ?_
          refine lv_aload hx hb dX3_pass_366 (lv_at hl 0 rfl) ?_
          refine U_gT C0 hK h hin4 (by omega) 5 (by decide) (by decide +kernel) dX3_pass_368 ?_
          refine lv_iadd hx hb dX3_pass_371 ?_
          refine lv_istore_n (lv' := [(1, .int ((sdr Sb i) + (qT S9 i 5))), (5, .ref (za z (ix (2 + i)))), (4, .int (nI i)), (3, .int (nI t)), (2, .ref (za z (ix 0))), (0, .ref (za z 55))]) hx hb dX3_pass_372 rfl hl (by decide) rfl (fun ls hl => ?_)
          refine lv_iinc (v := nI (i + 1)) (lv' := [(4, .int (nI (i + 1))), (1, .int ((sdr Sb i) + (qT S9 i 5))), (5, .ref (za z (ix (2 + i)))), (3, .int (nI t)), (2, .ref (za z (ix 0))), (0, .ref (za z 55))]) hx hb dX3_pass_373 hl (k := 2) rfl (q_inc i 1) (by decide) rfl (fun ls hl => ?_)
          refine lv_goto (tgt := 270) hx hb dX3_pass_376 (by decide) ?_
          have e8 : S9 = sdrinkF i S3 := by subst eS9 eS8 eS7 eS4; unfold sdrinkF; simp only []; rw [if_pos c_291]; rw [if_neg c_322]
          have e9 : S9 = itN sdrinkF (i + 1) Sb := by rw [e8, eS3]; rfl
          have e7 : sdr Sb i + qT S9 i 5 = sdr Sb (i + 1) := by rw [e9]; rfl
          rw [e7] at hl
          rw [e9] at h
          exact ihL270 (i + 1) (by omega) _ _ _ h (lv_sub hl [0, 3, 4, 1, 5] rfl)
      · refine lv_aload hx hb dX3_pass_294 (lv_at hl 0 rfl) ?_
        refine U_gT C0 hK h hin4 (by omega) 2 (by decide) (by decide +kernel) dX3_pass_296 ?_
        refine lv_iconst (v := 2) hx hb dX3_pass_299 (by decide) ?_
        refine lv_idiv hx hb dX3_pass_300 (by decide) ?_
        refine lv_goto (tgt := 309) hx hb dX3_pass_301 (by decide) ?_
        refine U_pT C0 hK h hin4 (by omega) 5 (by decide) (by decide +kernel) dX3_pass_309 (fun H locs S10 eS10 h => ?_)
        refine lv_aload hx hb dX3_pass_312 (lv_at hl 0 rfl) ?_
        refine U_gT C0 hK h hin4 (by omega) 5 (by decide) (by decide +kernel) dX3_pass_314 ?_
        refine lv_aload hx hb dX3_pass_317 (lv_at hl 0 rfl) ?_
        refine U_gT C0 hK h hin4 (by omega) 3 (by decide) (by decide +kernel) dX3_pass_319 ?_
        refine lv_icmp_le (tgt := 335) hx hb dX3_pass_322 (by decide) (fun c_322 => ?_) (fun c_322 => ?_)
        · refine lv_aload hx hb dX3_pass_335 (lv_at hl 0 rfl) ?_
          refine lv_dup hx hb dX3_pass_337 rfl ?_
          refine U_gT C0 hK h hin4 (by omega) 3 (by decide) (by decide +kernel) dX3_pass_338 ?_
          refine lv_aload hx hb dX3_pass_341 (lv_at hl 0 rfl) ?_
          refine U_gT C0 hK h hin4 (by omega) 5 (by decide) (by decide +kernel) dX3_pass_343 ?_
          refine lv_isub hx hb dX3_pass_346 ?_
          refine U_pT C0 hK h hin4 (by omega) 3 (by decide) (by decide +kernel) dX3_pass_347 (fun H locs S11 eS11 h => ?_)
          refine lv_aload hx hb dX3_pass_350 (lv_at hl 0 rfl) ?_
          refine lv_dup hx hb dX3_pass_352 rfl ?_
          refine U_gT C0 hK h hin4 (by omega) 6 (by decide) (by decide +kernel) dX3_pass_353 ?_
          refine lv_aload hx hb dX3_pass_356 (lv_at hl 0 rfl) ?_
          refine U_gT C0 hK h hin4 (by omega) 5 (by decide) (by decide +kernel) dX3_pass_358 ?_
          refine lv_iadd hx hb dX3_pass_361 ?_
          refine U_pT C0 hK h hin4 (by omega) 6 (by decide) (by decide +kernel) dX3_pass_362 (fun H locs S12 eS12 h => ?_)
          refine lv_iload_n hx hb dX3_pass_365 rfl (lv_at hl 4 rfl) ?_
          refine lv_aload hx hb dX3_pass_366 (lv_at hl 0 rfl) ?_
          refine U_gT C0 hK h hin4 (by omega) 5 (by decide) (by decide +kernel) dX3_pass_368 ?_
          refine lv_iadd hx hb dX3_pass_371 ?_
          refine lv_istore_n (lv' := [(1, .int ((sdr Sb i) + (qT S12 i 5))), (5, .ref (za z (ix (2 + i)))), (4, .int (nI i)), (3, .int (nI t)), (2, .ref (za z (ix 0))), (0, .ref (za z 55))]) hx hb dX3_pass_372 rfl hl (by decide) rfl (fun ls hl => ?_)
          refine lv_iinc (v := nI (i + 1)) (lv' := [(4, .int (nI (i + 1))), (1, .int ((sdr Sb i) + (qT S12 i 5))), (5, .ref (za z (ix (2 + i)))), (3, .int (nI t)), (2, .ref (za z (ix 0))), (0, .ref (za z 55))]) hx hb dX3_pass_373 hl (k := 2) rfl (q_inc i 1) (by decide) rfl (fun ls hl => ?_)
          refine lv_goto (tgt := 270) hx hb dX3_pass_376 (by decide) ?_
          have e8 : S12 = sdrinkF i S3 := by subst eS12 eS11 eS10; unfold sdrinkF; simp only []; rw [if_neg c_291]; rw [if_pos c_322]
          have e9 : S12 = itN sdrinkF (i + 1) Sb := by rw [e8, eS3]; rfl
          have e7 : sdr Sb i + qT S12 i 5 = sdr Sb (i + 1) := by rw [e9]; rfl
          rw [e7] at hl
          rw [e9] at h
          exact ihL270 (i + 1) (by omega) _ _ _ h (lv_sub hl [0, 3, 4, 1, 5] rfl)
        · refine lv_aload hx hb dX3_pass_325 (lv_at hl 0 rfl) ?_
          refine lv_aload hx hb dX3_pass_327 (lv_at hl 0 rfl) ?_
          refine U_gT C0 hK h hin4 (by omega) 3 (by decide) (by decide +kernel) dX3_pass_329 ?_
          refine U_pT C0 hK h hin4 (by omega) 5 (by decide) (by decide +kernel) dX3_pass_332 (fun H locs S13 eS13 h => ?_)
          refine lv_aload hx hb dX3_pass_335 (lv_at hl 0 rfl) ?_
          refine lv_dup hx hb dX3_pass_337 rfl ?_
          refine U_gT C0 hK h hin4 (by omega) 3 (by decide) (by decide +kernel) dX3_pass_338 ?_
          refine lv_aload hx hb dX3_pass_341 (lv_at hl 0 rfl) ?_
          refine U_gT C0 hK h hin4 (by omega) 5 (by decide) (by decide +kernel) dX3_pass_343 ?_
          refine lv_isub hx hb dX3_pass_346 ?_
          refine U_pT C0 hK h hin4 (by omega) 3 (by decide) (by decide +kernel) dX3_pass_347 (fun H locs S14 eS14 h => ?_)
          refine lv_aload hx hb dX3_pass_350 (lv_at hl 0 rfl) ?_
          refine lv_dup hx hb dX3_pass_352 rfl ?_
          refine U_gT C0 hK h hin4 (by omega) 6 (by decide) (by decide +kernel) dX3_pass_353 ?_
          refine lv_aload hx hb dX3_pass_356 (lv_at hl 0 rfl) ?_
          refine U_gT C0 hK h hin4 (by omega) 5 (by decide) (by decide +kernel) dX3_pass_358 ?_
          refine lv_iadd hx hb dX3_pass_361 ?_
          refine U_pT C0 hK h hin4 (by omega) 6 (by decide) (by decide +kernel) dX3_pass_362 (fun H locs S15 eS15 h => ?_)
          refine lv_iload_n hx hb dX3_pass_365 rfl (lv_at hl 4 rfl) ?_
          refine lv_aload hx hb dX3_pass_366 (lv_at hl 0 rfl) ?_
          refine U_gT C0 hK h hin4 (by omega) 5 (by decide) (by decide +kernel) dX3_pass_368 ?_
          refine lv_iadd hx hb dX3_pass_371 ?_
          refine lv_istore_n (lv' := [(1, .int ((sdr Sb i) + (qT S15 i 5))), (5, .ref (za z (ix (2 + i)))), (4, .int (nI i)), (3, .int (nI t)), (2, .ref (za z (ix 0))), (0, .ref (za z 55))]) hx hb dX3_pass_372 rfl hl (by decide) rfl (fun ls hl => ?_)
          refine lv_iinc (v := nI (i + 1)) (lv' := [(4, .int (nI (i + 1))), (1, .int ((sdr Sb i) + (qT S15 i 5))), (5, .ref (za z (ix (2 + i)))), (3, .int (nI t)), (2, .ref (za z (ix 0))), (0, .ref (za z 55))]) hx hb dX3_pass_373 hl (k := 2) rfl (q_inc i 1) (by decide) rfl (fun ls hl => ?_)
          refine lv_goto (tgt := 270) hx hb dX3_pass_376 (by decide) ?_
          have e8 : S15 = sdrinkF i S3 := by subst eS15 eS14 eS13 eS10; unfold sdrinkF; simp only []; rw [if_neg c_291]; rw [if_neg c_322]
          have e9 : S15 = itN sdrinkF (i + 1) Sb := by rw [e8, eS3]; rfl
          have e7 : sdr Sb i + qT S15 i 5 = sdr Sb (i + 1) := by rw [e9]; rfl
          rw [e7] at hl
          rw [e9] at h
          exact ihL270 (i + 1) (by omega) _ _ _ h (lv_sub hl [0, 3, 4, 1, 5] rfl)
  have L59 : ∀ (Sb : QLs) (hkb : LOk Sb) (hqb : qt Sb = t ∧ qp Sb = q) (hS9 : Sb = itN sfeedF t S) (d i : Nat), i + d = q → ∀ (H : Heap) (locs : List Loc) (ls : Array Slot), GW z (UAt z ix t q b n) 0 (b + n) s.heap ct (X, Y, (itN sflowF i Sb), f) H locs → lv_has ls 8 [(4, .int (nI i)), (3, .int (nI q)), (2, .ref (za z (ix 1))), (1, .int 0), (0, .ref (za z 55))] → W p l e ({ frames := 1, cells := 0, slots := 0, locals := 25 } : Room) s m [.ref (za z 55)].toArray below meth c H locs 0 0 (EI z (UAt z ix t q b n) 0 (b + n) ct s below [.ref (za z 55)] 0 0 (fun r u => u = (X, Y, spass t q S, f))) (F0 m 59 ls []) := by
    intro Sb hkb hqb hS9 d
    induction d with
    | zero =>
      intro i hdi H locs ls h hl
      have hEi : i = q := by omega
      obtain ⟨S16, eS16⟩ : ∃ z9, z9 = itN sflowF i Sb := ⟨_, rfl⟩
      rw [← eS16] at h
      have hs9 : Shp Sb S16 := by rw [eS16]; exact shp_it (f := sflowF) (fun _ _ => shp_sflow) Sb i
      have hk9 := hs9.ok hkb
      have hqt9 : qt S16 = t := hs9.1.trans hqb.1
      have hqp9 : qp S16 = q := hs9.2.1.trans hqb.2
      refine lv_iload hx hb dX3_pass_59 (lv_at hl 0 rfl) ?_
      refine lv_iload_n hx hb dX3_pass_61 rfl (lv_at hl 1 rfl) ?_
      refine lv_icmp_ge (tgt := 259) hx hb dX3_pass_62 (by decide) (fun _ => ?_) (fun q9 => absurd (nI_le (by omega) (by omega)) q9)
      refine lv_aload_n hx hb dX3_pass_259 rfl (lv_at hl 4 rfl) ?_
      refine U_gO C0 hK h hin3 0 (by decide) (by decide +kernel) rfl dX3_pass_260 ?_
      refine lv_astore_n (lv' := [(2, .ref (za z (ix 0))), (4, .int (nI i)), (3, .int (nI q)), (1, .int 0), (0, .ref (za z 55))]) hx hb dX3_pass_263 rfl hl (by decide) rfl (fun ls hl => ?_)
      refine lv_aload_n hx hb dX3_pass_264 rfl (lv_at hl 0 rfl) ?_
      refine U_lT C0 hK h dX3_pass_265 ?_
      refine lv_istore_n (lv' := [(3, .int (nI t)), (2, .ref (za z (ix 0))), (4, .int (nI i)), (1, .int 0), (0, .ref (za z 55))]) hx hb dX3_pass_266 rfl hl (by decide) rfl (fun ls hl => ?_)
      refine lv_iconst (v := 0) hx hb dX3_pass_267 (by decide) ?_
      refine lv_istore (lv' := [(4, .int 0), (3, .int (nI t)), (2, .ref (za z (ix 0))), (1, .int 0), (0, .ref (za z 55))]) hx hb dX3_pass_268 hl (by decide) rfl (fun ls hl => ?_)
      exact L270 S16 (by rw [eS16, hEi, hS9]) (t) 0 (by omega) _ _ _ h (lv_sub hl [0, 1, 2, 3, 4] rfl)
    | succ d ihL59 =>
      intro i hdi H locs ls h hl
      have hEi : i < q := by omega
      obtain ⟨S17, eS17⟩ : ∃ z9, z9 = itN sflowF i Sb := ⟨_, rfl⟩
      rw [← eS17] at h
      have hs9 : Shp Sb S17 := by rw [eS17]; exact shp_it (f := sflowF) (fun _ _ => shp_sflow) Sb i
      have hk9 := hs9.ok hkb
      have hqt9 : qt S17 = t := hs9.1.trans hqb.1
      have hqp9 : qp S17 = q := hs9.2.1.trans hqb.2
      refine lv_iload hx hb dX3_pass_59 (lv_at hl 0 rfl) ?_
      refine lv_iload_n hx hb dX3_pass_61 rfl (lv_at hl 1 rfl) ?_
      refine lv_icmp_ge (tgt := 259) hx hb dX3_pass_62 (by decide) (fun q9 => absurd q9 (nI_ge (by omega) (by omega))) (fun _ => ?_)
      refine lv_aload_n hx hb dX3_pass_65 rfl (lv_at hl 2 rfl) ?_
      refine lv_iload hx hb dX3_pass_66 (lv_at hl 0 rfl) ?_
      refine U_aP C0 hK h (i := i) rfl (by omega) dX3_pass_68 ?_
      refine lv_astore (lv' := [(5, .ref (za z (ix (12 + i)))), (4, .int (nI i)), (3, .int (nI q)), (2, .ref (za z (ix 1))), (1, .int 0), (0, .ref (za z 55))]) hx hb dX3_pass_69 hl (by decide) rfl (fun ls hl => ?_)
      obtain ⟨hk3, hk4, hk5, hF0, hF1⟩ := hk9.2.2 i (by omega)
      rw [hqt9] at hk3 hk4
      refine lv_aload_n hx hb dX3_pass_71 rfl (lv_at hl 5 rfl) ?_
      refine U_gO C0 hK h hin3 0 (by decide) (by decide +kernel) rfl dX3_pass_72 ?_
      refine lv_aload hx hb dX3_pass_75 (lv_at hl 0 rfl) ?_
      refine U_gP C0 hK h hin2 (by omega) 0 (by decide) (k9 := 0) rfl (by decide +kernel) dX3_pass_77 ?_
      refine U_aT C0 hK h (i := qf S17 i) hF0 hk3 dX3_pass_80 ?_
      refine lv_astore (lv' := [(6, .ref (za z (ix (2 + (qf S17 i))))), (5, .ref (za z (ix (12 + i)))), (4, .int (nI i)), (3, .int (nI q)), (2, .ref (za z (ix 1))), (1, .int 0), (0, .ref (za z 55))]) hx hb dX3_pass_81 hl (by decide) rfl (fun ls hl => ?_)
      refine lv_aload hx hb dX3_pass_83 (lv_at hl 1 rfl) ?_
      refine lv_aload_n hx hb dX3_pass_85 rfl (lv_at hl 6 rfl) ?_
      refine lv_aload hx hb dX3_pass_86 (lv_at hl 1 rfl) ?_
      refine S_callVi C0 hK h (c_X3_flows hk9 i (by omega)) (cwV 1 hts gX3_pass_X3_flows rfl rfl rfl (by decide +kernel) ⟨Nat.le_of_ble_eq_true rfl, Nat.le_of_ble_eq_true rfl⟩) (k := 55) (ci := 3) (by omega) (fun ct hA => hA.2.1.2.2.2.1) rfl rfl rfl hl.1 (rest := [.ref (za z (ix (12 + i)))]) rfl (Nat.le_of_ble_eq_true rfl) ⟨Nat.le_of_ble_eq_true rfl, Nat.le_of_ble_eq_true rfl⟩ dX3_pass_88 (fun r u H locs hp h => ?_)
      obtain ⟨rfl, hu9⟩ := hp
      rw [hu9] at h
      refine U_pP C0 hK h hin2 (by omega) 6 (by decide) (k9 := 5) rfl (by decide +kernel) dX3_pass_91 (fun H locs S18 eS18 h => ?_)
      refine lv_aload hx hb dX3_pass_94 (lv_at hl 1 rfl) ?_
      refine lv_aload hx hb dX3_pass_96 (lv_at hl 1 rfl) ?_
      refine U_gP C0 hK h hin2 (by omega) 5 (by decide) (k9 := 9) rfl (by decide +kernel) dX3_pass_98 ?_
      refine lv_aload hx hb dX3_pass_101 (lv_at hl 1 rfl) ?_
      refine U_gP C0 hK h hin2 (by omega) 6 (by decide) (k9 := 5) rfl (by decide +kernel) dX3_pass_103 ?_
      refine lv_icmp_ge (tgt := 117) hx hb dX3_pass_106 (by decide) (fun c_106 => ?_) (fun c_106 => ?_)
      · refine lv_aload hx hb dX3_pass_117 (lv_at hl 1 rfl) ?_
        refine U_gP C0 hK h hin2 (by omega) 6 (by decide) (k9 := 5) rfl (by decide +kernel) dX3_pass_119 ?_
        refine U_pP C0 hK h hin2 (by omega) 7 (by decide) (k9 := 6) rfl (by decide +kernel) dX3_pass_122 (fun H locs S19 eS19 h => ?_)
        refine lv_aload hx hb dX3_pass_125 (lv_at hl 1 rfl) ?_
        refine lv_dup hx hb dX3_pass_127 rfl ?_
        refine U_gP C0 hK h hin2 (by omega) 8 (by decide) (k9 := 7) rfl (by decide +kernel) dX3_pass_128 ?_
        refine lv_aload hx hb dX3_pass_131 (lv_at hl 1 rfl) ?_
        refine U_gP C0 hK h hin2 (by omega) 7 (by decide) (k9 := 6) rfl (by decide +kernel) dX3_pass_133 ?_
        refine lv_iadd hx hb dX3_pass_136 ?_
        refine U_pP C0 hK h hin2 (by omega) 8 (by decide) (k9 := 7) rfl (by decide +kernel) dX3_pass_137 (fun H locs S20 eS20 h => ?_)
        have e8 : S20 = sflow1 i S17 := by subst eS20 eS19 eS18; unfold sflow1; simp only []; rw [if_pos c_106]
        refine lv_aload hx hb dX3_pass_140 (lv_at hl 1 rfl) ?_
        refine U_gP C0 hK h hin2 (by omega) 6 (by decide) (k9 := 5) rfl (by decide +kernel) dX3_pass_142 ?_
        refine lv_if_ne (tgt := 151) hx hb dX3_pass_145 (by decide) (fun c_145 => ?_) (fun c_145 => ?_)
        · have hne9 : ¬ qT S20 (qf S17 i) 3 = 0 := by intro q9; rw [e8] at q9 c_145; exact hw i (by omega) S17 (by rw [eS17, hS9]) (fun q8 => c_145 (by simp [sflow1, qP_sP, upd, q8])) q9
          refine lv_aload hx hb dX3_pass_151 (lv_at hl 0 rfl) ?_
          refine U_gT C0 hK h hin4 hk3 4 (by decide) (by decide +kernel) dX3_pass_153 ?_
          refine lv_aload hx hb dX3_pass_156 (lv_at hl 1 rfl) ?_
          refine U_gP C0 hK h hin2 (by omega) 6 (by decide) (k9 := 5) rfl (by decide +kernel) dX3_pass_158 ?_
          refine lv_imul hx hb dX3_pass_161 ?_
          refine lv_aload hx hb dX3_pass_162 (lv_at hl 0 rfl) ?_
          refine U_gT C0 hK h hin4 hk3 3 (by decide) (by decide +kernel) dX3_pass_164 ?_
          refine lv_idiv hx hb dX3_pass_167 hne9 ?_
          refine lv_istore (lv' := [(7, .int (((qT S20 (qf S17 i) 4) * (qP S20 i 5)) / (qT S20 (qf S17 i) 3))), (6, .ref (za z (ix (2 + (qf S17 i))))), (5, .ref (za z (ix (12 + i)))), (4, .int (nI i)), (3, .int (nI q)), (2, .ref (za z (ix 1))), (1, .int 0), (0, .ref (za z 55))]) hx hb dX3_pass_168 hl (by decide) rfl (fun ls hl => ?_)
          refine lv_aload hx hb dX3_pass_170 (lv_at hl 1 rfl) ?_
          refine lv_dup hx hb dX3_pass_172 rfl ?_
          refine U_gT C0 hK h hin4 hk3 3 (by decide) (by decide +kernel) dX3_pass_173 ?_
          refine lv_aload hx hb dX3_pass_176 (lv_at hl 2 rfl) ?_
          refine U_gP C0 hK h hin2 (by omega) 6 (by decide) (k9 := 5) rfl (by decide +kernel) dX3_pass_178 ?_
          refine lv_isub hx hb dX3_pass_181 ?_
          refine U_pT C0 hK h hin4 hk3 3 (by decide) (by decide +kernel) dX3_pass_182 (fun H locs S21 eS21 h => ?_)
          refine lv_aload hx hb dX3_pass_185 (lv_at hl 1 rfl) ?_
          refine lv_dup hx hb dX3_pass_187 rfl ?_
          refine U_gT C0 hK h hin4 hk3 4 (by decide) (by decide +kernel) dX3_pass_188 ?_
          refine lv_iload hx hb dX3_pass_191 (lv_at hl 0 rfl) ?_
          refine lv_isub hx hb dX3_pass_193 ?_
          refine U_pT C0 hK h hin4 hk3 4 (by decide) (by decide +kernel) dX3_pass_194 (fun H locs S22 eS22 h => ?_)
          have hF9 : qP S22 i 1 = nI (qo S17 i) := by subst eS22 eS21; rw [e8]; simp only [qP_sT, sflow1, qP_sP]; rw [pk_un (by decide), pk_un (by decide), pk_un (by decide)]; exact hF1
          refine lv_aload_n hx hb dX3_pass_197 rfl (lv_at hl 7 rfl) ?_
          refine U_gO C0 hK h hin3 0 (by decide) (by decide +kernel) rfl dX3_pass_198 ?_
          refine lv_aload hx hb dX3_pass_201 (lv_at hl 2 rfl) ?_
          refine U_gP C0 hK h hin2 (by omega) 1 (by decide) (k9 := 1) rfl (by decide +kernel) dX3_pass_203 ?_
          refine U_aT C0 hK h (i := qo S17 i) hF9 hk4 dX3_pass_206 ?_
          refine lv_aload hx hb dX3_pass_207 (lv_at hl 2 rfl) ?_
          refine U_gP C0 hK h hin2 (by omega) 6 (by decide) (k9 := 5) rfl (by decide +kernel) dX3_pass_209 ?_
          refine lv_aload hx hb dX3_pass_212 (lv_at hl 2 rfl) ?_
          refine U_gP C0 hK h hin2 (by omega) 7 (by decide) (k9 := 6) rfl (by decide +kernel) dX3_pass_214 ?_
          refine lv_isub hx hb dX3_pass_217 ?_
          refine lv_iload hx hb dX3_pass_218 (lv_at hl 0 rfl) ?_
          refine S_callVv C0 hK h (c_X4_comes (qo S17 i) hk4 ((qP S22 i 5) - (qP S22 i 6)) (((qT S20 (qf S17 i) 4) * (qP S20 i 5)) / (qT S20 (qf S17 i) 3))) (cwV 2 hts gX3_pass_X4_comes rfl rfl rfl (by decide +kernel) ⟨Nat.le_of_ble_eq_true rfl, Nat.le_of_ble_eq_true rfl⟩) (k := ix (2 + (qo S17 i))) (ci := 4) (u_ltT h hk4) (fun ct hA => (hA.2.1.2.2.2.2 _ (suT hk4)).trans (simV_T (by omega))) rfl rfl rfl hl.1 (rest := []) rfl (Nat.le_of_ble_eq_true rfl) ⟨Nat.le_of_ble_eq_true rfl, Nat.le_of_ble_eq_true rfl⟩ dX3_pass_220 (fun u H locs hp h => ?_)
          obtain ⟨S23, eS23⟩ : ∃ z9, z9 = sT S22 (qo S17 i) (comesR (qT S22 (qo S17 i)) ((qP S22 i 5) - (qP S22 i 6)) (((qT S20 (qf S17 i) 4) * (qP S20 i 5)) / (qT S20 (qf S17 i) 3))) := ⟨_, rfl⟩
          rw [hp, ← eS23] at h
          have e11 : S23 = sflow2 i (qf S17 i) (qo S17 i) S20 := by subst eS23 eS22 eS21; rfl
          refine lv_aload_n hx hb dX3_pass_223 rfl (lv_at hl 7 rfl) ?_
          refine U_gO C0 hK h hin3 2 (by decide) (by decide +kernel) rfl dX3_pass_224 ?_
          refine lv_iconst (v := 4) hx hb dX3_pass_227 (by decide) ?_
          refine lv_irem hx hb dX3_pass_228 (by decide) ?_
          refine lv_if_ne (tgt := 253) hx hb dX3_pass_229 (by decide) (fun c_229 => ?_) (fun c_229 => ?_)
          · refine lv_iinc (v := nI (i + 1)) (lv' := [(4, .int (nI (i + 1))), (7, .int (((qT S20 (qf S17 i) 4) * (qP S20 i 5)) / (qT S20 (qf S17 i) 3))), (6, .ref (za z (ix (2 + (qf S17 i))))), (5, .ref (za z (ix (12 + i)))), (3, .int (nI q)), (2, .ref (za z (ix 1))), (1, .int 0), (0, .ref (za z 55))]) hx hb dX3_pass_253 hl (k := 3) rfl (q_inc i 1) (by decide) rfl (fun ls hl => ?_)
            refine lv_goto (tgt := 59) hx hb dX3_pass_256 (by decide) ?_
            exact ihL59 (i + 1) (by omega) _ _ _ (flow_fix e8 e11 c_145 (by exact (if_neg c_229).symm) eS17 h) (lv_sub hl [0, 4, 5, 6, 7] rfl)
          · refine lv_aload hx hb dX3_pass_232 (lv_at hl 2 rfl) ?_
            refine U_gP C0 hK h hin2 (by omega) 4 (by decide) (k9 := 4) rfl (by decide +kernel) dX3_pass_234 ?_
            refine lv_bipush (v := 20) hx hb dX3_pass_237 (by decide) ?_
            refine lv_icmp_ge (tgt := 253) hx hb dX3_pass_239 (by decide) (fun c_239 => ?_) (fun c_239 => ?_)
            · refine lv_iinc (v := nI (i + 1)) (lv' := [(4, .int (nI (i + 1))), (7, .int (((qT S20 (qf S17 i) 4) * (qP S20 i 5)) / (qT S20 (qf S17 i) 3))), (6, .ref (za z (ix (2 + (qf S17 i))))), (5, .ref (za z (ix (12 + i)))), (3, .int (nI q)), (2, .ref (za z (ix 1))), (1, .int 0), (0, .ref (za z 55))]) hx hb dX3_pass_253 hl (k := 3) rfl (q_inc i 1) (by decide) rfl (fun ls hl => ?_)
              refine lv_goto (tgt := 59) hx hb dX3_pass_256 (by decide) ?_
              exact ihL59 (i + 1) (by omega) _ _ _ (flow_fix e8 e11 c_145 (by exact ((if_pos c_239).symm.trans (if_pos c_229).symm)) eS17 h) (lv_sub hl [0, 4, 5, 6, 7] rfl)
            · refine lv_aload hx hb dX3_pass_242 (lv_at hl 2 rfl) ?_
              refine lv_dup hx hb dX3_pass_244 rfl ?_
              refine U_gP C0 hK h hin2 (by omega) 4 (by decide) (k9 := 4) rfl (by decide +kernel) dX3_pass_245 ?_
              refine lv_iconst (v := 1) hx hb dX3_pass_248 (by decide) ?_
              refine lv_iadd hx hb dX3_pass_249 ?_
              refine U_pP C0 hK h hin2 (by omega) 4 (by decide) (k9 := 4) rfl (by decide +kernel) dX3_pass_250 (fun H locs S24 eS24 h => ?_)
              refine lv_iinc (v := nI (i + 1)) (lv' := [(4, .int (nI (i + 1))), (7, .int (((qT S20 (qf S17 i) 4) * (qP S20 i 5)) / (qT S20 (qf S17 i) 3))), (6, .ref (za z (ix (2 + (qf S17 i))))), (5, .ref (za z (ix (12 + i)))), (3, .int (nI q)), (2, .ref (za z (ix 1))), (1, .int 0), (0, .ref (za z 55))]) hx hb dX3_pass_253 hl (k := 3) rfl (q_inc i 1) (by decide) rfl (fun ls hl => ?_)
              refine lv_goto (tgt := 59) hx hb dX3_pass_256 (by decide) ?_
              exact ihL59 (i + 1) (by omega) _ _ _ (flow_fix e8 e11 c_145 (by subst eS24; exact ((if_neg c_239).symm.trans (if_pos c_229).symm)) eS17 h) (lv_sub hl [0, 4, 5, 6, 7] rfl)
        · refine lv_goto (tgt := 253) hx hb dX3_pass_148 (by decide) ?_
          refine lv_iinc (v := nI (i + 1)) (lv' := [(4, .int (nI (i + 1))), (6, .ref (za z (ix (2 + (qf S17 i))))), (5, .ref (za z (ix (12 + i)))), (3, .int (nI q)), (2, .ref (za z (ix 1))), (1, .int 0), (0, .ref (za z 55))]) hx hb dX3_pass_253 hl (k := 2) rfl (q_inc i 1) (by decide) rfl (fun ls hl => ?_)
          refine lv_goto (tgt := 59) hx hb dX3_pass_256 (by decide) ?_
          exact ihL59 (i + 1) (by omega) _ _ _ (flow_fix0 e8 c_145 eS17 h) (lv_sub hl [0, 3, 4, 5, 6] rfl)
      · refine lv_aload hx hb dX3_pass_109 (lv_at hl 1 rfl) ?_
        refine U_gP C0 hK h hin2 (by omega) 5 (by decide) (k9 := 9) rfl (by decide +kernel) dX3_pass_111 ?_
        refine lv_goto (tgt := 122) hx hb dX3_pass_114 (by decide) ?_
        refine U_pP C0 hK h hin2 (by omega) 7 (by decide) (k9 := 6) rfl (by decide +kernel) dX3_pass_122 (fun H locs S25 eS25 h => ?_)
        refine lv_aload hx hb dX3_pass_125 (lv_at hl 1 rfl) ?_
        refine lv_dup hx hb dX3_pass_127 rfl ?_
        refine U_gP C0 hK h hin2 (by omega) 8 (by decide) (k9 := 7) rfl (by decide +kernel) dX3_pass_128 ?_
        refine lv_aload hx hb dX3_pass_131 (lv_at hl 1 rfl) ?_
        refine U_gP C0 hK h hin2 (by omega) 7 (by decide) (k9 := 6) rfl (by decide +kernel) dX3_pass_133 ?_
        refine lv_iadd hx hb dX3_pass_136 ?_
        refine U_pP C0 hK h hin2 (by omega) 8 (by decide) (k9 := 7) rfl (by decide +kernel) dX3_pass_137 (fun H locs S26 eS26 h => ?_)
        have e8 : S26 = sflow1 i S17 := by subst eS26 eS25 eS18; unfold sflow1; simp only []; rw [if_neg c_106]
        refine lv_aload hx hb dX3_pass_140 (lv_at hl 1 rfl) ?_
        refine U_gP C0 hK h hin2 (by omega) 6 (by decide) (k9 := 5) rfl (by decide +kernel) dX3_pass_142 ?_
        refine lv_if_ne (tgt := 151) hx hb dX3_pass_145 (by decide) (fun c_145 => ?_) (fun c_145 => ?_)
        · have hne9 : ¬ qT S26 (qf S17 i) 3 = 0 := by intro q9; rw [e8] at q9 c_145; exact hw i (by omega) S17 (by rw [eS17, hS9]) (fun q8 => c_145 (by simp [sflow1, qP_sP, upd, q8])) q9
          refine lv_aload hx hb dX3_pass_151 (lv_at hl 0 rfl) ?_
          refine U_gT C0 hK h hin4 hk3 4 (by decide) (by decide +kernel) dX3_pass_153 ?_
          refine lv_aload hx hb dX3_pass_156 (lv_at hl 1 rfl) ?_
          refine U_gP C0 hK h hin2 (by omega) 6 (by decide) (k9 := 5) rfl (by decide +kernel) dX3_pass_158 ?_
          refine lv_imul hx hb dX3_pass_161 ?_
          refine lv_aload hx hb dX3_pass_162 (lv_at hl 0 rfl) ?_
          refine U_gT C0 hK h hin4 hk3 3 (by decide) (by decide +kernel) dX3_pass_164 ?_
          refine lv_idiv hx hb dX3_pass_167 hne9 ?_
          refine lv_istore (lv' := [(7, .int (((qT S26 (qf S17 i) 4) * (qP S26 i 5)) / (qT S26 (qf S17 i) 3))), (6, .ref (za z (ix (2 + (qf S17 i))))), (5, .ref (za z (ix (12 + i)))), (4, .int (nI i)), (3, .int (nI q)), (2, .ref (za z (ix 1))), (1, .int 0), (0, .ref (za z 55))]) hx hb dX3_pass_168 hl (by decide) rfl (fun ls hl => ?_)
          refine lv_aload hx hb dX3_pass_170 (lv_at hl 1 rfl) ?_
          refine lv_dup hx hb dX3_pass_172 rfl ?_
          refine U_gT C0 hK h hin4 hk3 3 (by decide) (by decide +kernel) dX3_pass_173 ?_
          refine lv_aload hx hb dX3_pass_176 (lv_at hl 2 rfl) ?_
          refine U_gP C0 hK h hin2 (by omega) 6 (by decide) (k9 := 5) rfl (by decide +kernel) dX3_pass_178 ?_
          refine lv_isub hx hb dX3_pass_181 ?_
          refine U_pT C0 hK h hin4 hk3 3 (by decide) (by decide +kernel) dX3_pass_182 (fun H locs S27 eS27 h => ?_)
          refine lv_aload hx hb dX3_pass_185 (lv_at hl 1 rfl) ?_
          refine lv_dup hx hb dX3_pass_187 rfl ?_
          refine U_gT C0 hK h hin4 hk3 4 (by decide) (by decide +kernel) dX3_pass_188 ?_
          refine lv_iload hx hb dX3_pass_191 (lv_at hl 0 rfl) ?_
          refine lv_isub hx hb dX3_pass_193 ?_
          refine U_pT C0 hK h hin4 hk3 4 (by decide) (by decide +kernel) dX3_pass_194 (fun H locs S28 eS28 h => ?_)
          have hF9 : qP S28 i 1 = nI (qo S17 i) := by subst eS28 eS27; rw [e8]; simp only [qP_sT, sflow1, qP_sP]; rw [pk_un (by decide), pk_un (by decide), pk_un (by decide)]; exact hF1
          refine lv_aload_n hx hb dX3_pass_197 rfl (lv_at hl 7 rfl) ?_
          refine U_gO C0 hK h hin3 0 (by decide) (by decide +kernel) rfl dX3_pass_198 ?_
          refine lv_aload hx hb dX3_pass_201 (lv_at hl 2 rfl) ?_
          refine U_gP C0 hK h hin2 (by omega) 1 (by decide) (k9 := 1) rfl (by decide +kernel) dX3_pass_203 ?_
          refine U_aT C0 hK h (i := qo S17 i) hF9 hk4 dX3_pass_206 ?_
          refine lv_aload hx hb dX3_pass_207 (lv_at hl 2 rfl) ?_
          refine U_gP C0 hK h hin2 (by omega) 6 (by decide) (k9 := 5) rfl (by decide +kernel) dX3_pass_209 ?_
          refine lv_aload hx hb dX3_pass_212 (lv_at hl 2 rfl) ?_
          refine U_gP C0 hK h hin2 (by omega) 7 (by decide) (k9 := 6) rfl (by decide +kernel) dX3_pass_214 ?_
          refine lv_isub hx hb dX3_pass_217 ?_
          refine lv_iload hx hb dX3_pass_218 (lv_at hl 0 rfl) ?_
          refine S_callVv C0 hK h (c_X4_comes (qo S17 i) hk4 ((qP S28 i 5) - (qP S28 i 6)) (((qT S26 (qf S17 i) 4) * (qP S26 i 5)) / (qT S26 (qf S17 i) 3))) (cwV 2 hts gX3_pass_X4_comes rfl rfl rfl (by decide +kernel) ⟨Nat.le_of_ble_eq_true rfl, Nat.le_of_ble_eq_true rfl⟩) (k := ix (2 + (qo S17 i))) (ci := 4) (u_ltT h hk4) (fun ct hA => (hA.2.1.2.2.2.2 _ (suT hk4)).trans (simV_T (by omega))) rfl rfl rfl hl.1 (rest := []) rfl (Nat.le_of_ble_eq_true rfl) ⟨Nat.le_of_ble_eq_true rfl, Nat.le_of_ble_eq_true rfl⟩ dX3_pass_220 (fun u H locs hp h => ?_)
          obtain ⟨S29, eS29⟩ : ∃ z9, z9 = sT S28 (qo S17 i) (comesR (qT S28 (qo S17 i)) ((qP S28 i 5) - (qP S28 i 6)) (((qT S26 (qf S17 i) 4) * (qP S26 i 5)) / (qT S26 (qf S17 i) 3))) := ⟨_, rfl⟩
          rw [hp, ← eS29] at h
          have e11 : S29 = sflow2 i (qf S17 i) (qo S17 i) S26 := by subst eS29 eS28 eS27; rfl
          refine lv_aload_n hx hb dX3_pass_223 rfl (lv_at hl 7 rfl) ?_
          refine U_gO C0 hK h hin3 2 (by decide) (by decide +kernel) rfl dX3_pass_224 ?_
          refine lv_iconst (v := 4) hx hb dX3_pass_227 (by decide) ?_
          refine lv_irem hx hb dX3_pass_228 (by decide) ?_
          refine lv_if_ne (tgt := 253) hx hb dX3_pass_229 (by decide) (fun c_229 => ?_) (fun c_229 => ?_)
          · refine lv_iinc (v := nI (i + 1)) (lv' := [(4, .int (nI (i + 1))), (7, .int (((qT S26 (qf S17 i) 4) * (qP S26 i 5)) / (qT S26 (qf S17 i) 3))), (6, .ref (za z (ix (2 + (qf S17 i))))), (5, .ref (za z (ix (12 + i)))), (3, .int (nI q)), (2, .ref (za z (ix 1))), (1, .int 0), (0, .ref (za z 55))]) hx hb dX3_pass_253 hl (k := 3) rfl (q_inc i 1) (by decide) rfl (fun ls hl => ?_)
            refine lv_goto (tgt := 59) hx hb dX3_pass_256 (by decide) ?_
            exact ihL59 (i + 1) (by omega) _ _ _ (flow_fix e8 e11 c_145 (by exact (if_neg c_229).symm) eS17 h) (lv_sub hl [0, 4, 5, 6, 7] rfl)
          · refine lv_aload hx hb dX3_pass_232 (lv_at hl 2 rfl) ?_
            refine U_gP C0 hK h hin2 (by omega) 4 (by decide) (k9 := 4) rfl (by decide +kernel) dX3_pass_234 ?_
            refine lv_bipush (v := 20) hx hb dX3_pass_237 (by decide) ?_
            refine lv_icmp_ge (tgt := 253) hx hb dX3_pass_239 (by decide) (fun c_239 => ?_) (fun c_239 => ?_)
            · refine lv_iinc (v := nI (i + 1)) (lv' := [(4, .int (nI (i + 1))), (7, .int (((qT S26 (qf S17 i) 4) * (qP S26 i 5)) / (qT S26 (qf S17 i) 3))), (6, .ref (za z (ix (2 + (qf S17 i))))), (5, .ref (za z (ix (12 + i)))), (3, .int (nI q)), (2, .ref (za z (ix 1))), (1, .int 0), (0, .ref (za z 55))]) hx hb dX3_pass_253 hl (k := 3) rfl (q_inc i 1) (by decide) rfl (fun ls hl => ?_)
              refine lv_goto (tgt := 59) hx hb dX3_pass_256 (by decide) ?_
              exact ihL59 (i + 1) (by omega) _ _ _ (flow_fix e8 e11 c_145 (by exact ((if_pos c_239).symm.trans (if_pos c_229).symm)) eS17 h) (lv_sub hl [0, 4, 5, 6, 7] rfl)
            · refine lv_aload hx hb dX3_pass_242 (lv_at hl 2 rfl) ?_
              refine lv_dup hx hb dX3_pass_244 rfl ?_
              refine U_gP C0 hK h hin2 (by omega) 4 (by decide) (k9 := 4) rfl (by decide +kernel) dX3_pass_245 ?_
              refine lv_iconst (v := 1) hx hb dX3_pass_248 (by decide) ?_
              refine lv_iadd hx hb dX3_pass_249 ?_
              refine U_pP C0 hK h hin2 (by omega) 4 (by decide) (k9 := 4) rfl (by decide +kernel) dX3_pass_250 (fun H locs S30 eS30 h => ?_)
              refine lv_iinc (v := nI (i + 1)) (lv' := [(4, .int (nI (i + 1))), (7, .int (((qT S26 (qf S17 i) 4) * (qP S26 i 5)) / (qT S26 (qf S17 i) 3))), (6, .ref (za z (ix (2 + (qf S17 i))))), (5, .ref (za z (ix (12 + i)))), (3, .int (nI q)), (2, .ref (za z (ix 1))), (1, .int 0), (0, .ref (za z 55))]) hx hb dX3_pass_253 hl (k := 3) rfl (q_inc i 1) (by decide) rfl (fun ls hl => ?_)
              refine lv_goto (tgt := 59) hx hb dX3_pass_256 (by decide) ?_
              exact ihL59 (i + 1) (by omega) _ _ _ (flow_fix e8 e11 c_145 (by subst eS30; exact ((if_neg c_239).symm.trans (if_pos c_229).symm)) eS17 h) (lv_sub hl [0, 4, 5, 6, 7] rfl)
        · refine lv_goto (tgt := 253) hx hb dX3_pass_148 (by decide) ?_
          refine lv_iinc (v := nI (i + 1)) (lv' := [(4, .int (nI (i + 1))), (6, .ref (za z (ix (2 + (qf S17 i))))), (5, .ref (za z (ix (12 + i)))), (3, .int (nI q)), (2, .ref (za z (ix 1))), (1, .int 0), (0, .ref (za z 55))]) hx hb dX3_pass_253 hl (k := 2) rfl (q_inc i 1) (by decide) rfl (fun ls hl => ?_)
          refine lv_goto (tgt := 59) hx hb dX3_pass_256 (by decide) ?_
          exact ihL59 (i + 1) (by omega) _ _ _ (flow_fix0 e8 c_145 eS17 h) (lv_sub hl [0, 3, 4, 5, 6] rfl)
  have L13 : ∀ (d i : Nat), i + d = t → ∀ (H : Heap) (locs : List Loc) (ls : Array Slot), GW z (UAt z ix t q b n) 0 (b + n) s.heap ct (X, Y, (itN sfeedF i S), f) H locs → lv_has ls 8 [(4, .int (nI i)), (3, .int (nI t)), (2, .ref (za z (ix 0))), (1, .int 0), (0, .ref (za z 55))] → W p l e ({ frames := 1, cells := 0, slots := 0, locals := 25 } : Room) s m [.ref (za z 55)].toArray below meth c H locs 0 0 (EI z (UAt z ix t q b n) 0 (b + n) ct s below [.ref (za z 55)] 0 0 (fun r u => u = (X, Y, spass t q S, f))) (F0 m 13 ls []) := by
    intro  d
    induction d with
    | zero =>
      intro i hdi H locs ls h hl
      have hEi : i = t := by omega
      obtain ⟨S31, eS31⟩ : ∃ z9, z9 = itN sfeedF i S := ⟨_, rfl⟩
      rw [← eS31] at h
      have hs9 : Shp S S31 := by rw [eS31]; exact shp_it (f := sfeedF) (fun _ _ => shp_sT) S i
      have hk9 := hs9.ok hk
      refine lv_iload hx hb dX3_pass_13 (lv_at hl 0 rfl) ?_
      refine lv_iload_n hx hb dX3_pass_15 rfl (lv_at hl 1 rfl) ?_
      refine lv_icmp_ge (tgt := 48) hx hb dX3_pass_16 (by decide) (fun _ => ?_) (fun q9 => absurd (nI_le (by omega) (by omega)) q9)
      refine lv_aload_n hx hb dX3_pass_48 rfl (lv_at hl 4 rfl) ?_
      refine U_gO C0 hK h hin3 1 (by decide) (by decide +kernel) rfl dX3_pass_49 ?_
      refine lv_astore_n (lv' := [(2, .ref (za z (ix 1))), (4, .int (nI i)), (3, .int (nI t)), (1, .int 0), (0, .ref (za z 55))]) hx hb dX3_pass_52 rfl hl (by decide) rfl (fun ls hl => ?_)
      refine lv_aload_n hx hb dX3_pass_53 rfl (lv_at hl 0 rfl) ?_
      refine U_lP C0 hK h dX3_pass_54 ?_
      refine lv_istore_n (lv' := [(3, .int (nI q)), (2, .ref (za z (ix 1))), (4, .int (nI i)), (1, .int 0), (0, .ref (za z 55))]) hx hb dX3_pass_55 rfl hl (by decide) rfl (fun ls hl => ?_)
      refine lv_iconst (v := 0) hx hb dX3_pass_56 (by decide) ?_
      refine lv_istore (lv' := [(4, .int 0), (3, .int (nI q)), (2, .ref (za z (ix 1))), (1, .int 0), (0, .ref (za z 55))]) hx hb dX3_pass_57 hl (by decide) rfl (fun ls hl => ?_)
      exact L59 S31 hk9 ⟨hs9.1.trans hqt, hs9.2.1.trans hqp⟩ (by rw [eS31, hEi]) (q) 0 (by omega) _ _ _ h (lv_sub hl [0, 1, 2, 3, 4] rfl)
    | succ d ihL13 =>
      intro i hdi H locs ls h hl
      have hEi : i < t := by omega
      obtain ⟨S32, eS32⟩ : ∃ z9, z9 = itN sfeedF i S := ⟨_, rfl⟩
      rw [← eS32] at h
      have hs9 : Shp S S32 := by rw [eS32]; exact shp_it (f := sfeedF) (fun _ _ => shp_sT) S i
      have hk9 := hs9.ok hk
      refine lv_iload hx hb dX3_pass_13 (lv_at hl 0 rfl) ?_
      refine lv_iload_n hx hb dX3_pass_15 rfl (lv_at hl 1 rfl) ?_
      refine lv_icmp_ge (tgt := 48) hx hb dX3_pass_16 (by decide) (fun q9 => absurd q9 (nI_ge (by omega) (by omega))) (fun _ => ?_)
      refine lv_aload_n hx hb dX3_pass_19 rfl (lv_at hl 2 rfl) ?_
      refine lv_iload hx hb dX3_pass_20 (lv_at hl 0 rfl) ?_
      refine U_aT C0 hK h (i := i) rfl (by omega) dX3_pass_22 ?_
      refine lv_astore (lv' := [(5, .ref (za z (ix (2 + i)))), (4, .int (nI i)), (3, .int (nI t)), (2, .ref (za z (ix 0))), (1, .int 0), (0, .ref (za z 55))]) hx hb dX3_pass_23 hl (by decide) rfl (fun ls hl => ?_)
      refine lv_aload hx hb dX3_pass_25 (lv_at hl 0 rfl) ?_
      refine lv_aload hx hb dX3_pass_27 (lv_at hl 0 rfl) ?_
      refine U_gT C0 hK h hin4 (by omega) 1 (by decide) (by decide +kernel) dX3_pass_29 ?_
      refine lv_aload hx hb dX3_pass_32 (lv_at hl 0 rfl) ?_
      refine U_gT C0 hK h hin4 (by omega) 1 (by decide) (by decide +kernel) dX3_pass_34 ?_
      refine lv_iconst (v := 4) hx hb dX3_pass_37 (by decide) ?_
      refine lv_idiv hx hb dX3_pass_38 (by decide) ?_
      refine S_callVv C0 hK h (c_X4_comes i (by omega) (qT S32 i 1) ((qT S32 i 1) / 4)) (cwV 2 hts gX3_pass_X4_comes rfl rfl rfl (by decide +kernel) ⟨Nat.le_of_ble_eq_true rfl, Nat.le_of_ble_eq_true rfl⟩) (k := ix (2 + i)) (ci := 4) (u_ltT h (by omega)) (fun ct hA => (hA.2.1.2.2.2.2 _ (suT (by omega))).trans (simV_T (by omega))) rfl rfl rfl hl.1 (rest := []) rfl (Nat.le_of_ble_eq_true rfl) ⟨Nat.le_of_ble_eq_true rfl, Nat.le_of_ble_eq_true rfl⟩ dX3_pass_39 (fun u H locs hp h => ?_)
      obtain ⟨S33, eS33⟩ : ∃ z9, z9 = sT S32 i (comesR (qT S32 i) (qT S32 i 1) ((qT S32 i 1) / 4)) := ⟨_, rfl⟩
      rw [hp, ← eS33] at h
      refine lv_iinc (v := nI (i + 1)) (lv' := [(4, .int (nI (i + 1))), (5, .ref (za z (ix (2 + i)))), (3, .int (nI t)), (2, .ref (za z (ix 0))), (1, .int 0), (0, .ref (za z 55))]) hx hb dX3_pass_42 hl (k := 1) rfl (q_inc i 1) (by decide) rfl (fun ls hl => ?_)
      refine lv_goto (tgt := 13) hx hb dX3_pass_45 (by decide) ?_
      exact ihL13 (i + 1) (by omega) _ _ _ (by subst eS33; rw [eS32] at h; exact h) (lv_sub hl [0, 2, 3, 4, 5] rfl)
  refine lv_iconst (v := 0) hx hb dX3_pass_0 (by decide) ?_
  refine lv_istore_n (lv' := [(1, .int 0), (0, .ref (za z 55))]) hx hb dX3_pass_1 rfl hl (by decide) rfl (fun ls hl => ?_)
  refine lv_aload_n hx hb dX3_pass_2 rfl (lv_at hl 1 rfl) ?_
  refine U_gO C0 hK h hin3 0 (by decide) (by decide +kernel) rfl dX3_pass_3 ?_
  refine lv_astore_n (lv' := [(2, .ref (za z (ix 0))), (1, .int 0), (0, .ref (za z 55))]) hx hb dX3_pass_6 rfl hl (by decide) rfl (fun ls hl => ?_)
  refine lv_aload_n hx hb dX3_pass_7 rfl (lv_at hl 0 rfl) ?_
  refine U_lT C0 hK h dX3_pass_8 ?_
  refine lv_istore_n (lv' := [(3, .int (nI t)), (2, .ref (za z (ix 0))), (1, .int 0), (0, .ref (za z 55))]) hx hb dX3_pass_9 rfl hl (by decide) rfl (fun ls hl => ?_)
  refine lv_iconst (v := 0) hx hb dX3_pass_10 (by decide) ?_
  refine lv_istore (lv' := [(4, .int 0), (3, .int (nI t)), (2, .ref (za z (ix 0))), (1, .int 0), (0, .ref (za z 55))]) hx hb dX3_pass_11 hl (by decide) rfl (fun ls hl => ?_)
  exact L13 (t) 0 (by omega) _ _ _ h (lv_sub hl [0, 1, 2, 3, 4] rfl)
end
section
/-! PART 67: rows for making tanks, pipes, arrays of them -/
section QNQ
variable {p : Program} {l : Launch} {e : Env} {R : Room} {s : State} {m : MethodId} {args : Array Value} {below : List Frame} {meth : Method} {c : Code} {H : Heap} {locs : List Loc} {cells slots : Nat} {Q : State → Prop}
variable {cc : ByteArray} {nL : Nat} {ret : Option FieldType} {own : String} {ws : List Cond} {pc : Nat} {ls : Array Slot} {rest : List Value} {z : QZ} {w : va_W} {A : Nat → Prop} {H0 : Heap} {c0 : Nat → va_E}
variable {ix : Nat → Nat} {t q b len ci t0 : Nat} {cA : ClassId} {u : US} {g : Nat → Option Nat} {fs : List Value}
theorem q_newq (C0 : Cx p s m args meth c cc nL ret own ws) (hK : QK z s) (hP : va_P (zG z) vwCl w H) (hD : va_D A w) (hS : va_S A H0 H locs) (hA : ∀ q, H0.size ≤ q → A q) {C : String} (hao : va_AO C s) (hty : (zT z)[t0]? = some (cA, .object C)) {index : Nat} (hl : Cond.classLink own index C ∈ ws) {n : Nat} {x : Int32} (hx : x = nI n) (hn : n < 1000) (hc : cells + 1 ≤ R.cells) (hs : slots + n ≤ R.slots) (hdg : decode cc pc = .ok (.anewarray index, 3))
    (kk : ∀ (q : Nat) (H1 : Heap), va_P (zG z) vwCl (w ++ [(q, .inl (cA, n, .inr (.inr (.inr (.inr (fun _ => none))))))]) H1 → va_D A (w ++ [(q, .inl (cA, n, .inr (.inr (.inr (.inr (fun _ => none))))))]) → va_S A H0 H1 locs → W p l e R s m args below meth c H1 locs (cells + 1) (slots + n) Q (F0 m (pc + 3) ls (.ref q :: rest))) : W p l e R s m args below meth c H locs cells slots Q (F0 m pc ls (.int x :: rest)) := by
  subst hx
  have tn : (nI n).toNatClampNeg = n := nI_clamp (by omega)
  refine W.anew C0.1 C0.2.1 C0.2.2.2.2.1 (C0.2.2.2.2.2.1 _ hl) (va_AO.use hao) rfl hdg rfl (nI_pos (by omega)) (by rw [tn]; omega) hc (by rw [tn]; exact hs) fun c1 kA comp f1 f2 f3 f4 => ?_
  obtain ⟨-, -, -, -, -, g4⟩ := (hK.1.2 t0 _ hty).2
  have ec : c1 = cA := Option.some.inj (f1.symm.trans g4)
  subst ec
  rw [tn]
  generalize hH1 : H.push ({ cls := c1, slots := Array.replicate n .null, vm := .none } : Cell) = H1
  have z1 : H1.size = H.size + 1 := by rw [← hH1, Array.size_push]
  have e1 : H1[H.size]? = some (arrV c1 n (fun _ => .null)) := by rw [← hH1, Array.getElem?_push_size, ← arrV_new]
  have o1 : ∀ q : Nat, q < H.size → H1[q]? = H[q]? := fun q hq => by rw [← hH1, Array.getElem?_push, if_neg (Nat.ne_of_lt hq)]
  refine kk H.size H1 ((hP.kept (fun k y hy => o1 y.1 ((hP k y hy).lt))).app (fun k y hy => ?_)) (hD.push hP rfl (hA _ hS.1)) ⟨Nat.le_trans hS.1 (by omega), fun y h1 h2 => (o1 y (Nat.lt_of_lt_of_le h1 hS.1)).trans (hS.2.1 y h1 h2), hS.2.2⟩
  have hz : k < 1 := (List.getElem?_eq_some_iff.mp hy).1
  rw [show k = 0 by omega] at hy
  cases hy
  show H1[H.size]? = some (vp_cell _ _)
  rw [vp_cell_q, e1]
  rfl
/-- a further array of references, at b -/
def BAt (z : QZ) (ix : Nat → Nat) (t q b : Nat) (cA : ClassId) (len : Nat) (a : US × (Nat → Option Nat)) (ct : Nat → va_E) : Prop := UAt z ix t q b 0 a.1 ct ∧ ct b = .inl (cA, len, .inr (.inr (.inr (.inr a.2))))
/-- and an object behind it, at b + 1 -/
def CAt (z : QZ) (ix : Nat → Nat) (t q b : Nat) (cA : ClassId) (len ci : Nat) (a : US × (Nat → Option Nat) × List Value) (ct : Nat → va_E) : Prop := UAt z ix t q b 0 a.1 ct ∧ ct b = .inl (cA, len, .inr (.inr (.inr (.inr a.2.1)))) ∧ ct (b + 1) = .inr (ci, a.2.2)
theorem UAt.wid {n : Nat} {X Y S : QLs} {f : Nat → Nat × (Nat → Int32)} {ct : Nat → va_E} (h : UAt z ix t q b 0 (X, Y, S, f) ct) : UAt z ix t q (b + n) 0 (X, Y, S, f) ct := h.drop (b + n) (by omega)
theorem B_rd {H0 : Heap} (h : GW z (BAt z ix t q b cA len) 0 (b + 1) H0 c0 (u, g) H locs) : GW z (UAt z ix t q (b + 1) 0) 0 (b + 1 + 0) H0 c0 (u.1, u.2.1, u.2.2.1, u.2.2.2) H locs := h.imp (fun ct hA => hA.1.wid)
theorem C_rd {H0 : Heap} (h : GW z (CAt z ix t q b cA len ci) 0 (b + 2) H0 c0 (u, g, fs) H locs) : GW z (UAt z ix t q (b + 2) 0) 0 (b + 2 + 0) H0 c0 (u.1, u.2.1, u.2.2.1, u.2.2.2) H locs := h.imp (fun ct hA => hA.1.wid)
/-- the array is made -/
theorem B_new (C0 : Cx p s m args meth c cc nL ret own ws) (hK : QK z s) (h : GW z (UAt z ix t q b 0) 0 (b + 0) s.heap c0 u H locs) (hzn : zn z = b) {C : String} (hao : va_AO C s) (hty : (zT z)[t0]? = some (cA, .object C)) {index : Nat} (hl : Cond.classLink own index C ∈ ws) {n : Nat} {x : Int32} (hx : x = nI n) (hn : n < 1000) (hc : cells + 1 ≤ R.cells) (hs : slots + n ≤ R.slots) (hdg : decode cc pc = .ok (.anewarray index, 3))
    (kk : ∀ (z2 : QZ) (c1 : Nat → va_E) (H1 : Heap), XZ s.heap.size z z2 → zn z2 = b + 1 → QK z2 s → GW z2 (BAt z2 ix t q b cA n) 0 (b + 1) s.heap c1 (u, fun _ => none) H1 locs → W p l e R s m args below meth c H1 locs (cells + 1) (slots + n) Q (F0 m (pc + 3) ls (.ref (za z2 b) :: rest))) : W p l e R s m args below meth c H locs cells slots Q (F0 m pc ls (.int x :: rest)) := by
  obtain ⟨ct, hP, hS, hA, hF, hn9, hq⟩ := h
  refine q_newq C0 hK hP (wd_DA hq) hS (fun q h => qA_new h) hao hty hl hx hn hc hs hdg (fun a H1 hP1 hD1 hS1 => ?_)
  have hA2 : BAt z ix t q b cA n (u, fun _ => none) (va_up ct (zn z) (.inl (cA, n, .inr (.inr (.inr (.inr (fun _ => none))))))) := ⟨UAt.more (X := u.1) (Y := u.2.1) (S := u.2.2.1) (f := u.2.2.2) hA (by omega) _, by rw [hzn, va_up_self]⟩
  obtain ⟨hX, hG⟩ := GW.grow (At := BAt z ix t q b cA n) (a := (u, fun _ => none)) (hi := b + 1) hP1 hD1 hS1 hA2 (by omega)
  have hG2 := hG.imp (At2 := BAt (zx z a) ix t q b cA n) (a2 := (u, fun _ => none)) (fun ct2 hA3 => ⟨hA3.1.ext hX (by omega), hA3.2⟩)
  have ea : a = za (zx z a) b := by
    show a = va_up (za z) (zn z) a b
    rw [← hzn, va_up_self]
  have k2 := kk (zx z a) _ H1 hX (by show zn z + 1 = _; omega) (hK.zx hX) hG2
  rw [← ea] at k2
  exact k2
/-- a reference is stored in it -/
theorem B_st (C0 : Cx p s m args meth c cc nL ret own ws) (hK : QK z s) (h : GW z (BAt z ix t q b cA len) 0 (b + 1) s.heap c0 (u, g) H locs) {r : vw_C} (hr : vwCl[ci]? = some r) (hty : (zT z)[t0]? = some (cA, .object r.1)) {k : Nat} (hk : k < b) (hck : ∀ ct, UAt z ix t q b 0 u ct → ct k = .inr (ci, fs)) {i : Nat} {x : Int32} (hx : x = nI i) (hi : i < len) (hlen : len < 1000) (hdg : decode cc pc = .ok (.aastore, 1))
    (kk : ∀ (H1 : Heap) (locs1 : List Loc), GW z (BAt z ix t q b cA len) 0 (b + 1) s.heap c0 (u, va_up g i (some (za z k))) H1 locs1 → W p l e R s m args below meth c H1 locs1 cells slots Q (F0 m (pc + 1) ls rest)) : W p l e R s m args below meth c H locs cells slots Q (F0 m pc ls (.ref (za z k) :: .int x :: .ref (za z b) :: rest)) := by
  obtain ⟨ct, hP, hS, hA, hF, hn, hq⟩ := h
  subst hx
  have e1 : (nI i).toNatClampNeg = i := nI_clamp (by omega)
  refine va_astq C0.1 C0.2.1 hK.1 hP (wd_DA hq) hS b t0 k ci ((wd_get (by omega)).trans (by rw [hA.2])) hty ((wd_get (by omega)).trans (by rw [hck ct hA.1])) hr (vp_in_nI hi (by omega)) hdg (fun H1 locs1 hP1 hD1 hS1 => kk H1 locs1 ⟨_, ?_, hS1, ⟨UAt.more (X := u.1) (Y := u.2.1) (S := u.2.2.1) (f := u.2.2.2) hA.1 (Nat.le_refl _) _, va_up_self _ _ _⟩, hF.up ⟨by omega, by omega⟩, hn, hq⟩)
  rw [e1, wd_set] at hP1; exact hP1
/-- an object is made behind it -/
theorem C_new (C0 : Cx p s m args meth c cc nL ret own ws) (hK : QK z s) (h : GW z (BAt z ix t q b cA len) 0 (b + 1) s.heap c0 (u, g) H locs) (hzn : zn z = b + 1) {C : String} {T : u_T} {N : Nat} (hin : ∀ w ∈ u_ws C T N, w ∈ ws) (ty : Nat → FieldType) (hty : ∀ k, k < N → parseFieldDescriptor (T k).2.2.1 = some (ty k)) {index : Nat} (hcl : Cond.classLink own index C ∈ ws) (hinst : Cond.instantiable C N ∈ ws) (hini : Cond.initialized C ∈ ws) (hci : vwCl[ci]? = some (C, T, N)) (hfs : ∀ j, j < N → defaultValue (ty j) = vp_V fs j) (hc : cells + 1 ≤ R.cells) (hs : slots + N ≤ R.slots) (hdg : decode cc pc = .ok (.new index, 3))
    (kk : ∀ (z2 : QZ) (c1 : Nat → va_E) (H1 : Heap), XZ s.heap.size z z2 → zn z2 = b + 2 → QK z2 s → GW z2 (CAt z2 ix t q b cA len ci) 0 (b + 2) s.heap c1 (u, g, fs) H1 locs → W p l e R s m args below meth c H1 locs (cells + 1) (slots + N) Q (F0 m (pc + 3) ls (.ref (za z2 (b + 1)) :: rest))) : W p l e R s m args below meth c H locs cells slots Q (F0 m pc ls rest) := by
  obtain ⟨ct, hP, hS, hA, hF, hn9, hq⟩ := h
  refine va_new (ci := ci) (fs := fs) (C := C) (T := T) (N := N) C0.1 C0.2.1 C0.2.2.2.2.2.1 hin ty hty C0.2.2.2.2.1 (C0.2.2.2.2.2.1 _ hcl) (C0.2.2.2.2.2.1 _ hinst) (C0.2.2.2.2.2.1 _ hini) hK.1 hP (wd_DA hq) hS (fun q h => qA_new h) hci hfs hc hs hdg (fun a H1 hP1 hD1 hS1 => ?_)
  have hA2 : CAt z ix t q b cA len ci (u, g, fs) (va_up ct (zn z) (.inr (ci, fs))) := ⟨UAt.more (X := u.1) (Y := u.2.1) (S := u.2.2.1) (f := u.2.2.2) hA.1 (by omega) _, by rw [va_up_ne _ _ (by omega)]; exact hA.2, by rw [hzn, va_up_self]⟩
  obtain ⟨hX, hG⟩ := GW.grow (At := CAt z ix t q b cA len ci) (a := (u, g, fs)) (hi := b + 2) hP1 hD1 hS1 hA2 (by omega)
  have hG2 := hG.imp (At2 := CAt (zx z a) ix t q b cA len ci) (a2 := (u, g, fs)) (fun ct2 hA3 => ⟨hA3.1.ext hX (by omega), hA3.2⟩)
  have ea : a = za (zx z a) (b + 1) := by
    show a = va_up (za z) (zn z) a (b + 1)
    rw [← hzn, va_up_self]
  have k2 := kk (zx z a) _ H1 hX (by show zn z + 1 = _; omega) (hK.zx hX) hG2
  rw [← ea] at k2
  exact k2
/-- a constructor that does nothing of its own -/
def IN0 (l : Launch) (y : MethodName) (ws : List Cond) (rm : Room) : Prop := ∀ (z : QZ) (w : va_W) (a sz : Nat), Met l y ws rm (va_Pc [.ref a] (PreN z w sz)) (va_Qv (fun _ : Unit => True) (fun _ t => va_P (zG z) vwCl w t.heap) (va_A w sz)) 0 0 (va_A w sz)
theorem I_call {α : Type} {At : α → (Nat → va_E) → Prop} {a0 : α} {hi index : Nat} {y : MethodName} {bytes : ByteArray} {maxL : Nat} {ws2 ws2' : List Cond} {rm : Room} {host : String} {a : Addr} (C0 : Cx p s m args meth c cc nL ret own ws) (hK : QK z s) (h : GW z At 0 hi s.heap c0 a0 H locs) (hM : IN0 l y ws2 rm) (hG : GoodIn ws ws2) (hw : ws2 = Cond.code y bytes maxL none :: ws2') (hrc : rm.cells = 0) (hrs : rm.slots = 0) (hl : va_Nw (.methodLinkNest own index y host) s) (hini : Cond.initialized y.cls ∈ ws) (hinst : Cond.instanceMethod y ∈ ws) (hy1 : y.name = "<init>") (hd : y.cls ≠ "java/lang/invoke/MethodHandle" ∧ y.cls ≠ "java/lang/invoke/VarHandle" ∧ (parseMethodDescriptor y.desc).map (fun d => d.parameters.length) = some 0) (hR : rm.frames + 1 ≤ R.frames ∧ 8 + (maxL + 11) + rm.locals ≤ R.locals) (hsz : ls.size = nL) (hroom : (rest.map fun v => v.category).sum ≤ 8) (hf : cells + 0 ≤ R.cells ∧ slots + 0 ≤ R.slots) (hdg : decode cc pc = .ok (.invokespecial index, 3))
    (kk : ∀ (H1 : Heap) (locs1 : List Loc), GW z At 0 hi s.heap c0 a0 H1 locs1 → W p l e R s m args below meth c H1 locs1 (cells + 0) (slots + 0) Q (F0 m (pc + 3) ls rest)) : W p l e R s m args below meth c H locs cells slots Q (F0 m pc ls (.ref a :: rest)) := by
  obtain ⟨ct, hP, hS, hA, hF, hn, hq⟩ := h
  have hD := wd_DA (ct := ct) (sz := s.heap.size) hq
  have hsub : ∀ x, va_A (wd (zn z) (za z) ct) H.size x → qA (zn z) (za z) s.heap.size x := by
    rintro x (⟨k, e9, hk⟩ | h9)
    · exact hD.2 k _ hk
    · exact Or.inr (Nat.le_trans hS.1 h9)
  refine va_callv (va_runIN (As := []) (rest := rest) ⟨C0.1, C0.2.1, C0.2.2.2.1, C0.2.2.2.2.1, C0.2.2.2.2.2.1⟩ (hM z (wd (zn z) (za z) ct) a H.size) ⟨va_cnB 0 C0.2.2.2.2.2.1 hG hw hrc hrs hl (C0.2.2.2.2.2.1 _ hini) hd hR, hy1, C0.2.2.2.2.2.1 _ hinst⟩ ⟨preN_blind, fun U hU hW => ⟨rfl, by rw [hU], by rw [hU]; exact hP, QK.warm hW hK, hD.weaken (fun _ _ _ _ => trivial)⟩⟩ rfl rfl hsz rfl (lv_room hroom) hdg hf) hS (fun x _ h9 => hsub x h9) hsub (fun u1 t1 H1 locs1 ht hvm hp hB hz1 hk1 hS1 => ?_)
  rw [ht] at hB
  exact kk H1 locs1 ⟨ct, hB, hS1, hA, hF, hn, hq⟩
theorem C_st (C0 : Cx p s m args meth c cc nL ret own ws) (hK : QK z s) (h : GW z (CAt z ix t q b cA len ci) 0 (b + 2) s.heap c0 (u, g, fs) H locs) {r : vw_C} (hr : vwCl[ci]? = some r) (hty : (zT z)[t0]? = some (cA, .object r.1)) {i : Nat} {x : Int32} (hx : x = nI i) (hi : i < len) (hlen : len < 1000) (hdg : decode cc pc = .ok (.aastore, 1))
    (kk : ∀ (H1 : Heap) (locs1 : List Loc), GW z (CAt z ix t q b cA len ci) 0 (b + 2) s.heap c0 (u, va_up g i (some (za z (b + 1))), fs) H1 locs1 → W p l e R s m args below meth c H1 locs1 cells slots Q (F0 m (pc + 1) ls rest)) : W p l e R s m args below meth c H locs cells slots Q (F0 m pc ls (.ref (za z (b + 1)) :: .int x :: .ref (za z b) :: rest)) := by
  obtain ⟨ct, hP, hS, hA, hF, hn, hq⟩ := h
  subst hx
  have e1 : (nI i).toNatClampNeg = i := nI_clamp (by omega)
  refine va_astq C0.1 C0.2.1 hK.1 hP (wd_DA hq) hS b t0 (b + 1) ci ((wd_get (by omega)).trans (by rw [hA.2.1])) hty ((wd_get (by omega)).trans (by rw [hA.2.2])) hr (vp_in_nI hi (by omega)) hdg (fun H1 locs1 hP1 hD1 hS1 => kk H1 locs1 ⟨_, ?_, hS1, ⟨UAt.more (X := u.1) (Y := u.2.1) (S := u.2.2.1) (f := u.2.2.2) hA.1 (Nat.le_refl _) _, va_up_self _ _ _, (va_up_ne _ _ (by omega)).trans hA.2.2⟩, hF.up ⟨by omega, by omega⟩, hn, hq⟩)
  rw [e1, wd_set] at hP1; exact hP1
theorem C_put (C0 : Cx p s m args meth c cc nL ret own ws) (hK : QK z s) (h : GW z (CAt z ix t q b cA len ci) 0 (b + 2) s.heap c0 (u, g, fs) H locs) {C : String} {T : u_T} {N : Nat} (hin : ∀ w ∈ u_ws C T N, w ∈ ws) (hcl : vwCl[ci]? = some (C, T, N)) (ty0 : Nat → FieldType) (hty : ∀ k, k < N → parseFieldDescriptor (T k).2.2.1 = some (ty0 k)) (hnm : ∀ a, a < N → ∀ b, b < N → a ≠ b → (T a).2.1 ≠ (T b).2.1) (j : Nat) (hj : j < N) {index : Nat} (hlink : Cond.fieldLink own index (T j).1 (T j).2.1 (T j).2.2.1 ∈ ws) (hfin : (T j).2.2.2 = false) {x : Int32} (hd : parseFieldDescriptor (T j).2.2.1 = some .int) (hl : j < fs.length) (hdg : decode cc pc = .ok (.putfield index, 3))
    (kk : ∀ (H1 : Heap) (locs1 : List Loc), GW z (CAt z ix t q b cA len ci) 0 (b + 2) s.heap c0 (u, g, fs.set j (.int x)) H1 locs1 → W p l e R s m args below meth c H1 locs1 cells slots Q (F0 m (pc + 3) ls rest)) : W p l e R s m args below meth c H locs cells slots Q (F0 m pc ls (.int x :: .ref (za z (b + 1)) :: rest)) :=
  G_put C0 hK h hin ci hcl ty0 hty hnm ⟨by omega, by omega⟩ (fun ct hA => hA.2.2) j hj hlink hfin hd hl (a' := (u, g, fs.set j (.int x))) (fun ct hA => ⟨UAt.more (X := u.1) (Y := u.2.1) (S := u.2.2.1) (f := u.2.2.2) hA.1 (by omega) _, (va_up_ne _ _ (by omega)).trans hA.2.1, va_up_self _ _ _⟩) hdg kk
/-- the land made by hand takes the array over -/
theorem C_sim (C0 : Cx p s m args meth c cc nL ret own ws) (hK : QK z s) (h : GW z (CAt z ix t q b cA len ci) 0 (b + 2) s.heap c0 (u, g, fs) H locs) (hin : ∀ w ∈ u_ws RX3 TX3 3, w ∈ ws) (j : Nat) (hj : j < 2) {index : Nat} (hlink : Cond.fieldLink own index (TX3 j).1 (TX3 j).2.1 (TX3 j).2.2.1 ∈ ws) {At2 : US → (Nat → va_E) → Prop} {u2 : US} (hu : ∀ ct, CAt z ix t q b cA len ci (u, g, fs) ct → At2 u2 (va_up ct 55 (.inr (3, [Value.ref (za z (ix 0)), .ref (za z (ix 1)), .int (qD u.2.2.1)].set j (.ref (za z b)))))) (hdg : decode cc pc = .ok (.putfield index, 3))
    (kk : ∀ (H1 : Heap) (locs1 : List Loc), GW z At2 0 (b + 2) s.heap c0 u2 H1 locs1 → W p l e R s m args below meth c H1 locs1 cells slots Q (F0 m (pc + 3) ls rest)) : W p l e R s m args below meth c H locs cells slots Q (F0 m pc ls (.ref (za z b) :: .ref (za z 55) :: rest)) := by
  obtain ⟨ct, hP, hS, hA, hF, hn, hq⟩ := h
  have h56 := hA.1.2.1.1.1.2.2
  have hf9 : (TX3 j).2.2.2 = false := by rcases (show j = 0 ∨ j = 1 by omega) with rfl | rfl <;> rfl
  have hfit : fits (tyX3 j) (.ref (za z b)) = true := by rcases (show j = 0 ∨ j = 1 by omega) with rfl | rfl <;> rfl
  have hnar : narrow (tyX3 j) (.ref (za z b)) = .ref (za z b) := by rcases (show j = 0 ∨ j = 1 by omega) with rfl | rfl <;> rfl
  refine va_put (fs := [Value.ref (za z (ix 0)), .ref (za z (ix 1)), .int (qD u.2.2.1)]) C0.1 C0.2.1 C0.2.2.2.2.2.1 hin tyX3 tyX3_ok nmX3 C0.2.2.2.2.1 hK.1 hP (wd_DA hq) hS 55 ((wd_get (by omega)).trans (by rw [hA.1.2.1.2.2.2.1])) (ci := 3) rfl j (by omega) (C0.2.2.2.2.2.1 _ hlink) (fun _ h9 => h9) hf9 (tyX3_ok j (by omega)) hnar hfit (show j < 3 by omega) hdg (fun H1 locs1 hP1 hD1 hS1 => kk H1 locs1 ⟨_, ?_, hS1, hu ct hA, hF.up ⟨by omega, by omega⟩, hn, hq⟩)
  rw [wd_set] at hP1; exact hP1
end QNQ
/-- the tanks' array while it is filled -/
def gT (z : QZ) (ix : Nat → Nat) (o i : Nat) : Nat → Option Nat := fun k => if k < i then some (za z (ix (o + k))) else none
theorem gT_0 {z : QZ} {ix : Nat → Nat} {o : Nat} : gT z ix o 0 = fun _ => none := by funext k; unfold gT; rw [if_neg (by omega)]
theorem gT_s {z : QZ} {ix : Nat → Nat} {o i : Nat} : va_up (gT z ix o i) i (some (za z (ix (o + i)))) = gT z ix o (i + 1) := by
  funext k
  by_cases e : k = i
  · subst e; rw [va_up_self]; unfold gT; rw [if_pos (by omega)]
  · rw [va_up_ne _ _ e]; unfold gT
    by_cases h : k < i
    · rw [if_pos h, if_pos (by omega)]
    · rw [if_neg h, if_neg (by omega)]
abbrev rowT (x y v : Int32) : Nat → Int32 := upd (upd (upd (fun _ => 0) 0 x) 1 y) 2 v
abbrev rowP (x y v w : Int32) : Nat → Int32 := upd (upd (upd (upd (fun _ => 0) 0 x) 1 y) 2 v) 3 w
def sBuild (S : QLs) (x y v : Int32) : QLs := st_ (sT S (qt S) (rowT x y v)) (qt S + 1)
def sLay (S : QLs) (x y v w : Int32) : QLs := sp_ (sP S (qp S) (rowP x y v w)) (qp S + 1)
def ixT (ix : Nat → Nat) (t b : Nat) : Nat → Nat := va_up (va_up ix 0 b) (2 + t) (b + 1)
def ixP (ix : Nat → Nat) (q b : Nat) : Nat → Nat := va_up (va_up ix 1 b) (12 + q) (b + 1)
theorem C_T {z : QZ} {ix : Nat → Nat} {t q b : Nat} {X Y S : QLs} {f : Nat → Nat × (Nat → Int32)} {ct : Nat → va_E} {x y v : Int32} (ht : t < 10) (h : CAt z ix t q b (zA z) (t + 1) 4 ((X, Y, S, f), va_up (gT z ix 2 t) t (some (za z (b + 1))), tkV (rowT x y v)) ct) : UAt z (ixT ix t b) (t + 1) q (b + 2) 0 (X, Y, sBuild S x y v, f) (va_up ct 55 (.inr (3, [Value.ref (za z (ix 0)), .ref (za z (ix 1)), .int (qD S)].set 0 (.ref (za z b))))) := by
  obtain ⟨⟨h1, ⟨⟨⟨g1, g2, g3⟩, g4, g5⟩, h3, h4, h5, h6⟩, h7⟩, h8, h9⟩ := h
  have e0 : ixT ix t b 0 = b := by unfold ixT; rw [va_up_ne _ _ (by omega), va_up_self]
  have eT : ixT ix t b (2 + t) = b + 1 := va_up_self _ _ _
  have eo : ∀ a, a ≠ 0 → a ≠ 2 + t → ixT ix t b a = ix a := fun a q1 q2 => by unfold ixT; rw [va_up_ne _ _ q2, va_up_ne _ _ q1]
  have hu : ∀ a, sUsed (t + 1) q a → a ≠ 2 + t → sUsed t q a := fun a q1 q2 => by rcases q1 with q1 | q1; exact Or.inl (by omega); exact Or.inr q1
  have hS3 : qt S = t := h3
  refine ⟨h1.off (fun k hk => va_up_ne _ _ (by omega)), ⟨⟨⟨by omega, g2, by omega⟩, fun a ha => ?_, fun a c ha hc hac => ?_⟩, by show qt S + 1 = t + 1; rw [hS3], h4, ?_, fun a ha => ?_⟩, fun j hj => by omega⟩
  · by_cases q1 : a = 0
    · subst q1; rw [e0]; omega
    · by_cases q2 : a = 2 + t
      · subst q2; rw [eT]; omega
      · rw [eo a q1 q2]; have := g4 a (hu a ha q2); omega
  · by_cases q1 : a = 0
    · subst q1; rw [e0] at hac
      by_cases q3 : c = 0
      · exact q3.symm
      · by_cases q4 : c = 2 + t
        · subst q4; rw [eT] at hac; omega
        · rw [eo c q3 q4] at hac; have := g4 c (hu c hc q4); omega
    · by_cases q2 : a = 2 + t
      · subst q2; rw [eT] at hac
        by_cases q3 : c = 0
        · subst q3; rw [e0] at hac; omega
        · by_cases q4 : c = 2 + t
          · exact q4.symm
          · rw [eo c q3 q4] at hac; have := g4 c (hu c hc q4); omega
      · rw [eo a q1 q2] at hac
        have b1 := g4 a (hu a ha q2)
        by_cases q3 : c = 0
        · subst q3; rw [e0] at hac; omega
        · by_cases q4 : c = 2 + t
          · subst q4; rw [eT] at hac; omega
          · rw [eo c q3 q4] at hac; exact g5 a c (hu a ha q2) (hu c hc q4) hac
  · rw [va_up_self, e0, eo 1 (by omega) (by omega)]; rfl
  · by_cases q1 : a = 0
    · subst q1; rw [e0, va_up_ne _ _ (by omega), h8]
      unfold simV; rw [if_pos rfl]
      refine congrArg (fun g => (.inl (zA z, t + 1, .inr (.inr (.inr (.inr g)))) : va_E)) (funext fun k => ?_)
      show va_up (gT z ix 2 t) t (some (za z (b + 1))) k = _
      by_cases e : k = t
      · subst e; rw [va_up_self, if_pos (by omega), eT]
      · rw [va_up_ne _ _ e]; unfold gT
        by_cases h : k < t
        · rw [if_pos h, if_pos (by omega), eo _ (by omega) (by omega)]
        · rw [if_neg h, if_neg (by omega)]
    · by_cases q2 : a = 2 + t
      · subst q2; rw [eT, va_up_ne _ _ (by omega), h9, simV_T (by omega)]
        show _ = (.inr (4, tkV (va_up (qT S) (qt S) (rowT x y v) t)) : va_E)
        rw [hS3, va_up_self]
      · have b1 := g4 a (hu a ha q2)
        rw [eo a q1 q2, va_up_ne _ _ (by omega), h6 a (hu a ha q2)]
        by_cases q5 : a = 1
        · subst q5
          unfold simV; rw [if_neg (by omega), if_pos rfl, if_neg (by omega), if_pos rfl]
          refine congrArg (fun g => (.inl (zB z, q, .inr (.inr (.inr (.inr g)))) : va_E)) (funext fun k => ?_)
          by_cases h : k < q
          · rw [if_pos h, if_pos h, eo _ (by omega) (by omega)]
          · rw [if_neg h, if_neg h]
        · by_cases h12 : a < 12
          · obtain ⟨j, rfl⟩ : ∃ j, a = 2 + j := ⟨a - 2, by omega⟩
            rw [simV_T (by omega), simV_T (by omega)]
            show _ = (.inr (4, tkV (va_up (qT S) (qt S) (rowT x y v) j)) : va_E)
            rw [hS3, va_up_ne _ _ (by omega)]
          · obtain ⟨j, rfl⟩ : ∃ j, a = 12 + j := ⟨a - 12, by omega⟩
            rw [simV_P, simV_P]; rfl
theorem C_P {z : QZ} {ix : Nat → Nat} {t q b : Nat} {X Y S : QLs} {f : Nat → Nat × (Nat → Int32)} {ct : Nat → va_E} {x y v w : Int32} (ht : q < 14) (h : CAt z ix t q b (zB z) (q + 1) 2 ((X, Y, S, f), va_up (gT z ix 12 q) q (some (za z (b + 1))), ppV (rowP x y v w)) ct) : UAt z (ixP ix q b) t (q + 1) (b + 2) 0 (X, Y, sLay S x y v w, f) (va_up ct 55 (.inr (3, [Value.ref (za z (ix 0)), .ref (za z (ix 1)), .int (qD S)].set 1 (.ref (za z b))))) := by
  obtain ⟨⟨h1, ⟨⟨⟨g1, g2, g3⟩, g4, g5⟩, h3, h4, h5, h6⟩, h7⟩, h8, h9⟩ := h
  have e0 : ixP ix q b 1 = b := by unfold ixP; rw [va_up_ne _ _ (by omega), va_up_self]
  have eT : ixP ix q b (12 + q) = b + 1 := va_up_self _ _ _
  have eo : ∀ a, a ≠ 1 → a ≠ 12 + q → ixP ix q b a = ix a := fun a q1 q2 => by unfold ixP; rw [va_up_ne _ _ q2, va_up_ne _ _ q1]
  have hu : ∀ a, sUsed t (q + 1) a → a ≠ 12 + q → sUsed t q a := fun a q1 q2 => by rcases q1 with q1 | q1; exact Or.inl q1; exact Or.inr (by omega)
  have hS3 : qp S = q := h4
  refine ⟨h1.off (fun k hk => va_up_ne _ _ (by omega)), ⟨⟨⟨g1, by omega, by omega⟩, fun a ha => ?_, fun a c ha hc hac => ?_⟩, h3, by show qp S + 1 = q + 1; rw [hS3], ?_, fun a ha => ?_⟩, fun j hj => by omega⟩
  · by_cases q1 : a = 1
    · subst q1; rw [e0]; omega
    · by_cases q2 : a = 12 + q
      · subst q2; rw [eT]; omega
      · rw [eo a q1 q2]; have := g4 a (hu a ha q2); omega
  · by_cases q1 : a = 1
    · subst q1; rw [e0] at hac
      by_cases q3 : c = 1
      · exact q3.symm
      · by_cases q4 : c = 12 + q
        · subst q4; rw [eT] at hac; omega
        · rw [eo c q3 q4] at hac; have := g4 c (hu c hc q4); omega
    · by_cases q2 : a = 12 + q
      · subst q2; rw [eT] at hac
        by_cases q3 : c = 1
        · subst q3; rw [e0] at hac; omega
        · by_cases q4 : c = 12 + q
          · exact q4.symm
          · rw [eo c q3 q4] at hac; have := g4 c (hu c hc q4); omega
      · rw [eo a q1 q2] at hac
        have b1 := g4 a (hu a ha q2)
        by_cases q3 : c = 1
        · subst q3; rw [e0] at hac; omega
        · by_cases q4 : c = 12 + q
          · subst q4; rw [eT] at hac; omega
          · rw [eo c q3 q4] at hac; exact g5 a c (hu a ha q2) (hu c hc q4) hac
  · rw [va_up_self, e0, eo 0 (by omega) (by omega)]; rfl
  · by_cases q1 : a = 1
    · subst q1; rw [e0, va_up_ne _ _ (by omega), h8]
      unfold simV; rw [if_neg (by omega), if_pos rfl]
      refine congrArg (fun g => (.inl (zB z, q + 1, .inr (.inr (.inr (.inr g)))) : va_E)) (funext fun k => ?_)
      show va_up (gT z ix 12 q) q (some (za z (b + 1))) k = _
      by_cases e : k = q
      · subst e; rw [va_up_self, if_pos (by omega), eT]
      · rw [va_up_ne _ _ e]; unfold gT
        by_cases h : k < q
        · rw [if_pos h, if_pos (by omega), eo _ (by omega) (by omega)]
        · rw [if_neg h, if_neg (by omega)]
    · by_cases q2 : a = 12 + q
      · subst q2; rw [eT, va_up_ne _ _ (by omega), h9, simV_P]
        show _ = (.inr (2, ppV (va_up (qP S) (qp S) (rowP x y v w) q)) : va_E)
        rw [hS3, va_up_self]
      · have b1 := g4 a (hu a ha q2)
        rw [eo a q1 q2, va_up_ne _ _ (by omega), h6 a (hu a ha q2)]
        by_cases q5 : a = 0
        · subst q5
          unfold simV; rw [if_pos rfl, if_pos rfl]
          refine congrArg (fun g => (.inl (zA z, t, .inr (.inr (.inr (.inr g)))) : va_E)) (funext fun k => ?_)
          by_cases h : k < t
          · rw [if_pos h, if_pos h, eo _ (by omega) (by omega)]
          · rw [if_neg h, if_neg h]
        · by_cases h12 : a < 12
          · obtain ⟨j, rfl⟩ : ∃ j, a = 2 + j := ⟨a - 2, by omega⟩
            rw [simV_T (by omega), simV_T (by omega)]; rfl
          · obtain ⟨j, rfl⟩ : ∃ j, a = 12 + j := ⟨a - 12, by omega⟩
            rw [simV_P, simV_P]
            show _ = (.inr (2, ppV (va_up (qP S) (qp S) (rowP x y v w) j)) : va_E)
            rw [hS3, va_up_ne _ _ (by omega)]
end
section
/-! PART 68: constructors, Sim.build, Sim.lay -/
set_option maxHeartbeats 4000000 in
theorem c_X4_init (l : Launch) : IN0 l yX4_init wsX4_init ({ frames := 1, cells := 0, slots := 0, locals := 40 } : Room) := by
  intro z w a sz
  refine Met.ofW (cc := cX4_init) (maxL := 1) (ret := none) (by decide) rfl ?_
  intro p e s m args below meth c s₁ B hml hv
  obtain ⟨rfl, hsz, hP, hK, hD0⟩ := hv
  have C0 : Cx p s m (([.ref a] : List Value).toArray) meth c cX4_init 1 none yX4_init.cls wsX4_init := ⟨B.exec, B.bytes, B.returns, hml, findClass_of_methodNamed B.named, atoms_spec (ws := wsX4_init) B.pre, B.notSynchronized⟩
  obtain ⟨hx, hb, hr, hml, hown, hts, hlocks⟩ := id C0
  subst hsz
  have hS : va_S (va_A w s.heap.size) s.heap s.heap [] := va_S.rf
  have hl := lv_entry ([.ref a]) (n := 1) (Nat.le_of_ble_eq_true rfl)
  rw [lg_entry_eq]
  generalize (lg_sl ([.ref a]) ++ List.replicate (1 - (lg_sl ([.ref a])).length) Slot.unset).toArray = ls at hl ⊢
  have hl : lv_has ls 1 [(0, .ref a)] := hl
  refine lv_aload_n hx hb dX4_init_0 rfl (lv_at hl 0 rfl) ?_
  refine W.objInit hx hb hown (hts (.methodLink RX4 1 objectInit) (by decide +kernel)) (hts (.instanceMethod objectInit) (by decide +kernel)) (hts (.code objectInit ⟨#[0xb1]⟩ 1 none) (by decide +kernel)) rfl (by rw [hml]; exact hl.1) rfl dX4_init_1 (Nat.le_of_ble_eq_true rfl) (Nat.le_of_ble_eq_true rfl) ?_
  refine W.eq (g2 := F0 m 4 ls []) rfl ?_
  exact W.vret hx hb hr (fun t ht hW => ⟨⟨(), rfl, trivial, by show va_P _ _ _ t.heap; rw [ht]; exact hP⟩, hS.F ht⟩) hS.2.2 dX4_init_4 hlocks
set_option maxHeartbeats 4000000 in
theorem c_X2_init (l : Launch) : IN0 l yX2_init wsX2_init ({ frames := 1, cells := 0, slots := 0, locals := 40 } : Room) := by
  intro z w a sz
  refine Met.ofW (cc := cX2_init) (maxL := 1) (ret := none) (by decide) rfl ?_
  intro p e s m args below meth c s₁ B hml hv
  obtain ⟨rfl, hsz, hP, hK, hD0⟩ := hv
  have C0 : Cx p s m (([.ref a] : List Value).toArray) meth c cX2_init 1 none yX2_init.cls wsX2_init := ⟨B.exec, B.bytes, B.returns, hml, findClass_of_methodNamed B.named, atoms_spec (ws := wsX2_init) B.pre, B.notSynchronized⟩
  obtain ⟨hx, hb, hr, hml, hown, hts, hlocks⟩ := id C0
  subst hsz
  have hS : va_S (va_A w s.heap.size) s.heap s.heap [] := va_S.rf
  have hl := lv_entry ([.ref a]) (n := 1) (Nat.le_of_ble_eq_true rfl)
  rw [lg_entry_eq]
  generalize (lg_sl ([.ref a]) ++ List.replicate (1 - (lg_sl ([.ref a])).length) Slot.unset).toArray = ls at hl ⊢
  have hl : lv_has ls 1 [(0, .ref a)] := hl
  refine lv_aload_n hx hb dX2_init_0 rfl (lv_at hl 0 rfl) ?_
  refine W.objInit hx hb hown (hts (.methodLink RX2 1 objectInit) (by decide +kernel)) (hts (.instanceMethod objectInit) (by decide +kernel)) (hts (.code objectInit ⟨#[0xb1]⟩ 1 none) (by decide +kernel)) rfl (by rw [hml]; exact hl.1) rfl dX2_init_1 (Nat.le_of_ble_eq_true rfl) (Nat.le_of_ble_eq_true rfl) ?_
  refine W.eq (g2 := F0 m 4 ls []) rfl ?_
  exact W.vret hx hb hr (fun t ht hW => ⟨⟨(), rfl, trivial, by show va_P _ _ _ t.heap; rw [ht]; exact hP⟩, hS.F ht⟩) hS.2.2 dX2_init_4 hlocks
set_option maxHeartbeats 4000000 in
set_option maxRecDepth 100000 in
theorem c_X3_build {l : Launch} {z : QZ} {ix : Nat → Nat} {X Y S : QLs} {f : Nat → Nat × (Nat → Int32)} (ht : qt S < 10) (x y v : Int32) : NV l yX3_build wsX3_build ({ frames := 2, cells := 2, slots := 20, locals := 62 } : Room) z [.ref (za z 55), .int x, .int y, .int v] 2 20 ix (X, Y, S, f) (fun v9 => v9.2.2 = (X, Y, sBuild S x y v, f)) := by
  intro ct sz hq9 hat
  refine n_entry (cc := cX3_build) (maxL := 6) (ret := none) (by decide) rfl (Nat.le_of_ble_eq_true rfl) hq9 hat ?_
  intro p e s m below meth c ls C0 hK hsz h hl
  subst hsz
  obtain ⟨hx, hb, hr, hml, hown, hts, hlocks⟩ := id C0
  have hix0 := (gw_ix h).1
  obtain ⟨⟨h10, h14, h56⟩, -, -⟩ := id hix0
  have hin3 : ∀ w ∈ u_ws RX3 TX3 3, w ∈ wsX3_build := by decide +kernel
  have hin4 : ∀ w ∈ u_ws RX4 TX4 8, w ∈ wsX3_build := by decide +kernel
  have hl : lv_has ls 6 [(0, .ref (za z 55)), (1, .int x), (2, .int y), (3, .int v)] := hl
  refine lv_aload_n hx hb dX3_build_0 rfl (lv_at hl 0 rfl) ?_
  refine U_gO C0 hK h hin3 0 (by decide) (by decide +kernel) rfl dX3_build_1 ?_
  refine U_lT C0 hK h dX3_build_4 ?_
  refine lv_iconst (v := 1) hx hb dX3_build_5 (by decide) ?_
  refine lv_iadd hx hb dX3_build_6 ?_
  refine B_new (t0 := 2) C0 hK h rfl hK.2.2.2.1.1 rfl (by decide +kernel) (n := qt S + 1) (q_add rfl rfl) (by omega) (Nat.le_of_ble_eq_true rfl) (by show 0 + (qt S + 1) ≤ 20; omega) dX3_build_7 (fun z1 c0 H hX1 hzn hK h => ?_)
  have e55 := hX1.2.2.1 55 (by omega)
  rw [← e55] at hl
  refine lv_astore (lv' := [(4, .ref (za z1 (zn z))), (0, .ref (za z1 55)), (1, .int x), (2, .int y), (3, .int v)]) hx hb dX3_build_10 hl (by decide) rfl (fun ls hl => ?_)
  refine lv_iconst (v := 0) hx hb dX3_build_12 (by decide) ?_
  refine lv_istore (lv' := [(5, .int 0), (4, .ref (za z1 (zn z))), (0, .ref (za z1 55)), (1, .int x), (2, .int y), (3, .int v)]) hx hb dX3_build_13 hl (by decide) rfl (fun ls hl => ?_)
  have hixB : ∀ a, sUsed (qt S) (qp S) a → 56 ≤ ix a ∧ ix a < zn z := fun a ha => hix0.2.1 a ha
  have L15 : ∀ (d i : Nat), i + d = qt S → ∀ (H : Heap) (locs : List Loc) (ls : Array Slot), GW z1 (BAt z1 ix (qt S) (qp S) (zn z) (zA z1) (qt S + 1)) 0 (zn z + 1) s.heap c0 ((X, Y, S, f), gT z1 ix 2 i) H locs → lv_has ls 6 [(5, .int (nI i)), (4, .ref (za z1 (zn z))), (0, .ref (za z1 55)), (1, .int x), (2, .int y), (3, .int v)] → W p l e ({ frames := 2, cells := 2, slots := 20, locals := 62 } : Room) s m ([Value.ref (za z 55), .int x, .int y, .int v]).toArray below meth c H locs (0 + 1) (0 + (qt S + 1)) (MQ below (va_Qv (fun v8 : QZ × (Nat → Nat) × US => XZ s.heap.size z v8.1 ∧ (fun v9 : QZ × (Nat → Nat) × US => v9.2.2 = (X, Y, sBuild S x y v, f)) v8) UEnd (qA (zn z) (za z) s.heap.size)) ([Value.ref (za z 55), .int x, .int y, .int v]).toArray s 2 20 (qA (zn z) (za z) s.heap.size)) (F0 m 15 ls []) := by
    intro d
    induction d with
    | zero =>
      intro i hi H locs ls h hl
      have hE : i = qt S := by omega
      refine lv_iload hx hb dX3_build_15 (lv_at hl 0 rfl) ?_
      refine lv_aload_n hx hb dX3_build_17 rfl (lv_at hl 2 rfl) ?_
      refine U_gO C0 hK (B_rd h) hin3 0 (by decide) (by decide +kernel) rfl dX3_build_18 ?_
      refine U_lT C0 hK (B_rd h) dX3_build_21 ?_
      refine lv_icmp_ge (tgt := 43) hx hb dX3_build_22 (by decide) (fun _ => ?_) (fun q9 => absurd (nI_le (by omega) (by omega)) q9)
      refine C_new (ci := 4) (fs := tkV (fun _ => 0)) C0 hK h hzn hin4 tyX4 tyX4_ok (by decide +kernel) (by decide +kernel) (by decide +kernel) rfl (fun j hj => by rcases (show j = 0 ∨ j = 1 ∨ j = 2 ∨ j = 3 ∨ j = 4 ∨ j = 5 ∨ j = 6 ∨ j = 7 by omega) with rfl | rfl | rfl | rfl | rfl | rfl | rfl | rfl <;> rfl) (Nat.le_of_ble_eq_true rfl) (by show 0 + (qt S + 1) + 8 ≤ 20; omega) dX3_build_43 (fun z2 c2 H hX2 hzn2 hK2 h => ?_)
      have e55b := hX2.2.2.1 55 (by omega)
      have eb := hX2.2.2.1 (zn z) (by omega)
      rw [← e55b, ← eb] at hl
      have eA : zA z1 = zA z2 := hX2.1.2.2.2.1.symm
      have eg : gT z1 ix 2 i = gT z2 ix 2 i := by
        funext k; unfold gT; by_cases hk : k < i
        · rw [if_pos hk, if_pos hk, hX2.2.2.1 _ (by have := (gw_ix (C_rd h)).1.2.1 _ (suT (show k < qt S by omega)); have := hixB _ (suT (show k < qt S by omega)); omega)]
        · rw [if_neg hk, if_neg hk]
      rw [eA, eg] at h
      refine lv_dup hx hb dX3_build_46 rfl ?_
      refine I_call C0 hK2 h (c_X4_init l) gX3_build_X4_init_n33 rfl rfl rfl hK2.2.2.2.2.1 (by decide +kernel) (by decide +kernel) rfl (by decide +kernel) ⟨Nat.le_of_ble_eq_true rfl, Nat.le_of_ble_eq_true rfl⟩ hl.1 (Nat.le_of_ble_eq_true rfl) ⟨Nat.le_of_ble_eq_true rfl, by show 0 + (qt S + 1) + 8 + 0 ≤ 20; omega⟩ dX3_build_47 (fun H locs h => ?_)
      refine lv_astore (lv' := [(5, .ref (za z2 (zn z + 1))), (4, .ref (za z2 (zn z))), (0, .ref (za z2 55)), (1, .int x), (2, .int y), (3, .int v)]) hx hb dX3_build_50 hl (by decide) rfl (fun ls hl => ?_)
      refine lv_aload hx hb dX3_build_52 (lv_at hl 0 rfl) ?_
      refine lv_iload_n hx hb dX3_build_54 rfl (lv_at hl 3 rfl) ?_
      refine C_put C0 hK2 h hin4 rfl tyX4 tyX4_ok nmX4 0 (by decide) (by decide +kernel) rfl (tyX4_ok 0 (by decide)) (show 0 < 8 by decide) dX3_build_55 (fun H locs h => ?_)
      refine lv_aload hx hb dX3_build_58 (lv_at hl 0 rfl) ?_
      refine lv_iload_n hx hb dX3_build_60 rfl (lv_at hl 4 rfl) ?_
      refine C_put C0 hK2 h hin4 rfl tyX4 tyX4_ok nmX4 1 (by decide) (by decide +kernel) rfl (tyX4_ok 1 (by decide)) (show 1 < 8 by decide) dX3_build_61 (fun H locs h => ?_)
      refine lv_aload hx hb dX3_build_64 (lv_at hl 0 rfl) ?_
      refine lv_iload_n hx hb dX3_build_66 rfl (lv_at hl 5 rfl) ?_
      refine C_put C0 hK2 h hin4 rfl tyX4 tyX4_ok nmX4 2 (by decide) (by decide +kernel) rfl (tyX4_ok 2 (by decide)) (show 2 < 8 by decide) dX3_build_67 (fun H locs h => ?_)
      refine lv_aload hx hb dX3_build_70 (lv_at hl 1 rfl) ?_
      refine lv_aload_n hx hb dX3_build_72 rfl (lv_at hl 2 rfl) ?_
      refine U_gO C0 hK2 (C_rd h) hin3 0 (by decide) (by decide +kernel) rfl dX3_build_73 ?_
      refine U_lT C0 hK2 (C_rd h) dX3_build_76 ?_
      refine lv_aload hx hb dX3_build_77 (lv_at hl 0 rfl) ?_
      refine C_st (t0 := 2) C0 hK2 h (r := (RX4, TX4, 8)) rfl rfl (i := qt S) rfl (by omega) (by omega) dX3_build_79 (fun H locs h => ?_)
      refine lv_aload_n hx hb dX3_build_80 rfl (lv_at hl 2 rfl) ?_
      refine lv_aload hx hb dX3_build_81 (lv_at hl 1 rfl) ?_
      have hrow : List.set (List.set (List.set (tkV (fun _ => (0 : Int32))) 0 (.int x)) 1 (.int y)) 2 (.int v) = tkV (rowT x y v) := by rw [tkV_set (by decide), tkV_set (by decide), tkV_set (by decide)]
      rw [hrow, hE] at h
      refine C_sim C0 hK2 h hin3 0 (by decide) (by decide +kernel) (At2 := UAt z2 (ixT ix (qt S) (zn z)) (qt S + 1) (qp S) (zn z + 2) 0) (u2 := (X, Y, sBuild S x y v, f)) (fun ct hA => C_T ht hA) dX3_build_83 (fun H locs h => ?_)
      have h : GN z2 (ixT ix (qt S) (zn z)) s.heap c2 (X, Y, sBuild S x y v, f) H locs := by show GW z2 (UAt z2 _ _ _ (zn z2) 0) 0 (zn z2 + 0) _ _ _ _ _; rw [hzn2]; exact h
      exact N_vret C0 hK2 (hX1.tr hX2 (Nat.le_refl _)) h rfl (Nat.le_of_ble_eq_true rfl) (by show 0 + (qt S + 1) + 8 + 0 ≤ 20; omega) dX3_build_86
    | succ d ih =>
      intro i hi H locs ls h hl
      have hE : i < qt S := by omega
      refine lv_iload hx hb dX3_build_15 (lv_at hl 0 rfl) ?_
      refine lv_aload_n hx hb dX3_build_17 rfl (lv_at hl 2 rfl) ?_
      refine U_gO C0 hK (B_rd h) hin3 0 (by decide) (by decide +kernel) rfl dX3_build_18 ?_
      refine U_lT C0 hK (B_rd h) dX3_build_21 ?_
      refine lv_icmp_ge (tgt := 43) hx hb dX3_build_22 (by decide) (fun q9 => absurd q9 (nI_ge (by omega) (by omega))) (fun _ => ?_)
      refine lv_aload hx hb dX3_build_25 (lv_at hl 1 rfl) ?_
      refine lv_iload hx hb dX3_build_27 (lv_at hl 0 rfl) ?_
      refine lv_aload_n hx hb dX3_build_29 rfl (lv_at hl 2 rfl) ?_
      refine U_gO C0 hK (B_rd h) hin3 0 (by decide) (by decide +kernel) rfl dX3_build_30 ?_
      refine lv_iload hx hb dX3_build_33 (lv_at hl 0 rfl) ?_
      refine U_aT C0 hK (B_rd h) (i := i) rfl hE dX3_build_35 ?_
      refine B_st (t0 := 2) (k := ix (2 + i)) C0 hK h (r := (RX4, TX4, 8)) rfl rfl (by have := hixB _ (suT hE); omega) (fun ct hA => (hA.2.1.2.2.2.2 _ (suT hE)).trans (simV_T (by omega))) (i := i) rfl (by omega) (by omega) dX3_build_36 (fun H locs h => ?_)
      rw [gT_s] at h
      refine lv_iinc (v := nI (i + 1)) (lv' := [(5, .int (nI (i + 1))), (4, .ref (za z1 (zn z))), (0, .ref (za z1 55)), (1, .int x), (2, .int y), (3, .int v)]) hx hb dX3_build_37 hl (k := 0) rfl (q_inc i 1) (by decide) rfl (fun ls hl => ?_)
      refine lv_goto (tgt := 15) hx hb dX3_build_40 (by decide) ?_
      exact ih (i + 1) (by omega) _ _ _ h hl
  exact L15 (qt S) 0 (by omega) _ _ _ (by rw [gT_0, hX1.1.2.2.2.1]; exact h) hl
set_option maxHeartbeats 4000000 in
set_option maxRecDepth 100000 in
theorem c_X3_lay {l : Launch} {z : QZ} {ix : Nat → Nat} {X Y S : QLs} {f : Nat → Nat × (Nat → Int32)} (ht : qp S < 14) (x y v w : Int32) : NV l yX3_lay wsX3_lay ({ frames := 2, cells := 2, slots := 24, locals := 62 } : Room) z [.ref (za z 55), .int x, .int y, .int v, .int w] 2 24 ix (X, Y, S, f) (fun v9 => v9.2.2 = (X, Y, sLay S x y v w, f)) := by
  intro ct sz hq9 hat
  refine n_entry (cc := cX3_lay) (maxL := 7) (ret := none) (by decide) rfl (Nat.le_of_ble_eq_true rfl) hq9 hat ?_
  intro p e s m below meth c ls C0 hK hsz h hl
  subst hsz
  obtain ⟨hx, hb, hr, hml, hown, hts, hlocks⟩ := id C0
  have hix0 := (gw_ix h).1
  obtain ⟨⟨h10, h14, h56⟩, -, -⟩ := id hix0
  have hin3 : ∀ w ∈ u_ws RX3 TX3 3, w ∈ wsX3_lay := by decide +kernel
  have hin2 : ∀ w ∈ u_ws RX2 TX2 9, w ∈ wsX3_lay := by decide +kernel
  have hl : lv_has ls 7 [(0, .ref (za z 55)), (1, .int x), (2, .int y), (3, .int v), (4, .int w)] := hl
  refine lv_aload_n hx hb dX3_lay_0 rfl (lv_at hl 0 rfl) ?_
  refine U_gO C0 hK h hin3 1 (by decide) (by decide +kernel) rfl dX3_lay_1 ?_
  refine U_lP C0 hK h dX3_lay_4 ?_
  refine lv_iconst (v := 1) hx hb dX3_lay_5 (by decide) ?_
  refine lv_iadd hx hb dX3_lay_6 ?_
  refine B_new (t0 := 3) C0 hK h rfl hK.2.2.2.1.2 rfl (by decide +kernel) (n := qp S + 1) (q_add rfl rfl) (by omega) (Nat.le_of_ble_eq_true rfl) (by show 0 + (qp S + 1) ≤ 24; omega) dX3_lay_7 (fun z1 c0 H hX1 hzn hK h => ?_)
  have e55 := hX1.2.2.1 55 (by omega)
  rw [← e55] at hl
  refine lv_astore (lv' := [(5, .ref (za z1 (zn z))), (0, .ref (za z1 55)), (1, .int x), (2, .int y), (3, .int v), (4, .int w)]) hx hb dX3_lay_10 hl (by decide) rfl (fun ls hl => ?_)
  refine lv_iconst (v := 0) hx hb dX3_lay_12 (by decide) ?_
  refine lv_istore (lv' := [(6, .int 0), (5, .ref (za z1 (zn z))), (0, .ref (za z1 55)), (1, .int x), (2, .int y), (3, .int v), (4, .int w)]) hx hb dX3_lay_13 hl (by decide) rfl (fun ls hl => ?_)
  have hixB : ∀ a, sUsed (qt S) (qp S) a → 56 ≤ ix a ∧ ix a < zn z := fun a ha => hix0.2.1 a ha
  have L15 : ∀ (d i : Nat), i + d = qp S → ∀ (H : Heap) (locs : List Loc) (ls : Array Slot), GW z1 (BAt z1 ix (qt S) (qp S) (zn z) (zB z1) (qp S + 1)) 0 (zn z + 1) s.heap c0 ((X, Y, S, f), gT z1 ix 12 i) H locs → lv_has ls 7 [(6, .int (nI i)), (5, .ref (za z1 (zn z))), (0, .ref (za z1 55)), (1, .int x), (2, .int y), (3, .int v), (4, .int w)] → W p l e ({ frames := 2, cells := 2, slots := 24, locals := 62 } : Room) s m ([Value.ref (za z 55), .int x, .int y, .int v, .int w]).toArray below meth c H locs (0 + 1) (0 + (qp S + 1)) (MQ below (va_Qv (fun v8 : QZ × (Nat → Nat) × US => XZ s.heap.size z v8.1 ∧ (fun v9 : QZ × (Nat → Nat) × US => v9.2.2 = (X, Y, sLay S x y v w, f)) v8) UEnd (qA (zn z) (za z) s.heap.size)) ([Value.ref (za z 55), .int x, .int y, .int v, .int w]).toArray s 2 24 (qA (zn z) (za z) s.heap.size)) (F0 m 15 ls []) := by
    intro d
    induction d with
    | zero =>
      intro i hi H locs ls h hl
      have hE : i = qp S := by omega
      refine lv_iload hx hb dX3_lay_15 (lv_at hl 0 rfl) ?_
      refine lv_aload_n hx hb dX3_lay_17 rfl (lv_at hl 2 rfl) ?_
      refine U_gO C0 hK (B_rd h) hin3 1 (by decide) (by decide +kernel) rfl dX3_lay_18 ?_
      refine U_lP C0 hK (B_rd h) dX3_lay_21 ?_
      refine lv_icmp_ge (tgt := 43) hx hb dX3_lay_22 (by decide) (fun _ => ?_) (fun q9 => absurd (nI_le (by omega) (by omega)) q9)
      refine C_new (ci := 2) (fs := ppV (fun _ => 0)) C0 hK h hzn hin2 tyX2 tyX2_ok (by decide +kernel) (by decide +kernel) (by decide +kernel) rfl (fun j hj => by rcases (show j = 0 ∨ j = 1 ∨ j = 2 ∨ j = 3 ∨ j = 4 ∨ j = 5 ∨ j = 6 ∨ j = 7 ∨ j = 8 by omega) with rfl | rfl | rfl | rfl | rfl | rfl | rfl | rfl | rfl <;> rfl) (Nat.le_of_ble_eq_true rfl) (by show 0 + (qp S + 1) + 9 ≤ 24; omega) dX3_lay_43 (fun z2 c2 H hX2 hzn2 hK2 h => ?_)
      have e55b := hX2.2.2.1 55 (by omega)
      have eb := hX2.2.2.1 (zn z) (by omega)
      rw [← e55b, ← eb] at hl
      have eA : zB z1 = zB z2 := hX2.1.2.2.2.2.symm
      have eg : gT z1 ix 12 i = gT z2 ix 12 i := by
        funext k; unfold gT; by_cases hk : k < i
        · rw [if_pos hk, if_pos hk, hX2.2.2.1 _ (by have := (gw_ix (C_rd h)).1.2.1 _ (suP (show k < qp S by omega)); have := hixB _ (suP (show k < qp S by omega)); omega)]
        · rw [if_neg hk, if_neg hk]
      rw [eA, eg] at h
      refine lv_dup hx hb dX3_lay_46 rfl ?_
      refine I_call C0 hK2 h (c_X2_init l) gX3_lay_X2_init_n43 rfl rfl rfl hK2.2.2.2.2.2.1 (by decide +kernel) (by decide +kernel) rfl (by decide +kernel) ⟨Nat.le_of_ble_eq_true rfl, Nat.le_of_ble_eq_true rfl⟩ hl.1 (Nat.le_of_ble_eq_true rfl) ⟨Nat.le_of_ble_eq_true rfl, by show 0 + (qp S + 1) + 9 + 0 ≤ 24; omega⟩ dX3_lay_47 (fun H locs h => ?_)
      refine lv_astore (lv' := [(6, .ref (za z2 (zn z + 1))), (5, .ref (za z2 (zn z))), (0, .ref (za z2 55)), (1, .int x), (2, .int y), (3, .int v), (4, .int w)]) hx hb dX3_lay_50 hl (by decide) rfl (fun ls hl => ?_)
      refine lv_aload hx hb dX3_lay_52 (lv_at hl 0 rfl) ?_
      refine lv_iload_n hx hb dX3_lay_54 rfl (lv_at hl 3 rfl) ?_
      refine C_put C0 hK2 h hin2 rfl tyX2 tyX2_ok nmX2 0 (by decide) (by decide +kernel) rfl (tyX2_ok 0 (by decide)) (show 0 < 9 by decide) dX3_lay_55 (fun H locs h => ?_)
      refine lv_aload hx hb dX3_lay_58 (lv_at hl 0 rfl) ?_
      refine lv_iload_n hx hb dX3_lay_60 rfl (lv_at hl 4 rfl) ?_
      refine C_put C0 hK2 h hin2 rfl tyX2 tyX2_ok nmX2 1 (by decide) (by decide +kernel) rfl (tyX2_ok 1 (by decide)) (show 1 < 9 by decide) dX3_lay_61 (fun H locs h => ?_)
      refine lv_aload hx hb dX3_lay_64 (lv_at hl 0 rfl) ?_
      refine lv_iload_n hx hb dX3_lay_66 rfl (lv_at hl 5 rfl) ?_
      refine C_put C0 hK2 h hin2 rfl tyX2 tyX2_ok nmX2 2 (by decide) (by decide +kernel) rfl (tyX2_ok 2 (by decide)) (show 2 < 9 by decide) dX3_lay_67 (fun H locs h => ?_)
      refine lv_aload hx hb dX3_lay_70 (lv_at hl 0 rfl) ?_
      refine lv_iload hx hb dX3_lay_72 (lv_at hl 6 rfl) ?_
      refine C_put C0 hK2 h hin2 rfl tyX2 tyX2_ok nmX2 3 (by decide) (by decide +kernel) rfl (tyX2_ok 3 (by decide)) (show 3 < 9 by decide) dX3_lay_74 (fun H locs h => ?_)
      refine lv_aload hx hb dX3_lay_77 (lv_at hl 1 rfl) ?_
      refine lv_aload_n hx hb dX3_lay_79 rfl (lv_at hl 2 rfl) ?_
      refine U_gO C0 hK2 (C_rd h) hin3 1 (by decide) (by decide +kernel) rfl dX3_lay_80 ?_
      refine U_lP C0 hK2 (C_rd h) dX3_lay_83 ?_
      refine lv_aload hx hb dX3_lay_84 (lv_at hl 0 rfl) ?_
      refine C_st (t0 := 3) C0 hK2 h (r := (RX2, TX2, 9)) rfl rfl (i := qp S) rfl (by omega) (by omega) dX3_lay_86 (fun H locs h => ?_)
      refine lv_aload_n hx hb dX3_lay_87 rfl (lv_at hl 2 rfl) ?_
      refine lv_aload hx hb dX3_lay_88 (lv_at hl 1 rfl) ?_
      have hrow : List.set (List.set (List.set (List.set (ppV (fun _ => (0 : Int32))) 0 (.int x)) 1 (.int y)) 2 (.int v)) 3 (.int w) = ppV (rowP x y v w) := by rw [ppV_set (by decide), ppV_set (by decide), ppV_set (by decide), ppV_set (by decide)]; rfl
      rw [hrow, hE] at h
      refine C_sim C0 hK2 h hin3 1 (by decide) (by decide +kernel) (At2 := UAt z2 (ixP ix (qp S) (zn z)) (qt S) (qp S + 1) (zn z + 2) 0) (u2 := (X, Y, sLay S x y v w, f)) (fun ct hA => C_P ht hA) dX3_lay_90 (fun H locs h => ?_)
      have h : GN z2 (ixP ix (qp S) (zn z)) s.heap c2 (X, Y, sLay S x y v w, f) H locs := by show GW z2 (UAt z2 _ _ _ (zn z2) 0) 0 (zn z2 + 0) _ _ _ _ _; rw [hzn2]; exact h
      exact N_vret C0 hK2 (hX1.tr hX2 (Nat.le_refl _)) h rfl (Nat.le_of_ble_eq_true rfl) (by show 0 + (qp S + 1) + 9 + 0 ≤ 24; omega) dX3_lay_93
    | succ d ih =>
      intro i hi H locs ls h hl
      have hE : i < qp S := by omega
      refine lv_iload hx hb dX3_lay_15 (lv_at hl 0 rfl) ?_
      refine lv_aload_n hx hb dX3_lay_17 rfl (lv_at hl 2 rfl) ?_
      refine U_gO C0 hK (B_rd h) hin3 1 (by decide) (by decide +kernel) rfl dX3_lay_18 ?_
      refine U_lP C0 hK (B_rd h) dX3_lay_21 ?_
      refine lv_icmp_ge (tgt := 43) hx hb dX3_lay_22 (by decide) (fun q9 => absurd q9 (nI_ge (by omega) (by omega))) (fun _ => ?_)
      refine lv_aload hx hb dX3_lay_25 (lv_at hl 1 rfl) ?_
      refine lv_iload hx hb dX3_lay_27 (lv_at hl 0 rfl) ?_
      refine lv_aload_n hx hb dX3_lay_29 rfl (lv_at hl 2 rfl) ?_
      refine U_gO C0 hK (B_rd h) hin3 1 (by decide) (by decide +kernel) rfl dX3_lay_30 ?_
      refine lv_iload hx hb dX3_lay_33 (lv_at hl 0 rfl) ?_
      refine U_aP C0 hK (B_rd h) (i := i) rfl hE dX3_lay_35 ?_
      refine B_st (t0 := 3) (k := ix (12 + i)) C0 hK h (r := (RX2, TX2, 9)) rfl rfl (by have := hixB _ (suP hE); omega) (fun ct hA => (hA.2.1.2.2.2.2 _ (suP hE)).trans simV_P) (i := i) rfl (by omega) (by omega) dX3_lay_36 (fun H locs h => ?_)
      rw [gT_s] at h
      refine lv_iinc (v := nI (i + 1)) (lv' := [(6, .int (nI (i + 1))), (5, .ref (za z1 (zn z))), (0, .ref (za z1 55)), (1, .int x), (2, .int y), (3, .int v), (4, .int w)]) hx hb dX3_lay_37 hl (k := 0) rfl (q_inc i 1) (by decide) rfl (fun ls hl => ?_)
      refine lv_goto (tgt := 15) hx hb dX3_lay_40 (by decide) ?_
      exact ih (i + 1) (by omega) _ _ _ h hl
  exact L15 (qp S) 0 (by omega) _ _ _ (by rw [gT_0, hX1.1.2.2.2.2]; exact h) hl
end
