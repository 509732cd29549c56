section
-- ===== PART A: goes FIRST, ahead of the names: the tables' words, and 'selects' of the private methods out of them =====
/-- a private method of a class that the tables say can be made, by its rows of tables_1 -/
def lw_okq (q : MethodName × Nat) : Prop := (q.1.cls ≠ "java/lang/invoke/MethodHandle" ∧ q.1.cls ≠ "java/lang/invoke/VarHandle") ∧ Cond.instantiable q.1.cls q.2 ∈ tables_1 ∧ Cond.privateMethod q.1 ∈ tables_1 ∧ Cond.instanceMethod q.1 ∈ tables_1
theorem lw_p0 : lw_okq (⟨"java/lang/Throwable", "fillInStackTrace", "(I)Ljava/lang/Throwable;"⟩, 6) := ⟨⟨by decide +kernel, by decide +kernel⟩, List.mem_of_getElem? (i := 163) (by decide +kernel), List.mem_of_getElem? (i := 161) (by decide +kernel), List.mem_of_getElem? (i := 162) (by decide +kernel)⟩
theorem lw_p1 : lw_okq (⟨"AqueductTanks", "needTank", "(I)V"⟩, 2) := ⟨⟨by decide +kernel, by decide +kernel⟩, List.mem_of_getElem? (i := 13) (by decide +kernel), List.mem_of_getElem? (i := 224) (by decide +kernel), List.mem_of_getElem? (i := 225) (by decide +kernel)⟩
theorem lw_p2 : lw_okq (⟨"AqueductTanks", "needPipe", "(I)V"⟩, 2) := ⟨⟨by decide +kernel, by decide +kernel⟩, List.mem_of_getElem? (i := 13) (by decide +kernel), List.mem_of_getElem? (i := 273) (by decide +kernel), List.mem_of_getElem? (i := 274) (by decide +kernel)⟩
theorem lw_p3 : lw_okq (⟨"AqueductTanksModel", "fail", "(I)I"⟩, 6) := ⟨⟨by decide +kernel, by decide +kernel⟩, List.mem_of_getElem? (i := 385) (by decide +kernel), List.mem_of_getElem? (i := 421) (by decide +kernel), List.mem_of_getElem? (i := 422) (by decide +kernel)⟩
theorem lw_p4 : lw_okq (⟨"AqueductTanksModel", "isTank", "(I)Z"⟩, 6) := ⟨⟨by decide +kernel, by decide +kernel⟩, List.mem_of_getElem? (i := 385) (by decide +kernel), List.mem_of_getElem? (i := 430) (by decide +kernel), List.mem_of_getElem? (i := 431) (by decide +kernel)⟩
theorem lw_p5 : lw_okq (⟨"AqueductTanksModel", "la", "(II)I"⟩, 6) := ⟨⟨by decide +kernel, by decide +kernel⟩, List.mem_of_getElem? (i := 385) (by decide +kernel), List.mem_of_getElem? (i := 438) (by decide +kernel), List.mem_of_getElem? (i := 439) (by decide +kernel)⟩
theorem lw_p6 : lw_okq (⟨"AqueductTanksModel", "setTank", "(III)V"⟩, 6) := ⟨⟨by decide +kernel, by decide +kernel⟩, List.mem_of_getElem? (i := 385) (by decide +kernel), List.mem_of_getElem? (i := 442) (by decide +kernel), List.mem_of_getElem? (i := 443) (by decide +kernel)⟩
theorem lw_p7 : lw_okq (⟨"AqueductTanksModel", "isPipe", "(I)Z"⟩, 6) := ⟨⟨by decide +kernel, by decide +kernel⟩, List.mem_of_getElem? (i := 385) (by decide +kernel), List.mem_of_getElem? (i := 454) (by decide +kernel), List.mem_of_getElem? (i := 455) (by decide +kernel)⟩
theorem lw_p8 : lw_okq (⟨"AqueductTanksModel", "li", "(II)I"⟩, 6) := ⟨⟨by decide +kernel, by decide +kernel⟩, List.mem_of_getElem? (i := 385) (by decide +kernel), List.mem_of_getElem? (i := 458) (by decide +kernel), List.mem_of_getElem? (i := 459) (by decide +kernel)⟩
theorem lw_p9 : lw_okq (⟨"AqueductTanksModel", "setPipe", "(III)V"⟩, 6) := ⟨⟨by decide +kernel, by decide +kernel⟩, List.mem_of_getElem? (i := 385) (by decide +kernel), List.mem_of_getElem? (i := 462) (by decide +kernel), List.mem_of_getElem? (i := 463) (by decide +kernel)⟩
theorem lw_p10 : lw_okq (⟨"AqueductTanksModel", "pipeTold", "(II)I"⟩, 6) := ⟨⟨by decide +kernel, by decide +kernel⟩, List.mem_of_getElem? (i := 385) (by decide +kernel), List.mem_of_getElem? (i := 478) (by decide +kernel), List.mem_of_getElem? (i := 479) (by decide +kernel)⟩
theorem lw_p11 : lw_okq (⟨"AqueductTanksModel", "flows", "(I)I"⟩, 6) := ⟨⟨by decide +kernel, by decide +kernel⟩, List.mem_of_getElem? (i := 385) (by decide +kernel), List.mem_of_getElem? (i := 482) (by decide +kernel), List.mem_of_getElem? (i := 483) (by decide +kernel)⟩
theorem lw_p12 : lw_okq (⟨"AqueductTanksModel", "head", "(I)I"⟩, 6) := ⟨⟨by decide +kernel, by decide +kernel⟩, List.mem_of_getElem? (i := 385) (by decide +kernel), List.mem_of_getElem? (i := 486) (by decide +kernel), List.mem_of_getElem? (i := 487) (by decide +kernel)⟩
theorem lw_p13 : lw_okq (⟨"AqueductTanksModel", "counted", "(I)I"⟩, 6) := ⟨⟨by decide +kernel, by decide +kernel⟩, List.mem_of_getElem? (i := 385) (by decide +kernel), List.mem_of_getElem? (i := 496) (by decide +kernel), List.mem_of_getElem? (i := 497) (by decide +kernel)⟩
theorem lw_p14 : lw_okq (⟨"AqueductTanksModel", "all", "(I)I"⟩, 6) := ⟨⟨by decide +kernel, by decide +kernel⟩, List.mem_of_getElem? (i := 385) (by decide +kernel), List.mem_of_getElem? (i := 500) (by decide +kernel), List.mem_of_getElem? (i := 501) (by decide +kernel)⟩
theorem lw_p15 : lw_okq (⟨"AqueductTanksModel", "allPipes", "(I)I"⟩, 6) := ⟨⟨by decide +kernel, by decide +kernel⟩, List.mem_of_getElem? (i := 385) (by decide +kernel), List.mem_of_getElem? (i := 504) (by decide +kernel), List.mem_of_getElem? (i := 505) (by decide +kernel)⟩
def lw_privs_1 : List (MethodName × Nat) := [(⟨"java/lang/Throwable", "fillInStackTrace", "(I)Ljava/lang/Throwable;"⟩, 6), (⟨"AqueductTanks", "needTank", "(I)V"⟩, 2), (⟨"AqueductTanks", "needPipe", "(I)V"⟩, 2), (⟨"AqueductTanksModel", "fail", "(I)I"⟩, 6), (⟨"AqueductTanksModel", "isTank", "(I)Z"⟩, 6), (⟨"AqueductTanksModel", "la", "(II)I"⟩, 6), (⟨"AqueductTanksModel", "setTank", "(III)V"⟩, 6), (⟨"AqueductTanksModel", "isPipe", "(I)Z"⟩, 6), (⟨"AqueductTanksModel", "li", "(II)I"⟩, 6), (⟨"AqueductTanksModel", "setPipe", "(III)V"⟩, 6), (⟨"AqueductTanksModel", "pipeTold", "(II)I"⟩, 6), (⟨"AqueductTanksModel", "flows", "(I)I"⟩, 6), (⟨"AqueductTanksModel", "head", "(I)I"⟩, 6), (⟨"AqueductTanksModel", "counted", "(I)I"⟩, 6), (⟨"AqueductTanksModel", "all", "(I)I"⟩, 6), (⟨"AqueductTanksModel", "allPipes", "(I)I"⟩, 6)]
theorem lw_r1 : ∀ q ∈ lw_privs_1, lw_okq q := List.forall_mem_cons.mpr ⟨lw_p0, List.forall_mem_cons.mpr ⟨lw_p1, List.forall_mem_cons.mpr ⟨lw_p2, List.forall_mem_cons.mpr ⟨lw_p3, List.forall_mem_cons.mpr ⟨lw_p4, List.forall_mem_cons.mpr ⟨lw_p5, List.forall_mem_cons.mpr ⟨lw_p6, List.forall_mem_cons.mpr ⟨lw_p7, List.forall_mem_cons.mpr ⟨lw_p8, List.forall_mem_cons.mpr ⟨lw_p9, List.forall_mem_cons.mpr ⟨lw_p10, List.forall_mem_cons.mpr ⟨lw_p11, List.forall_mem_cons.mpr ⟨lw_p12, List.forall_mem_cons.mpr ⟨lw_p13, List.forall_mem_cons.mpr ⟨lw_p14, List.forall_mem_cons.mpr ⟨lw_p15, fun _ h => absurd h List.not_mem_nil⟩⟩⟩⟩⟩⟩⟩⟩⟩⟩⟩⟩⟩⟩⟩⟩
theorem lw_p16 : lw_okq (⟨"AqueductTanksModel", "daysOn", "(I)V"⟩, 6) := ⟨⟨by decide +kernel, by decide +kernel⟩, List.mem_of_getElem? (i := 385) (by decide +kernel), List.mem_of_getElem? (i := 520) (by decide +kernel), List.mem_of_getElem? (i := 521) (by decide +kernel)⟩
theorem lw_p17 : lw_okq (⟨"AqueductTanksModel", "dayOn", "()V"⟩, 6) := ⟨⟨by decide +kernel, by decide +kernel⟩, List.mem_of_getElem? (i := 385) (by decide +kernel), List.mem_of_getElem? (i := 524) (by decide +kernel), List.mem_of_getElem? (i := 525) (by decide +kernel)⟩
theorem lw_p18 : lw_okq (⟨"AqueductTanksModel", "pour", "(III)V"⟩, 6) := ⟨⟨by decide +kernel, by decide +kernel⟩, List.mem_of_getElem? (i := 385) (by decide +kernel), List.mem_of_getElem? (i := 528) (by decide +kernel), List.mem_of_getElem? (i := 529) (by decide +kernel)⟩
theorem lw_p19 : lw_okq (⟨"AqueductTanksModel", "flow", "(I)V"⟩, 6) := ⟨⟨by decide +kernel, by decide +kernel⟩, List.mem_of_getElem? (i := 385) (by decide +kernel), List.mem_of_getElem? (i := 532) (by decide +kernel), List.mem_of_getElem? (i := 533) (by decide +kernel)⟩
theorem lw_p20 : lw_okq (⟨"AqueductTanksModel", "kept", "()[[I"⟩, 6) := ⟨⟨by decide +kernel, by decide +kernel⟩, List.mem_of_getElem? (i := 385) (by decide +kernel), List.mem_of_getElem? (i := 540) (by decide +kernel), List.mem_of_getElem? (i := 541) (by decide +kernel)⟩
theorem lw_p21 : lw_okq (⟨"AqueductTanksModel", "bringBack", "([[I)V"⟩, 6) := ⟨⟨by decide +kernel, by decide +kernel⟩, List.mem_of_getElem? (i := 385) (by decide +kernel), List.mem_of_getElem? (i := 551) (by decide +kernel), List.mem_of_getElem? (i := 552) (by decide +kernel)⟩
def lw_privs_2 : List (MethodName × Nat) := [(⟨"AqueductTanksModel", "daysOn", "(I)V"⟩, 6), (⟨"AqueductTanksModel", "dayOn", "()V"⟩, 6), (⟨"AqueductTanksModel", "pour", "(III)V"⟩, 6), (⟨"AqueductTanksModel", "flow", "(I)V"⟩, 6), (⟨"AqueductTanksModel", "kept", "()[[I"⟩, 6), (⟨"AqueductTanksModel", "bringBack", "([[I)V"⟩, 6)]
theorem lw_r2 : ∀ q ∈ lw_privs_2, lw_okq q := List.forall_mem_cons.mpr ⟨lw_p16, List.forall_mem_cons.mpr ⟨lw_p17, List.forall_mem_cons.mpr ⟨lw_p18, List.forall_mem_cons.mpr ⟨lw_p19, List.forall_mem_cons.mpr ⟨lw_p20, List.forall_mem_cons.mpr ⟨lw_p21, fun _ h => absurd h List.not_mem_nil⟩⟩⟩⟩⟩⟩
def lw_privs : List (MethodName × Nat) := lw_privs_1 ++ (lw_privs_2)
def lw_tbl : List Cond := k2_sels lw_privs ++ tables_1
theorem lw_privs_ok : ∀ q ∈ lw_privs, lw_okq q := by
  show ∀ q ∈ lw_privs_1 ++ (lw_privs_2), lw_okq q
  exact List.forall_mem_append.mpr ⟨lw_r1, lw_r2⟩
/-- the streams that the claim lets the run draw from -/
abbrev lw_cs : List Choice := [Jvm.Choice.named "NaN.bits"]
theorem lw_bits : nanBits ∈ lw_cs := by first | decide | exact List.mem_cons_self | simp [lw_cs, nanBits]
-- ===== end of PART A; then your names; then what follows =====
/-! ===== BEGIN words of one list among another's, by their places ===== -/
theorem goodIn_r {big : List Cond} (ws : List Cond) (ps : List Nat) (hp : ws = ps.filterMap (fun i => big[i]?)) (h : ws.all goodWord = true) : GoodIn big ws := by
  intro w hw
  have h1 := List.all_eq_true.mp h w hw
  rw [hp] at hw
  obtain ⟨i, -, hi⟩ := List.mem_filterMap.mp hw
  have hm : w ∈ big := by first | exact List.mem_of_getElem? hi | exact List.getElem?_mem hi
  exact ⟨hm, good_of_word h1⟩
theorem goodIn_app {big a b : List Cond} (ha : GoodIn big a) (hb : GoodIn big b) : GoodIn big (a ++ b) := fun w h => (List.mem_append.mp h).elim (ha w) (hb w)
theorem goodIn_ca {big a b : List Cond} {c : Cond} (ha : GoodIn big (c :: a)) (hb : GoodIn big b) : GoodIn big (c :: (a ++ b)) := fun w h => (List.mem_cons.mp h).elim (fun e => ha w (List.mem_cons.mpr (Or.inl e))) (fun h => (List.mem_append.mp h).elim (fun h => ha w (List.mem_cons.mpr (Or.inr h))) (hb w))
theorem goodIn_sub {big ws : List Cond} (hm : ∀ w ∈ ws, w ∈ big) (h : ws.all goodWord = true) : GoodIn big ws := fun w hw => ⟨hm w hw, good_of_word (List.all_eq_true.mp h w hw)⟩
/-! ===== END ===== -/


/-! ===== BEGIN exceptions that leave a method, and their catching by the caller (launches without stack traces) ===== -/
section VXA
/-! The laws vx_back, vx_callV, vx_callS, vx_callSW, vx_throw0, vx_throwS follow proofs of the library, with one case more: JvmDerived/Free/Laws.lean (Back.of_free), Shelf42/LK1.lean (callV, callS), Shelf/KitTraced.lean (throwNew0V, throwNewS). -/
/-- where a method has thrown q: the class by its name, the cell, what was written, the world -/
def vx_T (XC : String → State → State → Prop) (st : State) (q : Addr) (t : State) (mc ms : Nat) (free : Addr → Prop) : Prop :=
  ∃ (E : String) (ce : Cell) (L : List Loc), XC E st t ∧ t.heap[q]? = some ce ∧ ce.vm = .none ∧ st.vm.findClass E = some ce.cls ∧ st.WarmedH t.vm ∧ st.sameButNew ({ t with vm := st.vm } : State) L mc ms ∧ ∀ z ∈ L, free z.base
def vx_Q (Qc : Array Value → State → Outcome → State → Prop) (XC : String → State → State → Prop) (mc ms : Nat) (free : Addr → Prop) : Array Value → State → Outcome → State → Prop := fun a st o t =>
  (Qc a st o t ∧ ∃ L, FrameEnd st o t L mc ms ∧ ∀ q ∈ L, free q.base) ∨ ∃ q, o = .threw q ∧ vx_T XC st q t mc ms free
/-- a callee that returns or throws -/
def vx_Met (l : Launch) (y : MethodName) (ws : List Cond) (rm : Room) (Pc : Array Value → State → Prop) (Qc : Array Value → State → Outcome → State → Prop) (XC : String → State → State → Prop) (mc ms : Nat) (free : Addr → Prop) : Prop :=
  MetFree l y (headSpec ws rm) Pc (fun _ _ _ _ _ => True) (vx_Q Qc XC mc ms free)
def vx_Post (XC : String → State → State → Prop) (mc ms : Nat) (free : Addr → Prop) : Pt → Array Value → Addr → Pt → Prop := fun A a q B =>
  ∃ (g : JFrame) (mk : MethodId) (t : State) (L : List Loc) (E : String) (ce : Cell), B.U.heap = t.heap ∧ B.U.vm = t.vm ∧ XC E (A.U.calling g mk a) t ∧ t.heap[q]? = some ce ∧ ce.vm = .none ∧ A.U.vm.findClass E = some ce.cls ∧ B.locs = A.locs ++ L ∧ (∀ z ∈ L, free z.base) ∧ B.cells = A.cells + mc ∧ B.slots = A.slots + ms
def vx_Back (l : Launch) (R : Room) (p : Program) (e : Env) (below : List Frame) (s : State) (sargs : Array Value) (y : MethodName) (len W9 : Nat)
    (Pre : Pt → Array Value → Prop) (Post : Pt → Array Value → Option Value → Pt → Prop) (PostX : Pt → Array Value → Addr → Pt → Prop) : Prop :=
  ∀ (m : MethodId) (meth : Method) (c : Code) (A : Pt) (g : JFrame) (ig : Instr) (mk : MethodId) (a : Array Value),
    Stand p l e R s m sargs below meth c A.U A.locs A.cells A.slots → g.method = m → g.locals.size = c.maxLocals → decode c.code g.pc = .ok (ig, len) →
    2 * g.monitorRoom + (g.stack.map fun v => v.category).sum ≤ W9 → A.U.methodNamed? y = some mk → Pre A a →
    (∃ (v : Option Value) (B : Pt), Stand p l e R s m sargs below meth c B.U B.locs B.cells B.slots ∧ Post A a v B ∧
      Steps p.tables e below (doInvoke e (A.U.setTop g) [] mk a).1 (B.U.setTop { g with pc := g.pc + len, stack := v.toList ++ g.stack })) ∨
    (∃ (q : Addr) (B : Pt), Stand p l e R s m sargs below meth c B.U B.locs B.cells B.slots ∧ PostX A a q B ∧
      Steps p.tables e below (doInvoke e (A.U.setTop g) [] mk a).1 ((B.U.setTop g).pushFrame (.throwing q)))
section Payer
variable {l : Launch} {R : Room} {p : Program} {e : Env} {below : List Frame} {s : State} {sargs : Array Value} {y : MethodName} {len W9 : Nat}
theorem vx_back {ws : List Cond} {rm : Room} {Pc : Array Value → State → Prop} {Qc : Array Value → State → Outcome → State → Prop} {XC : String → State → State → Prop} {mc ms : Nat} {free : Addr → Prop} {bytes : ByteArray} {maxL : Nat} {ret : Option FieldType}
    (hM : vx_Met l y ws rm Pc Qc XC mc ms free) (hblind : FrameBlind Pc) (hrc : rm.cells = mc) (hrs : rm.slots = ms)
    (hframes : rm.frames + 1 ≤ R.frames) (hlocals : W9 + (maxL + 11) + rm.locals ≤ R.locals)
    (hws : ∀ w ∈ ws, ∀ a' U, s.WarmedH U.vm → w.before a' U = true) (hcode : Cond.code y bytes maxL ret ∈ ws) (hinit : ∀ a' U, s.WarmedH U.vm → (Cond.initialized y.cls).before a' U = true) :
    vx_Back l R p e below s sargs y len W9 (PreOf R mc ms Pc) (PostOf Qc mc ms free) (vx_Post XC mc ms free) := by
  intro m meth c A g ig mk a X hg hsize hdg hW hn hp
  have h1 : (headSpec ws rm).pre.before a A.U = true := atoms_intro fun w hw => hws w hw _ _ X.warmed
  have h2 : (Cond.code y bytes maxL ret).before a A.U = true := hws _ hcode _ _ X.warmed
  have h3 : (Cond.initialized y.cls).before a A.U = true := hinit _ _ X.warmed
  have h4 : A.cells + (headSpec ws rm).room.cells ≤ R.cells := by rw [show (headSpec ws rm).room.cells = mc from hrc]; exact hp.1
  have h5 : A.slots + (headSpec ws rm).room.slots ≤ R.slots := by rw [show (headSpec ws rm).room.slots = ms from hrs]; exact hp.2.1
  have hPc : Pc a (A.U.calling g mk a) := hblind _ _ _ _ hp.2.2
  obtain ⟨U, Ls, c0, s0⟩ := A
  dsimp only [Pt.U, Pt.locs, Pt.cells, Pt.slots] at h1 h2 h3 h4 h5 X hn hPc ⊢
  obtain ⟨methY, cY, hmY, hcY, -, hlY, -, -, -, -⟩ := Cond.code_spec hn h2
  obtain ⟨kY, hkY, -⟩ := className_of_methodNamed hn
  have hinitY : kY.init = .initialized := Cond.initialized_spec (findClass_of_methodNamed hn) hkY h3
  have h : At U g.method c below := by rw [hg]; exact X.here
  have hlocals9 : W9 + (maxL + 11) + (headSpec ws rm).room.locals ≤ R.locals := hlocals
  have happ : (headSpec ws rm).appliesLoose y e.platform (U.calling g mk a) = true :=
    Spec.appliesLoose_calling (g := g) h hdg hn hkY hinitY
      (X.room_calling (g := g) (R' := (headSpec ws rm).room) hsize hmY hcY hframes (by rw [hlY]; omega) h4 h5) h1
  obtain ⟨mid, hmid⟩ := h.above
  have hfr : (U.setTop g).frames = (.java g :: mid) ++ below := by rw [State.frames_setTop' g h.top, hmid]; rfl
  obtain ⟨o, s₂, hsteps, -, hend, hq⟩ := Steps.callFree hM p X.admits X.cas X.clock (acts := []) hfr happ hPc trivial
  have hq' : vx_Q Qc XC mc ms free a (U.calling g mk a) o s₂ := hq
  rw [State.frames_setTop' g h.top] at hend
  obtain ⟨g₀, hg0⟩ := Option.isSome_iff_exists.mp h.top
  obtain ⟨r, hr⟩ := State.topJava?_eq_some.mp hg0
  have hr' : (({ U with heap := s₂.heap, slotsUsed := s₂.slotsUsed } : State).setVm s₂.vm).frames = .java g₀ :: r := hr
  rcases hq' with ⟨hqc, L, hfe, hL⟩ | ⟨q, rfl, E, ce, L, hx, hce, hcv, hcl, hW₂, hsm, hL⟩
  · obtain ⟨⟨v, rfl⟩, hW₂, e2, q2, q3, q4, q5, q6⟩ := id hfe
    have e3 : s₂ = ({ (U.calling g mk a).setFrames s₂.frames with heap := s₂.heap, slotsUsed := s₂.slotsUsed } : State).setVm s₂.vm := by
      have : s₂ = ({ s₂ with vm := (U.calling g mk a).vm } : State).setVm s₂.vm := rfl
      rw [e2] at this
      exact this
    obtain ⟨c₂, i₂, len₂, hc₂, hd₂, hf₂⟩ := hend
    have hW' : U.WarmedH s₂.vm := hW₂
    have hcc : c₂ = c := by
      have h1 : s₂.code? g.method = U.code? g.method := by
        rw [State.code?_eq, State.code?_eq, hW'.alike.method?]
      exact Option.some.inj (hc₂.symm.trans (h1.trans h.code))
    subst hcc
    have hlen : len₂ = len := by rw [hdg] at hd₂; cases hd₂; rfl
    subst hlen
    have hs₂ : s₂ = (({ U with heap := s₂.heap, slotsUsed := s₂.slotsUsed } : State).setVm s₂.vm).setTop { g with pc := g.pc + len₂, stack := v.toList ++ g.stack } := by
      refine e3.trans ?_
      rw [hf₂, State.calling_eq h.top, State.setFrames_setFrames, State.setTop_of_frames _ hr', hr]
      rfl
    have hsame : U.sameButNew ({ U with heap := s₂.heap, slotsUsed := s₂.slotsUsed } : State) L mc ms := by
      refine ⟨?_, q2, q3, q4, q5, q6⟩
      obtain ⟨t, ht, -⟩ := State.frames_cons hr
      show ({ U with heap := s₂.heap, slotsUsed := s₂.slotsUsed } : State) = { U.setFrames U.frames with heap := s₂.heap, slotsUsed := s₂.slotsUsed }
      rw [State.setFrames_self ht]
    subst hg
    refine Or.inl ⟨v, ⟨(({ U with heap := s₂.heap, slotsUsed := s₂.slotsUsed } : State).setVm s₂.vm), Ls ++ L, c0 + mc, s0 + ms⟩,
      ⟨X.admits, X.cas, X.clock, X.frames, X.room, X.hears, X.method, X.code, (X.here.setHeapUsed s₂.heap s₂.slotsUsed).setVm hW'.alike, X.tail, State.WarmedH.trans X.warmed hW', X.limits, X.bytes, X.same.trans (hsame.setVm s.vm)⟩,
      ⟨g, mk, s₂, L, rfl, rfl, hqc, rfl, hL, rfl, rfl⟩, ?_⟩
    show Steps p.tables e below _ ((({ U with heap := s₂.heap, slotsUsed := s₂.slotsUsed } : State).setVm s₂.vm).setTop { g with pc := g.pc + len₂, stack := v.toList ++ g.stack })
    rw [← hs₂]
    exact hsteps
  · obtain ⟨e2, q2, q3, q4, q5, q6⟩ := id hsm
    have e3 : s₂ = ({ (U.calling g mk a).setFrames s₂.frames with heap := s₂.heap, slotsUsed := s₂.slotsUsed } : State).setVm s₂.vm := by
      have : s₂ = ({ s₂ with vm := (U.calling g mk a).vm } : State).setVm s₂.vm := rfl
      rw [e2] at this
      exact this
    have hf₂ : s₂.frames = .throwing q :: .java g :: U.frames.tail := hend
    have hW' : U.WarmedH s₂.vm := hW₂
    have hs₂ : s₂ = ((({ U with heap := s₂.heap, slotsUsed := s₂.slotsUsed } : State).setVm s₂.vm).setTop g).pushFrame (.throwing q) := by
      refine e3.trans ?_
      rw [hf₂, State.calling_eq h.top, State.setFrames_setFrames, State.pushFrame, State.frames_setTop _ hr', State.setTop_of_frames _ hr', State.setFrames_setFrames, hr]
      rfl
    have hsame : U.sameButNew ({ U with heap := s₂.heap, slotsUsed := s₂.slotsUsed } : State) L mc ms := by
      refine ⟨?_, q2, q3, q4, q5, q6⟩
      obtain ⟨t, ht, -⟩ := State.frames_cons hr
      show ({ U with heap := s₂.heap, slotsUsed := s₂.slotsUsed } : State) = { U.setFrames U.frames with heap := s₂.heap, slotsUsed := s₂.slotsUsed }
      rw [State.setFrames_self ht]
    subst hg
    refine Or.inr ⟨q, ⟨(({ U with heap := s₂.heap, slotsUsed := s₂.slotsUsed } : State).setVm s₂.vm), Ls ++ L, c0 + mc, s0 + ms⟩,
      ⟨X.admits, X.cas, X.clock, X.frames, X.room, X.hears, X.method, X.code, (X.here.setHeapUsed s₂.heap s₂.slotsUsed).setVm hW'.alike, X.tail, State.WarmedH.trans X.warmed hW', X.limits, X.bytes, X.same.trans (hsame.setVm s.vm)⟩,
      ⟨g, mk, s₂, L, E, ce, rfl, rfl, hx, hce, hcv, hcl, rfl, hL, rfl, rfl⟩, ?_⟩
    show Steps p.tables e below _ (((({ U with heap := s₂.heap, slotsUsed := s₂.slotsUsed } : State).setVm s₂.vm).setTop g).pushFrame (.throwing q))
    rw [← hs₂]
    exact hsteps
end Payer
section Calls
variable {p : Program} {l : Launch} {e : Env} {R : Room} {s : State} {m : MethodId} {args : Array Value} {below : List Frame} {meth : Method} {c : Code} {T : State} {locs : List Loc} {cells slots : Nat}
theorem vx_callV (X : Stand p l e R s m args below meth c T locs cells slots) (hexec : p.tables.exec = Jvm.exec) {own C : String} {index : Nat} {y : MethodName} {bytes : ByteArray} {maxL : Nat} {ret : Option FieldType}
    (hown : s.vm.findClass own = some m.cls) (hlink : (Cond.methodLink own index y).before args s = true) (hinst : (Cond.instanceMethod y).before args s = true) (hsel : (Cond.selects C y y).before args s = true)
    (hcode : (Cond.code y bytes maxL ret).before args s = true) (hy : y.cls ≠ "java/lang/invoke/MethodHandle" ∧ y.cls ≠ "java/lang/invoke/VarHandle")
    {W9 : Nat} {Pre : Pt → Array Value → Prop} {Post : Pt → Array Value → Option Value → Pt → Prop} {PostX : Pt → Array Value → Addr → Pt → Prop} (hK : vx_Back l R p e below s args y 3 W9 Pre Post PostX)
    {b : Addr} {cellB : Cell} (hcell : T.heap[b]? = some cellB) (hobj : cellB.vm.isStatics = false) (hcls : s.vm.findClass C = some cellB.cls)
    {g : JFrame} (hg : g.method = m) (hsize : g.locals.size = c.maxLocals) {argsL rest : List Value} (hlen : ∀ sig, parseMethodDescriptor y.desc = some sig → argsL.length = sig.parameters.length)
    (hstack : g.stack = argsL.reverse ++ .ref b :: rest) (hW : 2 * g.monitorRoom + (rest.map fun v => v.category).sum ≤ W9) (hdg : decode c.code g.pc = .ok (.invokevirtual index, 3))
    (hpre : ∀ vm₁, s.WarmedH vm₁ → Pre ⟨T.setVm vm₁, locs, cells, slots⟩ (Value.ref b :: argsL).toArray) :
    (∃ (v : Option Value) (vm₁ : Vm) (B : Pt), s.WarmedH vm₁ ∧ Stand p l e R s m args below meth c B.U B.locs B.cells B.slots ∧ Post ⟨T.setVm vm₁, locs, cells, slots⟩ (Value.ref b :: argsL).toArray v B ∧
      ∀ target, Steps p.tables e below (B.U.setTop { g with pc := g.pc + 3, stack := v.toList ++ rest }) target → Steps p.tables e below (T.setTop g) target) ∨
    (∃ (q : Addr) (vm₁ : Vm) (B : Pt), s.WarmedH vm₁ ∧ Stand p l e R s m args below meth c B.U B.locs B.cells B.slots ∧ PostX ⟨T.setVm vm₁, locs, cells, slots⟩ (Value.ref b :: argsL).toArray q B ∧
      Steps p.tables e below (T.setTop g) ((B.U.setTop { g with stack := rest }).pushFrame (.throwing q))) := by
  obtain ⟨mk, methM, hnamed, hmethM, hstM, habM⟩ := Cond.instanceMethod_spec hinst
  obtain ⟨methM', cM, hmethM', -, -, -, -, -, -, hsigM⟩ := Cond.code_spec hnamed hcode
  cases hmethM.symm.trans hmethM'
  obtain ⟨c2, r2, m2, q1, q2, q3, q4, kP, hkP, hkPi⟩ := Cond.selects_spec hsel
  cases hcls.symm.trans q1
  cases (State.methodFound?_of_named hnamed hy).symm.trans q2
  cases hnamed.symm.trans q3
  have hselP : selectMethod e.platform s.vm cellB.cls mk = .method mk := by rw [Launch.admits_selectMethod X.admits]; exact q4
  obtain ⟨vm₁, X₁, hstep₁⟩ := X.invokevirtual hexec hown hlink hnamed hmethM hstM hkP hkPi hy (a := b) (cell := cellB) hcell
    (fun z h => by rw [h] at hobj; cases hobj) hselP hmethM habM hkP hkPi (g := g) hg (argsL := argsL) (rest := rest) (hlen _ hsigM) hstack hdg
  rcases hK m meth c ⟨T.setVm vm₁, locs, cells, slots⟩ { g with stack := rest } (.invokevirtual index) mk (Value.ref b :: argsL).toArray X₁ hg hsize hdg hW (X₁.named hnamed) (hpre vm₁ X₁.warmed) with ⟨v, B, X', hpost, hsteps⟩ | ⟨q, B, X', hpost, hsteps⟩
  · exact Or.inl ⟨v, vm₁, B, X₁.warmed, X', hpost, fun target h => hstep₁ _ fun acts => by rw [doInvoke_state]; exact hsteps.trans h⟩
  · exact Or.inr ⟨q, vm₁, B, X₁.warmed, X', hpost, hstep₁ _ fun acts => by rw [doInvoke_state]; exact hsteps⟩
theorem vx_callS (X : Stand p l e R s m args below meth c T locs cells slots) (hexec : p.tables.exec = Jvm.exec) {own : String} {index : Nat} {y : MethodName} {bytes : ByteArray} {maxL : Nat} {ret : Option FieldType}
    (hown : s.vm.findClass own = some m.cls) (hlink : (Cond.methodLink own index y).before args s = true) (hstat : (Cond.static y).before args s = true) (hinit : (Cond.initialized y.cls).before args s = true)
    (hcode : (Cond.code y bytes maxL ret).before args s = true) (hy : y.cls ≠ "java/lang/invoke/MethodHandle" ∧ y.cls ≠ "java/lang/invoke/VarHandle")
    {W9 : Nat} {Pre : Pt → Array Value → Prop} {Post : Pt → Array Value → Option Value → Pt → Prop} {PostX : Pt → Array Value → Addr → Pt → Prop} (hK : vx_Back l R p e below s args y 3 W9 Pre Post PostX)
    {g : JFrame} (hg : g.method = m) (hsize : g.locals.size = c.maxLocals) {argsL rest : List Value} (hlen : ∀ sig, parseMethodDescriptor y.desc = some sig → argsL.length = sig.parameters.length)
    (hstack : g.stack = argsL.reverse ++ rest) (hW : 2 * g.monitorRoom + (rest.map fun v => v.category).sum ≤ W9) (hdg : decode c.code g.pc = .ok (.invokestatic index, 3))
    (hpre : ∀ vm₁, s.WarmedH vm₁ → Pre ⟨T.setVm vm₁, locs, cells, slots⟩ argsL.toArray) :
    (∃ (v : Option Value) (vm₁ : Vm) (B : Pt), s.WarmedH vm₁ ∧ Stand p l e R s m args below meth c B.U B.locs B.cells B.slots ∧ Post ⟨T.setVm vm₁, locs, cells, slots⟩ argsL.toArray v B ∧
      ∀ target, Steps p.tables e below (B.U.setTop { g with pc := g.pc + 3, stack := v.toList ++ rest }) target → Steps p.tables e below (T.setTop g) target) ∨
    (∃ (q : Addr) (vm₁ : Vm) (B : Pt), s.WarmedH vm₁ ∧ Stand p l e R s m args below meth c B.U B.locs B.cells B.slots ∧ PostX ⟨T.setVm vm₁, locs, cells, slots⟩ argsL.toArray q B ∧
      Steps p.tables e below (T.setTop g) ((B.U.setTop { g with stack := rest }).pushFrame (.throwing q))) := by
  obtain ⟨mk, hnamed⟩ := Cond.code_named hcode
  obtain ⟨methM, cM, hmethM, -, -, -, -, -, -, hsigM⟩ := Cond.code_spec hnamed hcode
  have hstatic : methM.isStatic = true := Cond.static_spec hnamed hmethM hstat
  obtain ⟨kP, hkP, -⟩ := className_of_methodNamed hnamed
  have hinitP : kP.init = .initialized := Cond.initialized_spec (findClass_of_methodNamed hnamed) hkP hinit
  obtain ⟨vm₁, X₁, hstep₁⟩ := X.invokestatic hexec hown hlink hnamed hmethM hstatic hkP hinitP hy (g := g) hg (argsL := argsL) (rest := rest) (hlen _ hsigM) hstack hdg
  rcases hK m meth c ⟨T.setVm vm₁, locs, cells, slots⟩ { g with stack := rest } (.invokestatic index) mk argsL.toArray X₁ hg hsize hdg hW (X₁.named hnamed) (hpre vm₁ X₁.warmed) with ⟨v, B, X', hpost, hsteps⟩ | ⟨q, B, X', hpost, hsteps⟩
  · exact Or.inl ⟨v, vm₁, B, X₁.warmed, X', hpost, fun target h => hstep₁ _ fun acts => by rw [doInvoke_state]; exact hsteps.trans h⟩
  · exact Or.inr ⟨q, vm₁, B, X₁.warmed, X', hpost, hstep₁ _ fun acts => by rw [doInvoke_state]; exact hsteps⟩
end Calls
theorem vx_cls {s : State} {T : State} {vm₁ : Vm} {E : String} {k : ClassId} (hW : s.WarmedH vm₁) (h : (T.setVm vm₁).vm.findClass E = some k) : s.vm.findClass E = some k := by
  have h1 : vm₁.findClass E = some k := h
  rw [hW.alike.findClass] at h1
  exact h1
/-- the method's frame g, with q thrown over it -/
def vx_W (p : Program) (l : Launch) (e : Env) (R : Room) (s : State) (m : MethodId) (args : Array Value) (below : List Frame) (meth : Method) (c : Code) (H : Heap) (locs : List Loc) (cells slots : Nat) (Q : State → Prop) (g : JFrame) (q : Addr) : Prop :=
  ∀ T : State, T.heap = H → Stand p l e R s m args below meth c T locs cells slots → ∃ t, Steps p.tables e below ((T.setTop g).pushFrame (.throwing q)) t ∧ Q t
def vx_Run (p : Program) (l : Launch) (e : Env) (R : Room) (s : State) (m : MethodId) (args : Array Value) (below : List Frame) (meth : Method) (c : Code) (H : Heap) (locs : List Loc) (cells slots mc ms : Nat) (g : JFrame) (rest : List Value) (Qa : State → Outcome → State → Prop) (XC : String → State → State → Prop) (free : Addr → Prop) : Prop :=
  ∀ T : State, T.heap = H → Stand p l e R s m args below meth c T locs cells slots →
    (∃ (v : Option Value) (st₀ t T' : State) (L : List Loc), st₀.heap = H ∧ Stand p l e R s m args below meth c T' (locs ++ L) (cells + mc) (slots + ms) ∧ (∀ q ∈ L, free q.base) ∧ T'.heap = t.heap ∧ T'.vm = t.vm ∧ Qa st₀ (.returned v) t ∧
      Goes p e below T g T' { g with pc := g.pc + 3, stack := v.toList ++ rest }) ∨
    (∃ (q : Addr) (st₀ t T' : State) (L : List Loc) (E : String) (ce : Cell), st₀.heap = H ∧ Stand p l e R s m args below meth c T' (locs ++ L) (cells + mc) (slots + ms) ∧ (∀ z ∈ L, free z.base) ∧ T'.heap = t.heap ∧ T'.vm = t.vm ∧ XC E st₀ t ∧ t.heap[q]? = some ce ∧ ce.vm = .none ∧ s.vm.findClass E = some ce.cls ∧
      Steps p.tables e below (T.setTop g) ((T'.setTop { g with stack := rest }).pushFrame (.throwing q)))
def vx_X {S : Type} (px : S → Prop) (B : String → S → State → Prop) (A : Nat → Prop) : String → State → State → Prop := fun E st t => ∃ u : S, px u ∧ B E u t ∧ va_F A st t
section Runs
variable {p : Program} {l : Launch} {e : Env} {R : Room} {s : State} {m : MethodId} {args : Array Value} {below : List Frame} {meth : Method} {c : Code} {H : Heap} {locs : List Loc} {cells slots : Nat}
variable {y : MethodName} {bytes cc : ByteArray} {maxL nL mc ms n index : Nat} {ret : Option FieldType} {ws : List Cond} {rm : Room} {Pc : Array Value → State → Prop} {Qc : Array Value → State → Outcome → State → Prop} {XC : String → State → State → Prop} {free : Addr → Prop} {Ts : List Cond} {own C : String} {b : Addr} {As rest : List Value} {g : JFrame}
theorem vx_callBack (cb : CallB R s args own index y bytes maxL ret ws rm mc ms n) (hM : vx_Met l y ws rm Pc Qc XC mc ms free) (hbl : FrameBlind Pc) : vx_Back l R p e below s args y 3 8 (PreOf R mc ms Pc) (PostOf Qc mc ms free) (vx_Post XC mc ms free) := by
  obtain ⟨hrc, hrs, hfr, hlo, hws, hcw, -, hini, -⟩ := cb
  exact vx_back (bytes := bytes) (maxL := maxL) (ret := ret) hM hbl hrc hrs hfr hlo hws hcw (fun a' U hW => word_at hW (Or.inl (by first | rfl | simp [Cond.onTables, Cond.keeps, Cond.steady])) hini)
theorem vx_runV (S : CallFix p m c cc nL s args Ts own) (hM : vx_Met l y ws rm Pc Qc XC mc ms free) (cw : CallW R s args own C index y bytes maxL ret ws rm mc ms n) (hp : PreV s H C b Pc As)
    (hg : g.method = m) (hn : As.length = n) (hsize : g.locals.size = nL) (hstack : g.stack = As.reverse ++ .ref b :: rest) (hW : 2 * g.monitorRoom + (rest.map fun v => v.category).sum ≤ 8) (hdg : decode cc g.pc = .ok (.invokevirtual index, 3)) (hf : cells + mc ≤ R.cells ∧ slots + ms ≤ R.slots) :
    vx_Run p l e R s m args below meth c H locs cells slots mc ms g rest (Qc (Value.ref b :: As).toArray) XC free := by
  have hK : vx_Back l R p e below s args y 3 8 (PreOf R mc ms Pc) (PostOf Qc mc ms free) (vx_Post XC mc ms free) := vx_callBack cw.1 hM hp.1
  obtain ⟨⟨-, -, -, -, -, -, hcode, -, hy, hlen, hl⟩, hin, hse⟩ := cw
  obtain ⟨hx, hb, hml, ho, -⟩ := S
  obtain ⟨-, ⟨cellB, hcB, hoB, hclB⟩, hPc⟩ := hp
  intro T hT X
  rcases vx_callV X hx (C := C) (bytes := bytes) (maxL := maxL) (ret := ret) ho hl hin hse hcode hy hK (by rw [hT]; exact hcB) hoB hclB hg (hsize.trans hml.symm) (argsL := As) (rest := rest) (fun sig h => hn.trans (hlen sig h)) hstack hW (by rw [hb]; exact hdg)
    (fun vm₁ hW₁ => ⟨hf.1, hf.2, hPc (T.setVm vm₁) hT hW₁⟩) with ⟨v, vm₁, ⟨U', l2, c2, s2⟩, hW₁, X', ⟨g', mk, t, L, e1, e2, hq, h1, hL, h2, h3⟩, st⟩ | ⟨q, vm₁, ⟨U', l2, c2, s2⟩, hW₁, X', ⟨g', mk, t, L, E, ce, e1, e2, hq, hce, hcv, hcl, h1, hL, h2, h3⟩, st⟩
  · dsimp only [Pt.U, Pt.locs, Pt.cells, Pt.slots] at X' e1 e2 h1 h2 h3 st
    subst h1; subst h2; subst h3
    exact Or.inl ⟨v, (T.setVm vm₁).calling g' mk (Value.ref b :: As).toArray, t, U', L, hT, X', hL, e1, e2, hq, st⟩
  · dsimp only [Pt.U, Pt.locs, Pt.cells, Pt.slots] at X' e1 e2 h1 h2 h3 st hcl
    subst h1; subst h2; subst h3
    exact Or.inr ⟨q, (T.setVm vm₁).calling g' mk (Value.ref b :: As).toArray, t, U', L, E, ce, hT, X', hL, e1, e2, hq, hce, hcv, vx_cls hW₁ hcl, st⟩
theorem vx_runS (S : CallFix p m c cc nL s args Ts own) (hM : vx_Met l y ws rm Pc Qc XC mc ms free) (cw : CallB R s args own index y bytes maxL ret ws rm mc ms n ∧ (Cond.static y).before args s = true) (hp : PreS s H Pc As)
    (hg : g.method = m) (hn : As.length = n) (hsize : g.locals.size = nL) (hstack : g.stack = As.reverse ++ rest) (hW : 2 * g.monitorRoom + (rest.map fun v => v.category).sum ≤ 8) (hdg : decode cc g.pc = .ok (.invokestatic index, 3)) (hf : cells + mc ≤ R.cells ∧ slots + ms ≤ R.slots) :
    vx_Run p l e R s m args below meth c H locs cells slots mc ms g rest (Qc As.toArray) XC free := by
  have hK : vx_Back l R p e below s args y 3 8 (PreOf R mc ms Pc) (PostOf Qc mc ms free) (vx_Post XC mc ms free) := vx_callBack cw.1 hM hp.1
  obtain ⟨⟨-, -, -, -, -, -, hcode, hini, hy, hlen, hl⟩, hstt⟩ := cw
  obtain ⟨hx, hb, hml, ho, -⟩ := S
  intro T hT X
  rcases vx_callS X hx (bytes := bytes) (maxL := maxL) (ret := ret) ho hl hstt hini hcode hy hK hg (hsize.trans hml.symm) (argsL := As) (rest := rest) (fun sig h => hn.trans (hlen sig h)) hstack hW (by rw [hb]; exact hdg)
    (fun vm₁ hW₁ => ⟨hf.1, hf.2, hp.2 (T.setVm vm₁) hT hW₁⟩) with ⟨v, vm₁, ⟨U', l2, c2, s2⟩, hW₁, X', ⟨g', mk, t, L, e1, e2, hq, h1, hL, h2, h3⟩, st⟩ | ⟨q, vm₁, ⟨U', l2, c2, s2⟩, hW₁, X', ⟨g', mk, t, L, E, ce, e1, e2, hq, hce, hcv, hcl, h1, hL, h2, h3⟩, st⟩
  · dsimp only [Pt.U, Pt.locs, Pt.cells, Pt.slots] at X' e1 e2 h1 h2 h3 st
    subst h1; subst h2; subst h3
    exact Or.inl ⟨v, (T.setVm vm₁).calling g' mk As.toArray, t, U', L, hT, X', hL, e1, e2, hq, st⟩
  · dsimp only [Pt.U, Pt.locs, Pt.cells, Pt.slots] at X' e1 e2 h1 h2 h3 st hcl
    subst h1; subst h2; subst h3
    exact Or.inr ⟨q, (T.setVm vm₁).calling g' mk As.toArray, t, U', L, E, ce, hT, X', hL, e1, e2, hq, hce, hcv, vx_cls hW₁ hcl, st⟩
end Runs
section Rows
variable {p : Program} {l : Launch} {e : Env} {R : Room} {s : State} {m : MethodId} {args : Array Value} {below : List Frame} {meth : Method} {c : Code} {H : Heap} {locs : List Loc} {cells slots : Nat} {Q : State → Prop}
variable {mc ms : Nat} {free : Addr → Prop} {A0 A1 : Nat → Prop} {H0 : Heap} {a : Array Value} {pc : Nat} {ls : Array Slot} {st0 rest : List Value}
theorem vx_keep {st₀ t T' : State} {L : List Loc} (h0 : st₀.heap = H) (e1 : T'.heap = t.heap) (hS : va_S A0 H0 H locs) (hA : ∀ q, q < H.size → A1 q → A0 q) (hf : ∀ q, free q → A0 q) (hL : ∀ q ∈ L, free q.base) (hF : va_F A1 st₀ t) :
    H.size ≤ T'.heap.size ∧ (∀ q : Nat, q < H.size → ¬ A1 q → T'.heap[q]? = H[q]?) ∧ va_S A0 H0 T'.heap (locs ++ L) := by
  obtain ⟨hz, hk⟩ := hF
  rw [h0] at hz hk
  exact ⟨by rw [e1]; exact hz, fun q h1 h2 => by rw [e1]; exact hk q h1 h2,
    ⟨Nat.le_trans hS.1 (by rw [e1]; exact hz), fun q h1 h2 => by rw [e1, hk q (Nat.lt_of_lt_of_le h1 hS.1) (fun z => h2 (hA q (Nat.lt_of_lt_of_le h1 hS.1) z))]; exact hS.2.1 q h1 h2, fun q hq => by
      rcases List.mem_append.mp hq with h | h
      · exact hS.2.2 q h
      · exact hf _ (hL q h)⟩⟩
theorem vx_calli {S SX : Type} {post : Int32 → S → Prop} {px : SX → Prop} {B : S → State → Prop} {BX : String → SX → State → Prop} {AX : Nat → Prop} (hr : vx_Run p l e R s m args below meth c H locs cells slots mc ms (F0 m pc ls st0) rest (va_Qi post B A1 a) (vx_X px BX AX) free) (hS : va_S A0 H0 H locs) (hA : ∀ q, q < H.size → A1 q → A0 q) (hf : ∀ q, free q → A0 q) (hAX : ∀ q, q < H.size → AX q → A0 q)
    (kx : ∀ (E : String) (ce : Cell) (q9 : Addr) (u : SX) (t : State) (H1 : Heap) (locs1 : List Loc), t.heap = H1 → s.vm.Alike t.vm → px u → BX E u t → H.size ≤ H1.size → (∀ q : Nat, q < H.size → ¬ AX q → H1[q]? = H[q]?) → va_S A0 H0 H1 locs1 → H1[q9]? = some ce → ce.vm = .none → s.vm.findClass E = some ce.cls → vx_W p l e R s m args below meth c H1 locs1 (cells + mc) (slots + ms) Q (F0 m pc ls rest) q9)
    (kk : ∀ (r : Int32) (u : S) (t : State) (H1 : Heap) (locs1 : List Loc), t.heap = H1 → s.vm.Alike t.vm → post r u → B u t → H.size ≤ H1.size → (∀ q : Nat, q < H.size → ¬ A1 q → H1[q]? = H[q]?) → va_S A0 H0 H1 locs1 → W p l e R s m args below meth c H1 locs1 (cells + mc) (slots + ms) Q (F0 m (pc + 3) ls (.int r :: rest))) : W p l e R s m args below meth c H locs cells slots Q (F0 m pc ls st0) := by
  intro T hT X
  rcases hr T hT X with ⟨v, st₀, t, T', L, h0, X', hL, e1, e2, ⟨⟨r, u, hv, hp, hb⟩, hF⟩, st⟩ | ⟨q, st₀, t, T', L, E, ce, h0, X', hL, e1, e2, ⟨u, hp, hb, hF⟩, hce, hcv, hcl, st⟩
  · cases hv
    obtain ⟨k1, k2, k3⟩ := vx_keep h0 e1 hS hA hf hL hF
    obtain ⟨t2, a1, b1⟩ := kk r u t T'.heap (locs ++ L) e1.symm (by rw [← e2]; exact X'.warmed.alike) hp hb k1 k2 k3 T' rfl X'
    exact ⟨t2, st t2 a1, b1⟩
  · obtain ⟨k1, k2, k3⟩ := vx_keep h0 e1 hS hAX hf hL hF
    obtain ⟨t2, a1, b1⟩ := kx E ce q u t T'.heap (locs ++ L) e1.symm (by rw [← e2]; exact X'.warmed.alike) hp hb k1 k2 k3 (by rw [e1]; exact hce) hcv hcl T' rfl X'
    exact ⟨t2, st.trans a1, b1⟩
theorem vx_calll {S SX : Type} {post : Int64 → S → Prop} {px : SX → Prop} {B : S → State → Prop} {BX : String → SX → State → Prop} {AX : Nat → Prop} (hr : vx_Run p l e R s m args below meth c H locs cells slots mc ms (F0 m pc ls st0) rest (va_Ql post B A1 a) (vx_X px BX AX) free) (hS : va_S A0 H0 H locs) (hA : ∀ q, q < H.size → A1 q → A0 q) (hf : ∀ q, free q → A0 q) (hAX : ∀ q, q < H.size → AX q → A0 q)
    (kx : ∀ (E : String) (ce : Cell) (q9 : Addr) (u : SX) (t : State) (H1 : Heap) (locs1 : List Loc), t.heap = H1 → s.vm.Alike t.vm → px u → BX E u t → H.size ≤ H1.size → (∀ q : Nat, q < H.size → ¬ AX q → H1[q]? = H[q]?) → va_S A0 H0 H1 locs1 → H1[q9]? = some ce → ce.vm = .none → s.vm.findClass E = some ce.cls → vx_W p l e R s m args below meth c H1 locs1 (cells + mc) (slots + ms) Q (F0 m pc ls rest) q9)
    (kk : ∀ (r : Int64) (u : S) (t : State) (H1 : Heap) (locs1 : List Loc), t.heap = H1 → s.vm.Alike t.vm → post r u → B u t → H.size ≤ H1.size → (∀ q : Nat, q < H.size → ¬ A1 q → H1[q]? = H[q]?) → va_S A0 H0 H1 locs1 → W p l e R s m args below meth c H1 locs1 (cells + mc) (slots + ms) Q (F0 m (pc + 3) ls (.long r :: rest))) : W p l e R s m args below meth c H locs cells slots Q (F0 m pc ls st0) := by
  intro T hT X
  rcases hr T hT X with ⟨v, st₀, t, T', L, h0, X', hL, e1, e2, ⟨⟨r, u, hv, hp, hb⟩, hF⟩, st⟩ | ⟨q, st₀, t, T', L, E, ce, h0, X', hL, e1, e2, ⟨u, hp, hb, hF⟩, hce, hcv, hcl, st⟩
  · cases hv
    obtain ⟨k1, k2, k3⟩ := vx_keep h0 e1 hS hA hf hL hF
    obtain ⟨t2, a1, b1⟩ := kk r u t T'.heap (locs ++ L) e1.symm (by rw [← e2]; exact X'.warmed.alike) hp hb k1 k2 k3 T' rfl X'
    exact ⟨t2, st t2 a1, b1⟩
  · obtain ⟨k1, k2, k3⟩ := vx_keep h0 e1 hS hAX hf hL hF
    obtain ⟨t2, a1, b1⟩ := kx E ce q u t T'.heap (locs ++ L) e1.symm (by rw [← e2]; exact X'.warmed.alike) hp hb k1 k2 k3 (by rw [e1]; exact hce) hcv hcl T' rfl X'
    exact ⟨t2, st.trans a1, b1⟩
theorem vx_callf {S SX : Type} {post : UInt32 → S → Prop} {px : SX → Prop} {B : S → State → Prop} {BX : String → SX → State → Prop} {AX : Nat → Prop} (hr : vx_Run p l e R s m args below meth c H locs cells slots mc ms (F0 m pc ls st0) rest (va_Qf post B A1 a) (vx_X px BX AX) free) (hS : va_S A0 H0 H locs) (hA : ∀ q, q < H.size → A1 q → A0 q) (hf : ∀ q, free q → A0 q) (hAX : ∀ q, q < H.size → AX q → A0 q)
    (kx : ∀ (E : String) (ce : Cell) (q9 : Addr) (u : SX) (t : State) (H1 : Heap) (locs1 : List Loc), t.heap = H1 → s.vm.Alike t.vm → px u → BX E u t → H.size ≤ H1.size → (∀ q : Nat, q < H.size → ¬ AX q → H1[q]? = H[q]?) → va_S A0 H0 H1 locs1 → H1[q9]? = some ce → ce.vm = .none → s.vm.findClass E = some ce.cls → vx_W p l e R s m args below meth c H1 locs1 (cells + mc) (slots + ms) Q (F0 m pc ls rest) q9)
    (kk : ∀ (r : UInt32) (u : S) (t : State) (H1 : Heap) (locs1 : List Loc), t.heap = H1 → s.vm.Alike t.vm → post r u → B u t → H.size ≤ H1.size → (∀ q : Nat, q < H.size → ¬ A1 q → H1[q]? = H[q]?) → va_S A0 H0 H1 locs1 → W p l e R s m args below meth c H1 locs1 (cells + mc) (slots + ms) Q (F0 m (pc + 3) ls (.float r :: rest))) : W p l e R s m args below meth c H locs cells slots Q (F0 m pc ls st0) := by
  intro T hT X
  rcases hr T hT X with ⟨v, st₀, t, T', L, h0, X', hL, e1, e2, ⟨⟨r, u, hv, hp, hb⟩, hF⟩, st⟩ | ⟨q, st₀, t, T', L, E, ce, h0, X', hL, e1, e2, ⟨u, hp, hb, hF⟩, hce, hcv, hcl, st⟩
  · cases hv
    obtain ⟨k1, k2, k3⟩ := vx_keep h0 e1 hS hA hf hL hF
    obtain ⟨t2, a1, b1⟩ := kk r u t T'.heap (locs ++ L) e1.symm (by rw [← e2]; exact X'.warmed.alike) hp hb k1 k2 k3 T' rfl X'
    exact ⟨t2, st t2 a1, b1⟩
  · obtain ⟨k1, k2, k3⟩ := vx_keep h0 e1 hS hAX hf hL hF
    obtain ⟨t2, a1, b1⟩ := kx E ce q u t T'.heap (locs ++ L) e1.symm (by rw [← e2]; exact X'.warmed.alike) hp hb k1 k2 k3 (by rw [e1]; exact hce) hcv hcl T' rfl X'
    exact ⟨t2, st.trans a1, b1⟩
theorem vx_calld {S SX : Type} {post : UInt64 → S → Prop} {px : SX → Prop} {B : S → State → Prop} {BX : String → SX → State → Prop} {AX : Nat → Prop} (hr : vx_Run p l e R s m args below meth c H locs cells slots mc ms (F0 m pc ls st0) rest (va_Qd post B A1 a) (vx_X px BX AX) free) (hS : va_S A0 H0 H locs) (hA : ∀ q, q < H.size → A1 q → A0 q) (hf : ∀ q, free q → A0 q) (hAX : ∀ q, q < H.size → AX q → A0 q)
    (kx : ∀ (E : String) (ce : Cell) (q9 : Addr) (u : SX) (t : State) (H1 : Heap) (locs1 : List Loc), t.heap = H1 → s.vm.Alike t.vm → px u → BX E u t → H.size ≤ H1.size → (∀ q : Nat, q < H.size → ¬ AX q → H1[q]? = H[q]?) → va_S A0 H0 H1 locs1 → H1[q9]? = some ce → ce.vm = .none → s.vm.findClass E = some ce.cls → vx_W p l e R s m args below meth c H1 locs1 (cells + mc) (slots + ms) Q (F0 m pc ls rest) q9)
    (kk : ∀ (r : UInt64) (u : S) (t : State) (H1 : Heap) (locs1 : List Loc), t.heap = H1 → s.vm.Alike t.vm → post r u → B u t → H.size ≤ H1.size → (∀ q : Nat, q < H.size → ¬ A1 q → H1[q]? = H[q]?) → va_S A0 H0 H1 locs1 → W p l e R s m args below meth c H1 locs1 (cells + mc) (slots + ms) Q (F0 m (pc + 3) ls (.double r :: rest))) : W p l e R s m args below meth c H locs cells slots Q (F0 m pc ls st0) := by
  intro T hT X
  rcases hr T hT X with ⟨v, st₀, t, T', L, h0, X', hL, e1, e2, ⟨⟨r, u, hv, hp, hb⟩, hF⟩, st⟩ | ⟨q, st₀, t, T', L, E, ce, h0, X', hL, e1, e2, ⟨u, hp, hb, hF⟩, hce, hcv, hcl, st⟩
  · cases hv
    obtain ⟨k1, k2, k3⟩ := vx_keep h0 e1 hS hA hf hL hF
    obtain ⟨t2, a1, b1⟩ := kk r u t T'.heap (locs ++ L) e1.symm (by rw [← e2]; exact X'.warmed.alike) hp hb k1 k2 k3 T' rfl X'
    exact ⟨t2, st t2 a1, b1⟩
  · obtain ⟨k1, k2, k3⟩ := vx_keep h0 e1 hS hAX hf hL hF
    obtain ⟨t2, a1, b1⟩ := kx E ce q u t T'.heap (locs ++ L) e1.symm (by rw [← e2]; exact X'.warmed.alike) hp hb k1 k2 k3 (by rw [e1]; exact hce) hcv hcl T' rfl X'
    exact ⟨t2, st.trans a1, b1⟩
theorem vx_callv {S SX : Type} {post : S → Prop} {px : SX → Prop} {B : S → State → Prop} {BX : String → SX → State → Prop} {AX : Nat → Prop} (hr : vx_Run p l e R s m args below meth c H locs cells slots mc ms (F0 m pc ls st0) rest (va_Qv post B A1 a) (vx_X px BX AX) free) (hS : va_S A0 H0 H locs) (hA : ∀ q, q < H.size → A1 q → A0 q) (hf : ∀ q, free q → A0 q) (hAX : ∀ q, q < H.size → AX q → A0 q)
    (kx : ∀ (E : String) (ce : Cell) (q9 : Addr) (u : SX) (t : State) (H1 : Heap) (locs1 : List Loc), t.heap = H1 → s.vm.Alike t.vm → px u → BX E u t → H.size ≤ H1.size → (∀ q : Nat, q < H.size → ¬ AX q → H1[q]? = H[q]?) → va_S A0 H0 H1 locs1 → H1[q9]? = some ce → ce.vm = .none → s.vm.findClass E = some ce.cls → vx_W p l e R s m args below meth c H1 locs1 (cells + mc) (slots + ms) Q (F0 m pc ls rest) q9)
    (kk : ∀ (u : S) (t : State) (H1 : Heap) (locs1 : List Loc), t.heap = H1 → s.vm.Alike t.vm → post u → B u t → H.size ≤ H1.size → (∀ q : Nat, q < H.size → ¬ A1 q → H1[q]? = H[q]?) → va_S A0 H0 H1 locs1 → W p l e R s m args below meth c H1 locs1 (cells + mc) (slots + ms) Q (F0 m (pc + 3) ls (rest))) : W p l e R s m args below meth c H locs cells slots Q (F0 m pc ls st0) := by
  intro T hT X
  rcases hr T hT X with ⟨v, st₀, t, T', L, h0, X', hL, e1, e2, ⟨⟨u, hv, hp, hb⟩, hF⟩, st⟩ | ⟨q, st₀, t, T', L, E, ce, h0, X', hL, e1, e2, ⟨u, hp, hb, hF⟩, hce, hcv, hcl, st⟩
  · cases hv
    obtain ⟨k1, k2, k3⟩ := vx_keep h0 e1 hS hA hf hL hF
    obtain ⟨t2, a1, b1⟩ := kk u t T'.heap (locs ++ L) e1.symm (by rw [← e2]; exact X'.warmed.alike) hp hb k1 k2 k3 T' rfl X'
    exact ⟨t2, st t2 a1, b1⟩
  · obtain ⟨k1, k2, k3⟩ := vx_keep h0 e1 hS hAX hf hL hF
    obtain ⟨t2, a1, b1⟩ := kx E ce q u t T'.heap (locs ++ L) e1.symm (by rw [← e2]; exact X'.warmed.alike) hp hb k1 k2 k3 (by rw [e1]; exact hce) hcv hcl T' rfl X'
    exact ⟨t2, st.trans a1, b1⟩
/-- caught by the row x of this method's table; the rows ahead don't take it -/
theorem vx_catch {own name : String} {E : String} {ce : Cell} {q : Addr} (hown : s.vm.findClass own = some m.cls) (pre : List ExceptionTableEntry) (x : ExceptionTableEntry) (suf : List ExceptionTableEntry) (hsplit : c.exceptionTable.toList = pre ++ x :: suf)
    (hpass : ∀ z ∈ pre, covers z pc = false ∨ (z.catchType ≠ 0 ∧ ∃ nm : String, (Cond.classLink own z.catchType nm).before args s = true ∧ va_Nc E nm s)) (hx : covers x pc = true) (h0 : x.catchType ≠ 0)
    (hlink : (Cond.classLink own x.catchType name).before args s = true) (hcast : (Cond.castable E name).before args s = true) (hcell : H[q]? = some ce) (hv : ce.vm = .none) (hcl : s.vm.findClass E = some ce.cls)
    (kk : W p l e R s m args below meth c H locs cells slots Q (F0 m x.handlerPc ls [.ref q])) : vx_W p l e R s m args below meth c H locs cells slots Q (F0 m pc ls rest) q := by
  intro T hT X
  have hpl : e.platform.magicAccessors = ({} : Platform).magicAccessors := by rw [X.admits.platform]
  obtain ⟨c3, c4, hc3, hc4, hasg⟩ := Cond.castable_spec hcast
  cases Option.some.inj (hc3.symm.trans hcl)
  obtain ⟨c5, hc5, hcl5⟩ := Cond.classLink_spec hown hlink e.platform hpl
  cases Option.some.inj (hc4.symm.trans hc5)
  obtain ⟨vm', X', st⟩ := X.thenCaughtThrough q (g := F0 m pc ls rest) rfl (Steps.refl _) (by rw [hT]; exact hcell) (by rw [hv]; rfl) (by obtain ⟨k9, h9, -⟩ := Vm.findClass_spec hcl; exact ⟨k9, h9⟩) pre x suf hsplit
    (fun z hz => by
      rcases hpass z hz with h | ⟨hz0, nm, hl1, hn1⟩
      · exact Or.inl h
      · obtain ⟨c6, hc6, hcl6⟩ := Cond.classLink_spec hown hl1 e.platform hpl
        obtain ⟨a8, b8, h1, h2, h3⟩ := hn1
        cases Option.some.inj (h1.symm.trans hcl)
        cases Option.some.inj (h2.symm.trans hc6)
        exact Or.inr ⟨hz0, _, hcl6, h3⟩) hx (Or.inr ⟨h0, c4, hcl5, hasg⟩)
  obtain ⟨t, a1, b1⟩ := kk (T.setVm vm') hT X'
  exact ⟨t, st.trans a1, b1⟩
end Rows
section Ends
variable {p : Program} {l : Launch} {e : Env} {R : Room} {s : State} {m : MethodId} {args : Array Value} {below : List Frame} {meth : Method} {c : Code} {H : Heap} {locs : List Loc} {cells slots : Nat} {Q : State → Prop}
variable {mc ms : Nat} {free : Addr → Prop} {A0 A1 : Nat → Prop} {H0 : Heap} {a : Array Value} {ls : Array Slot} {st0 rest : List Value}
variable {Qc : Array Value → State → Outcome → State → Prop} {XC : String → State → State → Prop}
/-- what a body that may throw owes at its end -/
def vx_MQ (below : List Frame) (Qc : Array Value → State → Outcome → State → Prop) (XC : String → State → State → Prop) (a : Array Value) (s : State) (mc ms : Nat) (free : Addr → Prop) : State → Prop := fun t =>
  ∃ o, t.status = .running ∧ Ended t below o ∧ vx_Q Qc XC mc ms free a s o t
theorem vx_ret {g : JFrame} {mc ms : Nat} (k : W p l e R s m args below meth c H locs cells slots (MQ below Qc args s mc ms free) g) : W p l e R s m args below meth c H locs cells slots (vx_MQ below Qc XC args s mc ms free) g := by
  intro T hT X
  obtain ⟨t, a1, o, b1, b2, b3, b4⟩ := k T hT X
  exact ⟨t, a1, o, b1, b2, Or.inl ⟨b3, b4⟩⟩
/-- not caught here: it goes on to the caller -/
theorem vx_widen {g : JFrame} {q : Addr} {k n : Nat} (h1 : cells ≤ k) (h2 : slots ≤ n) (kk : vx_W p l e R s m args below meth c H locs k n Q g q) : vx_W p l e R s m args below meth c H locs cells slots Q g q := fun T hT X => kk T hT (stand_widen X h1 h2)
theorem vx_out {pc : Nat} {E : String} {ce : Cell} {q : Addr} {mc ms : Nat} (hout : ∀ x ∈ c.exceptionTable.toList, covers x pc = false) (hlocks : meth.locks = false) (hcell : H[q]? = some ce) (hv : ce.vm = .none) (hcl : s.vm.findClass E = some ce.cls)
    (hx : ∀ t : State, t.heap = H → s.vm.Alike t.vm → XC E s t) (hf : ∀ z ∈ locs, free z.base) (hc : cells ≤ mc) (hs : slots ≤ ms) :
    vx_W p l e R s m args below meth c H locs cells slots (vx_MQ below Qc XC args s mc ms free) (F0 m pc ls rest) q := by
  intro T hT X
  obtain ⟨st1, hrun, hend, hW, hsm⟩ := X.leaveThrown q (g := F0 m pc ls rest) rfl rfl rfl hout hlocks
  have hcell9 : (T.setFrames (.throwing q :: below)).heap[q]? = some ce := by
    show T.heap[q]? = some ce
    rw [hT]; exact hcell
  exact ⟨_, st1, .threw q, hrun, hend, Or.inr ⟨q, rfl, E, ce, locs, hx _ hT hW.alike, hcell9, hv, hcl, hW, hsm.mono hc hs, hf⟩⟩
theorem vx_frame {U : State} {k n : Nat} (h : s.sameButNew ({ U with vm := s.vm } : State) locs k n) : s.heap.size ≤ U.heap.size ∧ ∀ q : Nat, q < s.heap.size → (∀ z ∈ locs, z.base ≠ q) → U.heap[q]? = s.heap[q]? := by
  obtain ⟨-, h2, -, -, -, h6⟩ := h
  refine ⟨h2, fun q hq hz => ?_⟩
  obtain ⟨c9, e1, e2, e3, e4⟩ := h6 q _ (Array.getElem?_eq_getElem hq)
  have hs : c9.slots = (s.heap[q]).slots := Array.ext_getElem? fun i => e4 i fun hm => hz _ hm rfl
  have h9 : c9 = s.heap[q] := by
    rw [hs] at e2
    exact e2
  have e5 : U.heap[q]? = some c9 := e1
  rw [e5, h9, Array.getElem?_eq_getElem hq]
/-- the words of a throw but the four that speak of the heap -/
def vx_no (w : Cond) : Bool := decide (w ≠ .isRef (.static Bundle.tN "UNASSIGNED_STACK" Bundle.steD)) && decide (w ≠ .isRef (.static Bundle.tN "SUPPRESSED_SENTINEL" Bundle.listD)) && decide (w ≠ .laysStatic Bundle.tN "UNASSIGNED_STACK" Bundle.steD) && decide (w ≠ .laysStatic Bundle.tN "SUPPRESSED_SENTINEL" Bundle.listD)
def vx_at0 (own : String) (ic : Nat) (X : String) (names : List String) : List Cond := (Bundle.ownAtoms0 own ic X names).filter vx_no
def vx_atS (own : String) (ic : Nat) (X : String) (names : List String) : List Cond := (Bundle.ownAtoms own ic X names).filter vx_no
/-- a word that the tables alone decide, or a good one -/
def vx_ot (w : Cond) : Bool := w.onTables || goodWord w
theorem vx_ot_at {args a' : Array Value} {s U : State} {w : Cond} (hW : s.WarmedH U.vm) (hvm : s.vm = U.vm) (hg : vx_ot w = true) (h : w.before args s = true) : w.before a' U = true := by
  simp only [vx_ot, Bool.or_eq_true] at hg
  rcases hg with hg | hg
  · exact va_tabs hg hvm h
  · exact word_at hW (good_of_word hg) h
/-- a list's words: the good ones out of the method's own list, the others by premises of their own -/
theorem vx_hat {args : Array Value} {s : State} {L B : List Cond} (h1 : ∀ w ∈ L.filter goodWord, w.before args s = true) (h2 : ∀ w ∈ L.filter (fun w => !goodWord w), w ∈ B) (h3 : ∀ w ∈ B, w.before args s = true) : ∀ w ∈ L, w.before args s = true := by
  intro w hw
  by_cases g : goodWord w = true
  · exact h1 w (List.mem_filter.mpr ⟨hw, g⟩)
  · refine h3 w (h2 w (List.mem_filter.mpr ⟨hw, ?_⟩))
    show (!goodWord w) = true
    cases hgw : goodWord w
    · rfl
    · exact absurd hgw g
theorem vx_c {args : Array Value} {s : State} {w : Cond} {B : List Cond} (h : w.before args s = true) (t : ∀ w ∈ B, w.before args s = true) : ∀ w' ∈ w :: B, w'.before args s = true := fun w' h' => (List.mem_cons.mp h').elim (fun e => by rw [e]; exact h) (t w')
theorem vx_n {args : Array Value} {s : State} : ∀ w ∈ ([] : List Cond), w.before args s = true := fun _ h => nomatch h
theorem vx_own {args : Array Value} {s : State} {L : List Cond} (h1 : ∀ w ∈ L.filter vx_no, w.before args s = true)
    (hU : (Cond.isRef (.static Bundle.tN "UNASSIGNED_STACK" Bundle.steD)).before args s = true) (hN : (Cond.isRef (.static Bundle.tN "SUPPRESSED_SENTINEL" Bundle.listD)).before args s = true)
    (lU : (Cond.laysStatic Bundle.tN "UNASSIGNED_STACK" Bundle.steD).before args s = true) (lN : (Cond.laysStatic Bundle.tN "SUPPRESSED_SENTINEL" Bundle.listD).before args s = true) : ∀ w ∈ L, w.before args s = true := by
  intro w hw
  by_cases e1 : w = .isRef (.static Bundle.tN "UNASSIGNED_STACK" Bundle.steD)
  · rw [e1]; exact hU
  · by_cases e2 : w = .isRef (.static Bundle.tN "SUPPRESSED_SENTINEL" Bundle.listD)
    · rw [e2]; exact hN
    · by_cases e3 : w = .laysStatic Bundle.tN "UNASSIGNED_STACK" Bundle.steD
      · rw [e3]; exact lU
      · by_cases e4 : w = .laysStatic Bundle.tN "SUPPRESSED_SENTINEL" Bundle.listD
        · rw [e4]; exact lN
        · exact h1 w (List.mem_filter.mpr ⟨hw, by unfold vx_no; rw [decide_eq_true e1, decide_eq_true e2, decide_eq_true e3, decide_eq_true e4]; rfl⟩)
/-- where a static field lies, its class's statics cell in H -/
def vx_L (C n d : String) (A : Nat → Prop) (U : State) (H : Heap) : Prop := ∃ (c : ClassId) (k : Class) (i : Nat) (f : Field) (a : Nat) (cell : Cell), U.vm.findClass C = some c ∧ U.fieldFound? C n d = some (c, k, i, f) ∧ f.isStatic = true ∧ k.statics = some a ∧ H[a]? = some cell ∧ cell.vm.isStatics = true ∧ cell.cls = c ∧ f.slot < cell.slots.size ∧ k.staticTypes[f.slot]? = some f.type ∧ ¬ A a
theorem vx_L.moved {C n d : String} {A : Nat → Prop} {u U : State} {H : Heap} (hvm : u.vm.Alike U.vm) (h : vx_L C n d A u H) : vx_L C n d A U H := by
  obtain ⟨c, k, i, f, a, cell, h1, h2, h3, h4, h5, h6, h7, h8, h9, h10⟩ := h
  obtain ⟨k', hi', he⟩ := State.fieldFound?_setVm hvm h2
  exact ⟨c, k', i, f, a, cell, by rw [hvm.findClass]; exact h1, hi', h3, by rw [he]; exact h4, h5, h6, h7, h8, by rw [he]; exact h9, h10⟩
theorem vx_L.kept {C n d : String} {A : Nat → Prop} {U : State} {H H1 : Heap} (h : vx_L C n d A U H) (hq : ∀ a : Nat, a < H.size → ¬ A a → H1[a]? = H[a]?) : vx_L C n d A U H1 := by
  obtain ⟨c, k, i, f, a, cell, h1, h2, h3, h4, h5, h6, h7, h8, h9, h10⟩ := h
  exact ⟨c, k, i, f, a, cell, h1, h2, h3, h4, by rw [hq a (Array.getElem?_eq_some_iff.mp h5).1 h10]; exact h5, h6, h7, h8, h9, h10⟩
theorem vx_L.narrow {C n d : String} {A B : Nat → Prop} {U : State} {H : Heap} (h : vx_L C n d A U H) (hAB : ∀ q, B q → A q) : vx_L C n d B U H := by
  obtain ⟨c, k, i, f, a, cell, h1, h2, h3, h4, h5, h6, h7, h8, h9, h10⟩ := h
  exact ⟨c, k, i, f, a, cell, h1, h2, h3, h4, h5, h6, h7, h8, h9, fun z => h10 (hAB _ z)⟩
theorem vx_L.word {C n d : String} {A : Nat → Prop} {s : State} {args : Array Value} (h : vx_L C n d A s s.heap) : (Cond.laysStatic C n d).before args s = true := by
  obtain ⟨c, k, i, f, a, cell, h1, h2, h3, h4, h5, h6, h7, h8, h9, -⟩ := h
  show (Cond.laysStatic C n d).holds args s none s [] = true
  exact Cond.laysStatic_of h1 h2 h3 h4 h5 h6 h7 h8 h9
/-- .. and what it holds: null or some reference -/
def vx_Zq (C n d : String) (A : Nat → Prop) (U : State) (H : Heap) : Prop := va_Zq C n d A U H ∧ vx_L C n d A U H
theorem vx_Zq.moved {C n d : String} {A : Nat → Prop} {u U : State} {H : Heap} (hvm : u.vm.Alike U.vm) (h : vx_Zq C n d A u H) : vx_Zq C n d A U H := ⟨va_Zq.moved hvm h.1, vx_L.moved hvm h.2⟩
theorem vx_Zq.kept {C n d : String} {A : Nat → Prop} {U : State} {H H1 : Heap} (h : vx_Zq C n d A U H) (hq : ∀ a : Nat, a < H.size → ¬ A a → H1[a]? = H[a]?) : vx_Zq C n d A U H1 := ⟨va_Zq.kept h.1 hq, vx_L.kept h.2 hq⟩
theorem vx_Zq.narrow {C n d : String} {A B : Nat → Prop} {U : State} {H : Heap} (h : vx_Zq C n d A U H) (hAB : ∀ q, B q → A q) : vx_Zq C n d B U H := ⟨va_Zq.narrow h.1 hAB, vx_L.narrow h.2 hAB⟩
theorem vx_Zqof {args : Array Value} {s : State} {C n d : String} {A : Nat → Prop} (hl : (Cond.laysStatic C n d).before args s = true) (hini : (Cond.initialized C).before args s = true) (h : (Cond.isRef (.static C n d)).before args s = true) (hA : ∀ a : Nat, a < s.heap.size → ¬ A a) : vx_Zq C n d A s s.heap := by
  refine ⟨va_Zqof hl hini h hA, ?_⟩
  obtain ⟨c, k, i, f, a, cell, h1, h2, h3, h4, h5, h6, h7, h8, h9⟩ := Cond.laysStatic_spec hl
  exact ⟨c, k, i, f, a, cell, h1, h2, h3, h4, h5, h6, h7, h8, h9, hA a (Array.getElem?_eq_some_iff.mp h5).1⟩
theorem vx_isRef {C n d : String} {v : Value} {A : Nat → Prop} {s : State} {args : Array Value} (h : va_Z C n d v A s s.heap) (hv : v.isRef = true) : (Cond.isRef (.static C n d)).before args s = true := by
  obtain ⟨cf, kf, fi, f, a, cell, h1, h2, h3, h4, h5, h6, h7, -⟩ := h
  have he : (Term.static C n d).eval args s none [] s = some v := by
    simp [Term.eval, State.fieldNamed?, h1, h2, h4, h5, h6, h7]
  simp only [Cond.before, Cond.holds, Cond.value, he]
  cases v <;> simp_all [Value.isRef]
theorem vx_isRefq {C n d : String} {A : Nat → Prop} {s : State} {args : Array Value} (h : va_Zq C n d A s s.heap) : (Cond.isRef (.static C n d)).before args s = true := by
  rcases h with h | ⟨t, h⟩
  · exact vx_isRef h rfl
  · exact vx_isRef h rfl
/-- the same frame, seen from here: as if the method were called anew in this heap -/
theorem vx_rebase {T : State} (X : Stand p l e R s m args below meth c T locs cells slots) {R' : Room} (hf : R'.frames ≤ R.frames) (hl : R'.locals ≤ R.locals) (hc : cells + R'.cells ≤ R.cells) (hs : slots + R'.slots ≤ R.slots) :
    Stand p l e R' ((T.setVm s.vm).setFrames (.invoking m args :: below)) m args below meth c T [] 0 0 := by
  have htop : (T.setVm s.vm).topJava?.isSome := X.here.top
  have hF : ((T.setVm s.vm).setFrames (.invoking m args :: below)).frames = .invoking m args :: below := State.frames_setFrames _ (State.cur_lt_of_top htop)
  obtain ⟨g₀, hg0⟩ := Option.isSome_iff_exists.mp htop
  obtain ⟨r, hr⟩ := State.topJava?_eq_some.mp hg0
  have hl9 : e.platform.stackLimits (T.setVm s.vm).me = e.platform.stackLimits s.me := X.limits
  have hb9 : (T.setVm s.vm).me.stackBytes = s.me.stackBytes := X.bytes
  refine ⟨X.admits, X.cas, X.clock, hF, ?_, X.hears, X.method, X.code, X.here, X.tail, X.warmed, ?_, ?_, ?_⟩
  · have h := X.room
    have hU : ((T.setVm s.vm).setFrames (.invoking m args :: below)).localsInUse = s.localsInUse := by
      rw [State.localsInUse_invoking hF (meth := meth) (c := c) X.method X.code, State.localsInUse_invoking X.frames X.method X.code]
    simp only [State.hasRoom, Bool.and_eq_true, decide_eq_true_eq] at h ⊢
    obtain ⟨⟨⟨⟨h1, h2, h3, h4, h5, h6⟩, h7⟩, h8⟩, h9⟩ := h
    rw [X.frames, List.length_cons] at h2 h3
    have q1 := X.heapSize
    have q2 := X.used
    simp only [hF, hU, List.length_cons, State.stackLimits_setFrames, State.stackBytes_setFrames, hl9, hb9]
    refine ⟨⟨⟨⟨by omega, by omega, by omega, by omega, by omega, h6⟩, ?_⟩, ?_⟩, X.book⟩
    · show T.heap.size + R'.cells ≤ e.platform.maxCells
      omega
    · show T.slotsUsed + R'.slots ≤ e.platform.maxSlots
      omega
  · rw [State.stackLimits_setFrames]; rfl
  · rw [State.stackBytes_setFrames]; rfl
  · refine ⟨?_, Nat.le_refl _, Nat.le_refl _, ?_, ?_, fun a c9 h9 => ⟨c9, h9, rfl, rfl, fun _ _ => rfl⟩⟩
    · obtain ⟨t, ht, -⟩ := State.frames_cons hr
      show T.setVm s.vm = { ((T.setVm s.vm).setFrames (.invoking m args :: below)).setFrames (T.setVm s.vm).frames with heap := T.heap, slotsUsed := T.slotsUsed }
      rw [State.setFrames_setFrames, State.setFrames_self ht]
      rfl
    · show T.slotsUsed = T.slotsUsed + ((T.heap.toList.drop T.heap.size).map (·.slots.size)).sum
      rw [List.drop_eq_nil_of_le (Nat.le_of_eq Array.length_toList)]
      rfl
    · show ((T.heap.toList.drop T.heap.size).map (·.slots.size)).sum ≤ 0
      rw [List.drop_eq_nil_of_le (Nat.le_of_eq Array.length_toList)]
      exact Nat.le_refl _
/-- 'throw new E()': new; dup; invokespecial; athrow -/
theorem vx_throw0 {cc : ByteArray} {pc : Nat} (hexec : p.tables.exec = Jvm.exec) (hb : c.code = cc) (hl : l.stackTraces = false) {own cls : String} {names : List String} {ik ic mc ms : Nat} {A : Nat → Prop}
    (hown : s.vm.findClass own = some m.cls) (hcls : Bundle.fit cls = true) (hnames : ∀ n ∈ names, Bundle.fit n = true)
    (hk : (Cond.classLink own ik cls).before args s = true) (hini : (Cond.initialized cls).before args s = true) (hat : ∀ w ∈ vx_at0 own ic cls names, w.before args s = true)
    (hgood : ∀ w ∈ Cond.classLink own ik cls :: Cond.initialized cls :: vx_at0 own ic cls names, vx_ot w = true)
    (hU : vx_Zq Bundle.tN "UNASSIGNED_STACK" Bundle.steD A s s.heap) (hN : vx_Zq Bundle.tN "SUPPRESSED_SENTINEL" Bundle.listD A s s.heap) (hS : va_S A s.heap H locs) (hsize : ls.size = c.maxLocals)
    (d0 : decode cc pc = .ok (.new ik, 3)) (d3 : decode cc (pc + 3) = .ok (.dup, 1)) (d4 : decode cc (pc + 4) = .ok (.invokespecial ic, 3)) (d7 : decode cc (pc + 7) = .ok (.athrow, 1))
    (hout : ∀ x ∈ c.exceptionTable.toList, covers x (pc + 7) = false)
    (hRframes : names.length + 3 < R.frames) (hRlocals : (rest.map fun v => v.category).sum + (13 * (names.length + 1) + 42) ≤ R.locals) (hRcells : cells + 1 ≤ R.cells) (hRslots : slots + 6 ≤ R.slots) (hlocks : meth.locks = false)
    (hx : ∀ t : State, s.vm.Alike t.vm → H.size ≤ t.heap.size → (∀ q : Nat, q < H.size → t.heap[q]? = H[q]?) → XC cls s t)
    (hf : ∀ z ∈ locs, free z.base) (hc : cells + 1 ≤ mc) (hs : slots + 6 ≤ ms) :
    W p l e R s m args below meth c H locs cells slots (vx_MQ below Qc XC args s mc ms free) (F0 m pc ls rest) := by
  intro T hT X
  have htr : e.platform.stackTraces = false := (show e.platform.stackTraces = l.stackTraces by rw [X.admits.platform]).trans hl
  have Y := vx_rebase X (R' := { frames := R.frames, locals := R.locals, cells := 1, slots := 6 }) (Nat.le_refl _) (Nat.le_refl _) hRcells hRslots
  obtain ⟨s', hA⟩ : ∃ z, z = (T.setVm s.vm).setFrames (.invoking m args :: below) := ⟨_, rfl⟩
  rw [← hA] at Y
  have hvm : s'.vm = s.vm := by rw [hA]; rfl
  have hhp : s'.heap = H := by rw [hA]; exact hT
  have hW0 : s.WarmedH s'.vm := by rw [hvm]; exact State.WarmedH.refl s
  have hat' : ∀ w ∈ vx_at0 own ic cls names, w.before args s' = true := fun w hw => vx_ot_at hW0 hvm.symm (hgood w (List.mem_cons_of_mem _ (List.mem_cons_of_mem _ hw))) (hat w hw)
  have hk' : (Cond.classLink own ik cls).before args s' = true := vx_ot_at hW0 hvm.symm (hgood _ List.mem_cons_self) hk
  have hini' : (Cond.initialized cls).before args s' = true := vx_ot_at hW0 hvm.symm (hgood _ (List.mem_cons_of_mem _ List.mem_cons_self)) hini
  have hU' : vx_Zq Bundle.tN "UNASSIGNED_STACK" Bundle.steD A s' s'.heap := by rw [hhp]; exact vx_Zq.moved hW0.alike (hU.kept hS.2.1)
  have hN' : vx_Zq Bundle.tN "SUPPRESSED_SENTINEL" Bundle.listD A s' s'.heap := by rw [hhp]; exact vx_Zq.moved hW0.alike (hN.kept hS.2.1)
  have h : ∀ w ∈ Bundle.ownAtoms0 own ic cls names, w.before args s' = true := vx_own hat' (vx_isRefq hU'.1) (vx_isRefq hN'.1) hU'.2.word hN'.2.word
  have hown' : s'.vm.findClass own = some m.cls := by rw [hvm]; exact hown
  have hins : (Cond.instantiable cls 6).before args s' = true := h _ (by simp [Bundle.ownAtoms0])
  obtain ⟨vm₁, cX, kX, hfX, hkX, -, -, X₁, st1⟩ := Y.newCold hexec (own := own) (C := cls) (index := ik) (n := 6) hown' hk' hins hini'
    (g := F0 m pc ls rest) rfl (by rw [hb]; exact d0) (Nat.le_refl _) (Nat.le_refl _)
  generalize hT1 : (T.setVm vm₁).pushCell { cls := cX, slots := kX.instanceTypes.map defaultValue, vm := .none } = T1 at X₁ st1
  have hcat : (Value.ref T.heap.size).category = 1 := rfl
  have hcellA : T1.heap[T.heap.size]? = some (freshCell cX kX) := by rw [← hT1]; exact State.heap_pushCell_size _ _
  have d3' : decode c.code (pc + 3) = .ok (.dup, 1) := by rw [hb]; exact d3
  obtain ⟨U, hsteps, hrun, hend, hW, hsame, ce, hce, hO⟩ := X₁.ctorThrow0 hexec htr (own := own) (cls := cls) (names := names) (ic := ic) hown' hcls hnames h (fun x hx => nomatch hx) hfX hkX hcellA (by rw [hhp, hT]; exact Nat.le_refl _)
    (g := { method := m, pc := pc + 4, locals := ls, stack := .ref T.heap.size :: .ref T.heap.size :: rest, locked := none }) rfl hsize rfl rfl (rest := rest) rfl
    (by rw [hb]; exact d4) (by rw [hb]; exact d7) hout hRframes (by simp only [List.map_cons, List.sum_cons, hcat]; omega) hlocks
  obtain ⟨f1, f2⟩ := vx_frame hsame
  rw [hhp] at f1 f2
  have hWs : s.WarmedH U.vm := State.WarmedH.trans hW0 hW
  have hcl : s.vm.findClass cls = some ce.cls := by
    have h9 := hO.cls
    rw [hvm] at h9
    exact h9
  have hall : s.sameButNew ({ U with vm := s.vm } : State) locs mc ms := by
    subst hA
    obtain ⟨e1, e2⟩ := hsame
    rw [State.setFrames_setFrames] at e1
    have h2 : (T.setVm s.vm).sameButNew ({ U with vm := s.vm } : State) [] (0 + 1) (0 + 6) := ⟨e1, e2⟩
    have h3 := X.same.trans h2
    rw [List.append_nil] at h3
    exact h3.mono hc hs
  refine ⟨U, ?_, .threw T.heap.size, hrun, hend, Or.inr ⟨T.heap.size, rfl, cls, ce, locs, hx U hWs.alike f1 (fun q hq => f2 q hq (fun z hz => nomatch hz)), hce, hO.vm, hcl, hWs, hall, hf⟩⟩
  refine st1 _ ?_
  show Steps p.tables e below (T1.setTop { method := m, pc := pc + 3, locals := ls, stack := .ref T.heap.size :: rest, locked := none }) _
  jvm_step X₁.here [X₁.here.top, hexec, d3', Value.category]
  exact hsteps
/-- 'throw new E("text")': new; dup; ldc; invokespecial; athrow -/
theorem vx_throwS {cc : ByteArray} {pc : Nat} (hexec : p.tables.exec = Jvm.exec) (hb : c.code = cc) (hl : l.stackTraces = false) {own cls text : String} {names : List String} {ik is ic mc ms sa : Nat} {A : Nat → Prop}
    (hown : s.vm.findClass own = some m.cls) (hcls : Bundle.fit cls = true) (hnames : ∀ n ∈ names, Bundle.fit n = true)
    (hk : (Cond.classLink own ik cls).before args s = true) (hini : (Cond.initialized cls).before args s = true) (hstr : vk_R own is text sa s) (hat : ∀ w ∈ vx_atS own ic cls names, w.before args s = true)
    (hgood : ∀ w ∈ Cond.classLink own ik cls :: Cond.initialized cls :: vx_atS own ic cls names, vx_ot w = true)
    (hU : vx_Zq Bundle.tN "UNASSIGNED_STACK" Bundle.steD A s s.heap) (hN : vx_Zq Bundle.tN "SUPPRESSED_SENTINEL" Bundle.listD A s s.heap) (hS : va_S A s.heap H locs) (hsize : ls.size = c.maxLocals)
    (d0 : decode cc pc = .ok (.new ik, 3)) (d3 : decode cc (pc + 3) = .ok (.dup, 1)) (d4 : decode cc (pc + 4) = .ok (.ldc is, 2)) (d6 : decode cc (pc + 6) = .ok (.invokespecial ic, 3)) (d9 : decode cc (pc + 9) = .ok (.athrow, 1))
    (hout : ∀ x ∈ c.exceptionTable.toList, covers x (pc + 9) = false)
    (hRframes : names.length + 3 < R.frames) (hRlocals : (rest.map fun v => v.category).sum + (13 * (names.length + 1) + 43) ≤ R.locals) (hRcells : cells + 1 ≤ R.cells) (hRslots : slots + 6 ≤ R.slots) (hlocks : meth.locks = false)
    (hx : ∀ t : State, s.vm.Alike t.vm → H.size ≤ t.heap.size → (∀ q : Nat, q < H.size → t.heap[q]? = H[q]?) → XC cls s t)
    (hf : ∀ z ∈ locs, free z.base) (hc : cells + 1 ≤ mc) (hs : slots + 6 ≤ ms) :
    W p l e R s m args below meth c H locs cells slots (vx_MQ below Qc XC args s mc ms free) (F0 m pc ls rest) := by
  intro T hT X
  have htr : e.platform.stackTraces = false := (show e.platform.stackTraces = l.stackTraces by rw [X.admits.platform]).trans hl
  have Y := vx_rebase X (R' := { frames := R.frames, locals := R.locals, cells := 1, slots := 6 }) (Nat.le_refl _) (Nat.le_refl _) hRcells hRslots
  obtain ⟨s', hA⟩ : ∃ z, z = (T.setVm s.vm).setFrames (.invoking m args :: below) := ⟨_, rfl⟩
  rw [← hA] at Y
  have hvm : s'.vm = s.vm := by rw [hA]; rfl
  have hhp : s'.heap = H := by rw [hA]; exact hT
  have hW0 : s.WarmedH s'.vm := by rw [hvm]; exact State.WarmedH.refl s
  have hat' : ∀ w ∈ vx_atS own ic cls names, w.before args s' = true := fun w hw => vx_ot_at hW0 hvm.symm (hgood w (List.mem_cons_of_mem _ (List.mem_cons_of_mem _ hw))) (hat w hw)
  have hk' : (Cond.classLink own ik cls).before args s' = true := vx_ot_at hW0 hvm.symm (hgood _ List.mem_cons_self) hk
  have hini' : (Cond.initialized cls).before args s' = true := vx_ot_at hW0 hvm.symm (hgood _ (List.mem_cons_of_mem _ List.mem_cons_self)) hini
  have hU' : vx_Zq Bundle.tN "UNASSIGNED_STACK" Bundle.steD A s' s'.heap := by rw [hhp]; exact vx_Zq.moved hW0.alike (hU.kept hS.2.1)
  have hN' : vx_Zq Bundle.tN "SUPPRESSED_SENTINEL" Bundle.listD A s' s'.heap := by rw [hhp]; exact vx_Zq.moved hW0.alike (hN.kept hS.2.1)
  have h : ∀ w ∈ Bundle.ownAtoms own ic cls names, w.before args s' = true := vx_own hat' (vx_isRefq hU'.1) (vx_isRefq hN'.1) hU'.2.word hN'.2.word
  have hown' : s'.vm.findClass own = some m.cls := by rw [hvm]; exact hown
  have hins : (Cond.instantiable cls 6).before args s' = true := h _ (by simp [Bundle.ownAtoms])
  obtain ⟨vm₁, cX, kX, hfX, hkX, -, -, X₁, st1⟩ := Y.newCold hexec (own := own) (C := cls) (index := ik) (n := 6) hown' hk' hins hini'
    (g := F0 m pc ls rest) rfl (by rw [hb]; exact d0) (Nat.le_refl _) (Nat.le_refl _)
  generalize hT1 : (T.setVm vm₁).pushCell { cls := cX, slots := kX.instanceTypes.map defaultValue, vm := .none } = T1 at X₁ st1
  have hcat : (Value.ref T.heap.size).category = 1 := rfl
  have hcellA : T1.heap[T.heap.size]? = some (freshCell cX kX) := by rw [← hT1]; exact State.heap_pushCell_size _ _
  have d3' : decode c.code (pc + 3) = .ok (.dup, 1) := by rw [hb]; exact d3
  have d4' : decode c.code (pc + 4) = .ok (.ldc is, 2) := by rw [hb]; exact d4
  have hstr' : vk_R own is text sa s' := vk_R.warm hW0 hstr
  obtain ⟨U, hsteps, hrun, hend, hW, hsame, ce, hce, hO⟩ := X₁.ctorThrowS hexec htr (own := own) (cls := cls) (names := names) (ic := ic) hown' hcls hnames h (fun x hx => nomatch hx) hfX hkX hcellA (by rw [hhp, hT]; exact Nat.le_refl _) (msg := .ref sa) rfl
    (g := { method := m, pc := pc + 6, locals := ls, stack := .ref sa :: .ref T.heap.size :: .ref T.heap.size :: rest, locked := none }) rfl hsize rfl rfl (rest := rest) rfl
    (by rw [hb]; exact d6) (by rw [hb]; exact d9) hout hRframes (by simp only [List.map_cons, List.sum_cons, hcat]; omega) hlocks
  obtain ⟨f1, f2⟩ := vx_frame hsame
  rw [hhp] at f1 f2
  have hWs : s.WarmedH U.vm := State.WarmedH.trans hW0 hW
  have hcl : s.vm.findClass cls = some ce.cls := by
    have h9 := hO.cls
    rw [hvm] at h9
    exact h9
  have hall : s.sameButNew ({ U with vm := s.vm } : State) locs mc ms := by
    subst hA
    obtain ⟨e1, e2⟩ := hsame
    rw [State.setFrames_setFrames] at e1
    have h2 : (T.setVm s.vm).sameButNew ({ U with vm := s.vm } : State) [] (0 + 1) (0 + 6) := ⟨e1, e2⟩
    have h3 := X.same.trans h2
    rw [List.append_nil] at h3
    exact h3.mono hc hs
  refine ⟨U, ?_, .threw T.heap.size, hrun, hend, Or.inr ⟨T.heap.size, rfl, cls, ce, locs, hx U hWs.alike f1 (fun q hq => f2 q hq (fun z hz => nomatch hz)), hce, hO.vm, hcl, hWs, hall, hf⟩⟩
  refine st1 _ ?_
  show Steps p.tables e below (T1.setTop { method := m, pc := pc + 3, locals := ls, stack := .ref T.heap.size :: rest, locked := none }) _
  jvm_step X₁.here [X₁.here.top, hexec, d3', Value.category]
  exact X₁.ldcString hexec (own := own) (text := text) (index := is) (a := sa) hown' hstr'.1 hstr'.2
    (g := { method := m, pc := pc + 4, locals := ls, stack := .ref T.heap.size :: .ref T.heap.size :: rest, locked := none }) rfl d4' _ hsteps
/-- 'throw new E("text")', the text by a wide index -/
theorem vx_throwSW {cc : ByteArray} {pc : Nat} (hexec : p.tables.exec = Jvm.exec) (hb : c.code = cc) (hl : l.stackTraces = false) {own cls text : String} {names : List String} {ik is ic mc ms sa : Nat} {A : Nat → Prop}
    (hown : s.vm.findClass own = some m.cls) (hcls : Bundle.fit cls = true) (hnames : ∀ n ∈ names, Bundle.fit n = true)
    (hk : (Cond.classLink own ik cls).before args s = true) (hini : (Cond.initialized cls).before args s = true) (hstr : vk_R own is text sa s) (hat : ∀ w ∈ vx_atS own ic cls names, w.before args s = true)
    (hgood : ∀ w ∈ Cond.classLink own ik cls :: Cond.initialized cls :: vx_atS own ic cls names, vx_ot w = true)
    (hU : vx_Zq Bundle.tN "UNASSIGNED_STACK" Bundle.steD A s s.heap) (hN : vx_Zq Bundle.tN "SUPPRESSED_SENTINEL" Bundle.listD A s s.heap) (hS : va_S A s.heap H locs) (hsize : ls.size = c.maxLocals)
    (d0 : decode cc pc = .ok (.new ik, 3)) (d3 : decode cc (pc + 3) = .ok (.dup, 1)) (d4 : decode cc (pc + 4) = .ok (.ldc_w is, 3)) (d7 : decode cc (pc + 7) = .ok (.invokespecial ic, 3)) (d10 : decode cc (pc + 10) = .ok (.athrow, 1))
    (hout : ∀ x ∈ c.exceptionTable.toList, covers x (pc + 10) = false)
    (hRframes : names.length + 3 < R.frames) (hRlocals : (rest.map fun v => v.category).sum + (13 * (names.length + 1) + 43) ≤ R.locals) (hRcells : cells + 1 ≤ R.cells) (hRslots : slots + 6 ≤ R.slots) (hlocks : meth.locks = false)
    (hx : ∀ t : State, s.vm.Alike t.vm → H.size ≤ t.heap.size → (∀ q : Nat, q < H.size → t.heap[q]? = H[q]?) → XC cls s t)
    (hf : ∀ z ∈ locs, free z.base) (hc : cells + 1 ≤ mc) (hs : slots + 6 ≤ ms) :
    W p l e R s m args below meth c H locs cells slots (vx_MQ below Qc XC args s mc ms free) (F0 m pc ls rest) := by
  intro T hT X
  have htr : e.platform.stackTraces = false := (show e.platform.stackTraces = l.stackTraces by rw [X.admits.platform]).trans hl
  have Y := vx_rebase X (R' := { frames := R.frames, locals := R.locals, cells := 1, slots := 6 }) (Nat.le_refl _) (Nat.le_refl _) hRcells hRslots
  obtain ⟨s', hA⟩ : ∃ z, z = (T.setVm s.vm).setFrames (.invoking m args :: below) := ⟨_, rfl⟩
  rw [← hA] at Y
  have hvm : s'.vm = s.vm := by rw [hA]; rfl
  have hhp : s'.heap = H := by rw [hA]; exact hT
  have hW0 : s.WarmedH s'.vm := by rw [hvm]; exact State.WarmedH.refl s
  have hat' : ∀ w ∈ vx_atS own ic cls names, w.before args s' = true := fun w hw => vx_ot_at hW0 hvm.symm (hgood w (List.mem_cons_of_mem _ (List.mem_cons_of_mem _ hw))) (hat w hw)
  have hk' : (Cond.classLink own ik cls).before args s' = true := vx_ot_at hW0 hvm.symm (hgood _ List.mem_cons_self) hk
  have hini' : (Cond.initialized cls).before args s' = true := vx_ot_at hW0 hvm.symm (hgood _ (List.mem_cons_of_mem _ List.mem_cons_self)) hini
  have hU' : vx_Zq Bundle.tN "UNASSIGNED_STACK" Bundle.steD A s' s'.heap := by rw [hhp]; exact vx_Zq.moved hW0.alike (hU.kept hS.2.1)
  have hN' : vx_Zq Bundle.tN "SUPPRESSED_SENTINEL" Bundle.listD A s' s'.heap := by rw [hhp]; exact vx_Zq.moved hW0.alike (hN.kept hS.2.1)
  have h : ∀ w ∈ Bundle.ownAtoms own ic cls names, w.before args s' = true := vx_own hat' (vx_isRefq hU'.1) (vx_isRefq hN'.1) hU'.2.word hN'.2.word
  have hown' : s'.vm.findClass own = some m.cls := by rw [hvm]; exact hown
  have hins : (Cond.instantiable cls 6).before args s' = true := h _ (by simp [Bundle.ownAtoms])
  obtain ⟨vm₁, cX, kX, hfX, hkX, -, -, X₁, st1⟩ := Y.newCold hexec (own := own) (C := cls) (index := ik) (n := 6) hown' hk' hins hini'
    (g := F0 m pc ls rest) rfl (by rw [hb]; exact d0) (Nat.le_refl _) (Nat.le_refl _)
  generalize hT1 : (T.setVm vm₁).pushCell { cls := cX, slots := kX.instanceTypes.map defaultValue, vm := .none } = T1 at X₁ st1
  have hcat : (Value.ref T.heap.size).category = 1 := rfl
  have hcellA : T1.heap[T.heap.size]? = some (freshCell cX kX) := by rw [← hT1]; exact State.heap_pushCell_size _ _
  have d3' : decode c.code (pc + 3) = .ok (.dup, 1) := by rw [hb]; exact d3
  have d4' : decode c.code (pc + 4) = .ok (.ldc_w is, 3) := by rw [hb]; exact d4
  have hstr' : vk_R own is text sa s' := vk_R.warm hW0 hstr
  obtain ⟨U, hsteps, hrun, hend, hW, hsame, ce, hce, hO⟩ := X₁.ctorThrowS hexec htr (own := own) (cls := cls) (names := names) (ic := ic) hown' hcls hnames h (fun x hx => nomatch hx) hfX hkX hcellA (by rw [hhp, hT]; exact Nat.le_refl _) (msg := .ref sa) rfl
    (g := { method := m, pc := pc + 7, locals := ls, stack := .ref sa :: .ref T.heap.size :: .ref T.heap.size :: rest, locked := none }) rfl hsize rfl rfl (rest := rest) rfl
    (by rw [hb]; exact d7) (by rw [hb]; exact d10) hout hRframes (by simp only [List.map_cons, List.sum_cons, hcat]; omega) hlocks
  obtain ⟨f1, f2⟩ := vx_frame hsame
  rw [hhp] at f1 f2
  have hWs : s.WarmedH U.vm := State.WarmedH.trans hW0 hW
  have hcl : s.vm.findClass cls = some ce.cls := by
    have h9 := hO.cls
    rw [hvm] at h9
    exact h9
  have hall : s.sameButNew ({ U with vm := s.vm } : State) locs mc ms := by
    subst hA
    obtain ⟨e1, e2⟩ := hsame
    rw [State.setFrames_setFrames] at e1
    have h2 : (T.setVm s.vm).sameButNew ({ U with vm := s.vm } : State) [] (0 + 1) (0 + 6) := ⟨e1, e2⟩
    have h3 := X.same.trans h2
    rw [List.append_nil] at h3
    exact h3.mono hc hs
  refine ⟨U, ?_, .threw T.heap.size, hrun, hend, Or.inr ⟨T.heap.size, rfl, cls, ce, locs, hx U hWs.alike f1 (fun q hq => f2 q hq (fun z hz => nomatch hz)), hce, hO.vm, hcl, hWs, hall, hf⟩⟩
  refine st1 _ ?_
  show Steps p.tables e below (T1.setTop { method := m, pc := pc + 3, locals := ls, stack := .ref T.heap.size :: rest, locked := none }) _
  jvm_step X₁.here [X₁.here.top, hexec, d3', Value.category]
  exact X₁.ldcStringW hexec (own := own) (text := text) (index := is) (a := sa) hown' hstr'.1 hstr'.2
    (g := { method := m, pc := pc + 4, locals := ls, stack := .ref T.heap.size :: .ref T.heap.size :: rest, locked := none }) rfl d4' _ hsteps
end Ends
section Bodies
variable {l : Launch}
theorem vx_ofW {y : MethodName} {ws ws' : List Cond} {rm : Room} {Pc : Array Value → State → Prop} {Qc : Array Value → State → Outcome → State → Prop} {XC : String → State → State → Prop} {mc ms : Nat} {free : Addr → Prop} {cc : ByteArray} {maxL : Nat} {ret : Option FieldType}
    (hy : plainName y.cls = true) (hw : ws = Cond.code y cc maxL ret :: ws')
    (body : ∀ p e s m args below meth c s₁, BodyLoose p l y (headSpec ws rm) cc maxL ret e s m args below meth c s₁ → c.maxLocals = maxL → (∀ x ∈ c.exceptionTable.toList, False) → Pc args s →
      W p l e (headSpec ws rm).room s m args below meth c s.heap [] 0 0 (vx_MQ below Qc XC args s mc ms free) (entryFrame m args maxL)) : vx_Met l y ws rm Pc Qc XC mc ms free := by
  refine MetFree.of_bodyS (code := cc) (maxLocals := maxL) (ret := ret) hy ?_ ?_
  · intro args s m h hn
    obtain ⟨meth, c, h1, h2, h3, h4, h5, h6, -, -⟩ := Cond.code_spec hn (atoms_spec (ws := ws) h _ (by rw [hw]; exact List.mem_cons_self))
    exact ⟨meth, c, h1, h2, h3, h4, h5, h6⟩
  · intro p e s m args below meth c s₁ B hml hP _
    have hh0 : s₁.heap = s.heap := by rw [B.state]; rfl
    have ht : ∀ x ∈ c.exceptionTable.toList, False := by
      obtain ⟨meth9, c9, h1, h2, -, -, -, -, h7, -⟩ := Cond.code_spec B.named (atoms_spec (ws := ws) B.pre _ (by rw [hw]; exact List.mem_cons_self))
      cases Option.some.inj (h1.symm.trans B.method)
      cases Option.some.inj (h2.symm.trans (Stand.of_body B).code)
      intro x hx
      rw [Array.isEmpty_iff.mp h7] at hx
      cases hx
    obtain ⟨t, a1, o, b1, b2, b3⟩ := body p e s m args below meth c s₁ B hml ht hP s₁ hh0 (Stand.of_body B)
    exact ⟨t, o, a1, b1, b2, b3⟩
/-- the table of a body with handlers -/
theorem vx_table {p : Program} {x y : MethodName} {S : Spec} {cc bytes : ByteArray} {maxL maxL' : Nat} {ret ret' : Option FieldType} {e : Env} {s s₁ : State} {m : MethodId} {args : Array Value} {below : List Frame} {meth : Method} {c : Code} {hh : List (Nat × Nat × Nat × Nat)}
    (B : BodyLoose p l y S cc maxL ret e s m args below meth c s₁) (h : (Cond.codeWith y bytes maxL' ret' hh).before args s = true) : c.exceptionTable.toList = tableOf hh := by
  obtain ⟨m9, meth9, c9, hn9, h1, h2, -, -, h6, -⟩ := Cond.codeWith_spec h
  cases Option.some.inj (hn9.symm.trans B.named)
  cases Option.some.inj (h1.symm.trans B.method)
  cases Option.some.inj (h2.symm.trans (Stand.of_body B).code)
  rw [← h6, table_eq]
end Bodies
end VXA
/-! ===== END ===== -/
/-! ===== BEGIN a static call of a method with an exception table ===== -/
section VXS
variable {p : Program} {l : Launch} {e : Env} {R : Room} {s : State} {m : MethodId} {args : Array Value} {below : List Frame} {meth : Method} {c : Code} {T : State} {H : Heap} {locs : List Loc} {cells slots : Nat}
abbrev vx_CSW (R : Room) (s : State) (args : Array Value) (own : String) (index : Nat) (y : MethodName) (bytes : ByteArray) (maxL : Nat) (ret : Option FieldType) (hh : List (Nat × Nat × Nat × Nat)) (ws : List Cond) (rm : Room) (mc ms n : Nat) : Prop :=
  (rm.cells = mc ∧ rm.slots = ms ∧ rm.frames + 1 ≤ R.frames ∧ 8 + (maxL + 11) + rm.locals ≤ R.locals ∧ (∀ w ∈ ws, ∀ (a' : Array Value) (U : State), s.WarmedH U.vm → w.before a' U = true) ∧ Cond.codeWith y bytes maxL ret hh ∈ ws) ∧
  (Cond.codeWith y bytes maxL ret hh).before args s = true ∧ (Cond.initialized y.cls).before args s = true ∧ (y.cls ≠ "java/lang/invoke/MethodHandle" ∧ y.cls ≠ "java/lang/invoke/VarHandle") ∧
  (∀ sig, parseMethodDescriptor y.desc = some sig → n = sig.parameters.length) ∧ (Cond.methodLink own index y).before args s = true ∧ (Cond.static y).before args s = true
theorem vx_cwSW {own : String} {index maxL mc ms : Nat} {y : MethodName} {bytes : ByteArray} {ret : Option FieldType} {hh : List (Nat × Nat × Nat × Nat)} {Ts ws ws' : List Cond} {rm : Room} (n : Nat) (ht : ∀ w ∈ Ts, w.before args s = true) (hT : GoodIn Ts (va_wsS own index y ws)) (hw : ws = Cond.codeWith y bytes maxL ret hh :: ws') (hrc : rm.cells = mc) (hrs : rm.slots = ms)
    (hd : y.cls ≠ "java/lang/invoke/MethodHandle" ∧ y.cls ≠ "java/lang/invoke/VarHandle" ∧ (parseMethodDescriptor y.desc).map (fun d => d.parameters.length) = some n) (hR : rm.frames + 1 ≤ R.frames ∧ 8 + (maxL + 11) + rm.locals ≤ R.locals) :
    vx_CSW R s args own index y bytes maxL ret hh ws rm mc ms n := by
  have ok : ∀ w ∈ va_wsS own index y ws, w.before args s = true := fun w h => ht w (hT w h).1
  have hG : GoodIn Ts ws := fun w h => hT w (by unfold va_wsS; exact List.mem_append_right _ h)
  have hc : Cond.codeWith y bytes maxL ret hh ∈ ws := by rw [hw]; exact List.mem_cons_self
  refine ⟨⟨hrc, hrs, hR.1, hR.2, pay_in ht hG, hc⟩, ht _ (hG _ hc).1, ok _ (by simp [va_wsS]), ⟨hd.1, hd.2.1⟩, fun sig h => ?_, ok _ (by simp [va_wsS]), ok _ (by simp [va_wsS])⟩
  have h2 := hd.2.2
  rw [h] at h2
  exact (Option.some.inj h2).symm
theorem vx_callSW (X : Stand p l e R s m args below meth c T locs cells slots) (hexec : p.tables.exec = Jvm.exec) {own : String} {index : Nat} {y : MethodName} {bytes : ByteArray} {maxL : Nat} {ret : Option FieldType} {hh : List (Nat × Nat × Nat × Nat)}
    (hown : s.vm.findClass own = some m.cls) (hlink : (Cond.methodLink own index y).before args s = true) (hstat : (Cond.static y).before args s = true) (hinit : (Cond.initialized y.cls).before args s = true)
    (hcode : (Cond.codeWith y bytes maxL ret hh).before args s = true) (hy : y.cls ≠ "java/lang/invoke/MethodHandle" ∧ y.cls ≠ "java/lang/invoke/VarHandle")
    {W9 : Nat} {Pre : Pt → Array Value → Prop} {Post : Pt → Array Value → Option Value → Pt → Prop} (hK : Back l R p e below s args y 3 W9 Pre Post)
    {g : JFrame} (hg : g.method = m) (hsize : g.locals.size = c.maxLocals) {argsL rest : List Value} (hlen : ∀ sig, parseMethodDescriptor y.desc = some sig → argsL.length = sig.parameters.length)
    (hstack : g.stack = argsL.reverse ++ rest) (hW : 2 * g.monitorRoom + (rest.map fun v => v.category).sum ≤ W9) (hdg : decode c.code g.pc = .ok (.invokestatic index, 3))
    (hpre : ∀ vm₁, s.WarmedH vm₁ → Pre ⟨T.setVm vm₁, locs, cells, slots⟩ argsL.toArray) :
    ∃ (v : Option Value) (vm₁ : Vm) (B : Pt), s.WarmedH vm₁ ∧ Stand p l e R s m args below meth c B.U B.locs B.cells B.slots ∧ Post ⟨T.setVm vm₁, locs, cells, slots⟩ argsL.toArray v B ∧
      ∀ target, Steps p.tables e below (B.U.setTop { g with pc := g.pc + 3, stack := v.toList ++ rest }) target → Steps p.tables e below (T.setTop g) target := by
  obtain ⟨mk, methM, cM, hnamed, hmethM, -, -, -, -, -, -, hsigM⟩ := Cond.codeWith_spec hcode
  have hstatic : methM.isStatic = true := Cond.static_spec hnamed hmethM hstat
  obtain ⟨kP, hkP, -⟩ := className_of_methodNamed hnamed
  have hinitP : kP.init = .initialized := Cond.initialized_spec (findClass_of_methodNamed hnamed) hkP hinit
  obtain ⟨vm₁, X₁, hstep₁⟩ := X.invokestatic hexec hown hlink hnamed hmethM hstatic hkP hinitP hy (g := g) hg (argsL := argsL) (rest := rest) (hlen _ hsigM) hstack hdg
  obtain ⟨v, B, X', hpost, hsteps⟩ := hK m meth c ⟨T.setVm vm₁, locs, cells, slots⟩ { g with stack := rest } (.invokestatic index) mk argsL.toArray X₁ hg hsize hdg hW (X₁.named hnamed) (hpre vm₁ X₁.warmed)
  exact ⟨v, vm₁, B, X₁.warmed, X', hpost, fun target h => hstep₁ _ fun acts => by rw [doInvoke_state]; exact hsteps.trans h⟩
theorem vx_runSW {y : MethodName} {bytes cc : ByteArray} {maxL nL mc ms n index : Nat} {ret : Option FieldType} {hh : List (Nat × Nat × Nat × Nat)} {ws : List Cond} {rm : Room} {Pc : Array Value → State → Prop} {Qc : Array Value → State → Outcome → State → Prop} {free : Addr → Prop} {Ts : List Cond} {own : String} {As rest : List Value} {g : JFrame}
    (S : CallFix p m c cc nL s args Ts own) (hM : Met l y ws rm Pc Qc mc ms free) (cw : vx_CSW R s args own index y bytes maxL ret hh ws rm mc ms n) (hp : PreS s H Pc As)
    (hg : g.method = m) (hn : As.length = n) (hsize : g.locals.size = nL) (hstack : g.stack = As.reverse ++ rest) (hW : 2 * g.monitorRoom + (rest.map fun v => v.category).sum ≤ 8) (hdg : decode cc g.pc = .ok (.invokestatic index, 3)) (hf : cells + mc ≤ R.cells ∧ slots + ms ≤ R.slots) :
    va_Run p l e R s m args below meth c H locs cells slots mc ms g rest (Qc As.toArray) (free) := by
  obtain ⟨⟨hrc, hrs, hfr, hlo, hws, hcw⟩, hcode, hini, hy, hlen, hl, hstt⟩ := cw
  have hK : Back l R p e below s args y 3 8 (PreOf R mc ms Pc) (PostOf Qc mc ms free) := va_backW (hh := hh) (bytes := bytes) (maxL := maxL) (ret := ret) hM hp.1 hrc hrs hfr hlo hws hcw (fun a' U hW => word_at hW (Or.inl (by first | rfl | simp [Cond.onTables, Cond.keeps, Cond.steady])) hini)
  obtain ⟨hx, hb, hml, ho, -⟩ := S
  intro T hT X
  obtain ⟨v, vm₁, ⟨U', l2, c2, s2⟩, hW₁, X', ⟨g', mk, t, L, e1, e2, hq, h1, hL, h2, h3⟩, st⟩ := vx_callSW X hx (hh := hh) (bytes := bytes) (maxL := maxL) (ret := ret) ho hl hstt hini hcode hy hK hg (hsize.trans hml.symm) (argsL := As) (rest := rest) (fun sig h => hn.trans (hlen sig h)) hstack hW (by rw [hb]; exact hdg)
    (fun vm₁ hW₁ => ⟨hf.1, hf.2, hp.2 (T.setVm vm₁) hT hW₁⟩)
  dsimp only [Pt.U, Pt.locs, Pt.cells, Pt.slots] at X' e1 e2 h1 h2 h3 st
  subst h1; subst h2; subst h3
  exact ⟨v, (T.setVm vm₁).calling g' mk As.toArray, t, U', L, hT, X', hL, e1, e2, hq, st⟩
/-- not caught here, past rows that name other classes: it goes on to the caller -/
theorem vx_outP {p : Program} {l : Launch} {e : Env} {R : Room} {s : State} {m : MethodId} {args : Array Value} {below : List Frame} {meth : Method} {c : Code} {H : Heap} {locs : List Loc} {cells slots : Nat} {free : Addr → Prop} {ls : Array Slot} {rest : List Value} {Qc : Array Value → State → Outcome → State → Prop} {XC : String → State → State → Prop}
    {pc : Nat} {own E : String} {ce : Cell} {q : Addr} {mc ms : Nat} (hown : s.vm.findClass own = some m.cls) (hlocks : meth.locks = false)
    (hpass : ∀ z ∈ c.exceptionTable.toList, covers z pc = false ∨ (z.catchType ≠ 0 ∧ ∃ nm : String, (Cond.classLink own z.catchType nm).before args s = true ∧ va_Nc E nm s)) (hcell : H[q]? = some ce) (hv : ce.vm = .none) (hcl : s.vm.findClass E = some ce.cls)
    (hx : ∀ t : State, t.heap = H → s.vm.Alike t.vm → XC E s t) (hf : ∀ z ∈ locs, free z.base) (hc : cells ≤ mc) (hs : slots ≤ ms) :
    vx_W p l e R s m args below meth c H locs cells slots (vx_MQ below Qc XC args s mc ms free) (F0 m pc ls rest) q := by
  intro T hT X
  have hpl : e.platform.magicAccessors = ({} : Platform).magicAccessors := by rw [X.admits.platform]
  obtain ⟨vm', hW', X', st⟩ := X.outThrough hlocks q (g := F0 m pc ls rest) rfl rfl rfl (cell := ce) (by rw [hT]; exact hcell) (by rw [hv]; rfl)
    (by obtain ⟨k9, h9, -⟩ := Vm.findClass_spec hcl; exact ⟨k9, h9⟩) (fun z hz => by
      rcases hpass z hz with h | ⟨hz0, nm, hl1, hn1⟩
      · exact Or.inl h
      · obtain ⟨c6, hc6, hcl6⟩ := Cond.classLink_spec hown hl1 e.platform hpl
        obtain ⟨a8, b8, h1, h2, h3⟩ := hn1
        cases Option.some.inj (h1.symm.trans hcl)
        cases Option.some.inj (h2.symm.trans hc6)
        exact Or.inr ⟨hz0, _, hcl6, h3⟩)
  obtain ⟨g₀, hfr⟩ := X'.frames_eq
  have hcell9 : ((T.setVm vm').setFrames (.throwing q :: below)).heap[q]? = some ce := by
    show T.heap[q]? = some ce
    rw [hT]; exact hcell
  have hend : Ended ((T.setVm vm').setFrames (.throwing q :: below)) below (.threw q) := State.frames_setFrames _ (State.cur_lt_of_frames hfr)
  refine ⟨(T.setVm vm').setFrames (.throwing q :: below), ?_, .threw q, X'.here.running, hend, Or.inr ⟨q, rfl, E, ce, locs, hx _ hT (X'.ends _).1.alike, hcell9, hv, hcl, (X'.ends _).1, (X'.ends _).2.mono hc hs, hf⟩⟩
  rw [X.pushThrowing_eq]
  exact st
/-- a thing of a world lies in the heap -/
theorem vx_lt {D : va_G} {cl : List vw_C} {ws : va_W} {H1 : Heap} (h : va_P D cl ws H1) {k : Nat} {q : Nat × va_E} (hk : ws[k]? = some q) : q.1 < H1.size := (h k q hk).lt
end VXS
/-! ===== END ===== -/
/-! ===== BEGIN methods with a table of their own: called by a name, returning or throwing ===== -/
section VXH
/-! vx_backW, vx_callVX, vx_callSX, vx_callVW, vx_runVW, vx_runVX, vx_runSX, vx_ofWH follow the same proofs as their sisters above (Free/Laws.lean, Shelf42/LK1.lean); vx_outP calls Shelf42/NT130.lean (outThrough). -/
section
variable {l : Launch} {R : Room} {p : Program} {e : Env} {below : List Frame} {s : State} {sargs : Array Value} {y : MethodName} {len W9 : Nat}
theorem vx_backW {ws : List Cond} {rm : Room} {Pc : Array Value → State → Prop} {Qc : Array Value → State → Outcome → State → Prop} {XC : String → State → State → Prop} {mc ms : Nat} {free : Addr → Prop} {bytes : ByteArray} {maxL : Nat} {ret : Option FieldType} {hh : List (Nat × Nat × Nat × Nat)}
    (hM : vx_Met l y ws rm Pc Qc XC mc ms free) (hblind : FrameBlind Pc) (hrc : rm.cells = mc) (hrs : rm.slots = ms)
    (hframes : rm.frames + 1 ≤ R.frames) (hlocals : W9 + (maxL + 11) + rm.locals ≤ R.locals)
    (hws : ∀ w ∈ ws, ∀ a' U, s.WarmedH U.vm → w.before a' U = true) (hcode : Cond.codeWith y bytes maxL ret hh ∈ ws) (hinit : ∀ a' U, s.WarmedH U.vm → (Cond.initialized y.cls).before a' U = true) :
    vx_Back l R p e below s sargs y len W9 (PreOf R mc ms Pc) (PostOf Qc mc ms free) (vx_Post XC mc ms free) := by
  intro m meth c A g ig mk a X hg hsize hdg hW hn hp
  have h1 : (headSpec ws rm).pre.before a A.U = true := atoms_intro fun w hw => hws w hw _ _ X.warmed
  have h2 : (Cond.codeWith y bytes maxL ret hh).before a A.U = true := hws _ hcode _ _ X.warmed
  have h3 : (Cond.initialized y.cls).before a A.U = true := hinit _ _ X.warmed
  have h4 : A.cells + (headSpec ws rm).room.cells ≤ R.cells := by rw [show (headSpec ws rm).room.cells = mc from hrc]; exact hp.1
  have h5 : A.slots + (headSpec ws rm).room.slots ≤ R.slots := by rw [show (headSpec ws rm).room.slots = ms from hrs]; exact hp.2.1
  have hPc : Pc a (A.U.calling g mk a) := hblind _ _ _ _ hp.2.2
  obtain ⟨U, Ls, c0, s0⟩ := A
  dsimp only [Pt.U, Pt.locs, Pt.cells, Pt.slots] at h1 h2 h3 h4 h5 X hn hPc ⊢
  obtain ⟨m9, methY, cY, hn9, hmY, hcY, -, hlY, -⟩ := Cond.codeWith_spec h2
  cases Option.some.inj (hn9.symm.trans hn)
  obtain ⟨kY, hkY, -⟩ := className_of_methodNamed hn
  have hinitY : kY.init = .initialized := Cond.initialized_spec (findClass_of_methodNamed hn) hkY h3
  have h : At U g.method c below := by rw [hg]; exact X.here
  have hlocals9 : W9 + (maxL + 11) + (headSpec ws rm).room.locals ≤ R.locals := hlocals
  have happ : (headSpec ws rm).appliesLoose y e.platform (U.calling g mk a) = true :=
    Spec.appliesLoose_calling (g := g) h hdg hn hkY hinitY
      (X.room_calling (g := g) (R' := (headSpec ws rm).room) hsize hmY hcY hframes (by rw [hlY]; omega) h4 h5) h1
  obtain ⟨mid, hmid⟩ := h.above
  have hfr : (U.setTop g).frames = (.java g :: mid) ++ below := by rw [State.frames_setTop' g h.top, hmid]; rfl
  obtain ⟨o, s₂, hsteps, -, hend, hq⟩ := Steps.callFree hM p X.admits X.cas X.clock (acts := []) hfr happ hPc trivial
  have hq' : vx_Q Qc XC mc ms free a (U.calling g mk a) o s₂ := hq
  rw [State.frames_setTop' g h.top] at hend
  obtain ⟨g₀, hg0⟩ := Option.isSome_iff_exists.mp h.top
  obtain ⟨r, hr⟩ := State.topJava?_eq_some.mp hg0
  have hr' : (({ U with heap := s₂.heap, slotsUsed := s₂.slotsUsed } : State).setVm s₂.vm).frames = .java g₀ :: r := hr
  rcases hq' with ⟨hqc, L, hfe, hL⟩ | ⟨q, rfl, E, ce, L, hx, hce, hcv, hcl, hW₂, hsm, hL⟩
  · obtain ⟨⟨v, rfl⟩, hW₂, e2, q2, q3, q4, q5, q6⟩ := id hfe
    have e3 : s₂ = ({ (U.calling g mk a).setFrames s₂.frames with heap := s₂.heap, slotsUsed := s₂.slotsUsed } : State).setVm s₂.vm := by
      have : s₂ = ({ s₂ with vm := (U.calling g mk a).vm } : State).setVm s₂.vm := rfl
      rw [e2] at this
      exact this
    obtain ⟨c₂, i₂, len₂, hc₂, hd₂, hf₂⟩ := hend
    have hW' : U.WarmedH s₂.vm := hW₂
    have hcc : c₂ = c := by
      have h1 : s₂.code? g.method = U.code? g.method := by
        rw [State.code?_eq, State.code?_eq, hW'.alike.method?]
      exact Option.some.inj (hc₂.symm.trans (h1.trans h.code))
    subst hcc
    have hlen : len₂ = len := by rw [hdg] at hd₂; cases hd₂; rfl
    subst hlen
    have hs₂ : s₂ = (({ U with heap := s₂.heap, slotsUsed := s₂.slotsUsed } : State).setVm s₂.vm).setTop { g with pc := g.pc + len₂, stack := v.toList ++ g.stack } := by
      refine e3.trans ?_
      rw [hf₂, State.calling_eq h.top, State.setFrames_setFrames, State.setTop_of_frames _ hr', hr]
      rfl
    have hsame : U.sameButNew ({ U with heap := s₂.heap, slotsUsed := s₂.slotsUsed } : State) L mc ms := by
      refine ⟨?_, q2, q3, q4, q5, q6⟩
      obtain ⟨t, ht, -⟩ := State.frames_cons hr
      show ({ U with heap := s₂.heap, slotsUsed := s₂.slotsUsed } : State) = { U.setFrames U.frames with heap := s₂.heap, slotsUsed := s₂.slotsUsed }
      rw [State.setFrames_self ht]
    subst hg
    refine Or.inl ⟨v, ⟨(({ U with heap := s₂.heap, slotsUsed := s₂.slotsUsed } : State).setVm s₂.vm), Ls ++ L, c0 + mc, s0 + ms⟩,
      ⟨X.admits, X.cas, X.clock, X.frames, X.room, X.hears, X.method, X.code, (X.here.setHeapUsed s₂.heap s₂.slotsUsed).setVm hW'.alike, X.tail, State.WarmedH.trans X.warmed hW', X.limits, X.bytes, X.same.trans (hsame.setVm s.vm)⟩,
      ⟨g, mk, s₂, L, rfl, rfl, hqc, rfl, hL, rfl, rfl⟩, ?_⟩
    show Steps p.tables e below _ ((({ U with heap := s₂.heap, slotsUsed := s₂.slotsUsed } : State).setVm s₂.vm).setTop { g with pc := g.pc + len₂, stack := v.toList ++ g.stack })
    rw [← hs₂]
    exact hsteps
  · obtain ⟨e2, q2, q3, q4, q5, q6⟩ := id hsm
    have e3 : s₂ = ({ (U.calling g mk a).setFrames s₂.frames with heap := s₂.heap, slotsUsed := s₂.slotsUsed } : State).setVm s₂.vm := by
      have : s₂ = ({ s₂ with vm := (U.calling g mk a).vm } : State).setVm s₂.vm := rfl
      rw [e2] at this
      exact this
    have hf₂ : s₂.frames = .throwing q :: .java g :: U.frames.tail := hend
    have hW' : U.WarmedH s₂.vm := hW₂
    have hs₂ : s₂ = ((({ U with heap := s₂.heap, slotsUsed := s₂.slotsUsed } : State).setVm s₂.vm).setTop g).pushFrame (.throwing q) := by
      refine e3.trans ?_
      rw [hf₂, State.calling_eq h.top, State.setFrames_setFrames, State.pushFrame, State.frames_setTop _ hr', State.setTop_of_frames _ hr', State.setFrames_setFrames, hr]
      rfl
    have hsame : U.sameButNew ({ U with heap := s₂.heap, slotsUsed := s₂.slotsUsed } : State) L mc ms := by
      refine ⟨?_, q2, q3, q4, q5, q6⟩
      obtain ⟨t, ht, -⟩ := State.frames_cons hr
      show ({ U with heap := s₂.heap, slotsUsed := s₂.slotsUsed } : State) = { U.setFrames U.frames with heap := s₂.heap, slotsUsed := s₂.slotsUsed }
      rw [State.setFrames_self ht]
    subst hg
    refine Or.inr ⟨q, ⟨(({ U with heap := s₂.heap, slotsUsed := s₂.slotsUsed } : State).setVm s₂.vm), Ls ++ L, c0 + mc, s0 + ms⟩,
      ⟨X.admits, X.cas, X.clock, X.frames, X.room, X.hears, X.method, X.code, (X.here.setHeapUsed s₂.heap s₂.slotsUsed).setVm hW'.alike, X.tail, State.WarmedH.trans X.warmed hW', X.limits, X.bytes, X.same.trans (hsame.setVm s.vm)⟩,
      ⟨g, mk, s₂, L, E, ce, rfl, rfl, hx, hce, hcv, hcl, rfl, hL, rfl, rfl⟩, ?_⟩
    show Steps p.tables e below _ (((({ U with heap := s₂.heap, slotsUsed := s₂.slotsUsed } : State).setVm s₂.vm).setTop g).pushFrame (.throwing q))
    rw [← hs₂]
    exact hsteps
end
variable {p : Program} {l : Launch} {e : Env} {R : Room} {s : State} {m : MethodId} {args : Array Value} {below : List Frame} {meth : Method} {c : Code} {T : State} {H : Heap} {locs : List Loc} {cells slots : Nat}
theorem vx_callVX (X : Stand p l e R s m args below meth c T locs cells slots) (hexec : p.tables.exec = Jvm.exec) {own C : String} {index : Nat} {y : MethodName} {bytes : ByteArray} {maxL : Nat} {ret : Option FieldType} {hh : List (Nat × Nat × Nat × Nat)}
    (hown : s.vm.findClass own = some m.cls) (hlink : (Cond.methodLink own index y).before args s = true) (hinst : (Cond.instanceMethod y).before args s = true) (hsel : (Cond.selects C y y).before args s = true)
    (hcode : (Cond.codeWith y bytes maxL ret hh).before args s = true) (hy : y.cls ≠ "java/lang/invoke/MethodHandle" ∧ y.cls ≠ "java/lang/invoke/VarHandle")
    {W9 : Nat} {Pre : Pt → Array Value → Prop} {Post : Pt → Array Value → Option Value → Pt → Prop} {PostX : Pt → Array Value → Addr → Pt → Prop} (hK : vx_Back l R p e below s args y 3 W9 Pre Post PostX)
    {b : Addr} {cellB : Cell} (hcell : T.heap[b]? = some cellB) (hobj : cellB.vm.isStatics = false) (hcls : s.vm.findClass C = some cellB.cls)
    {g : JFrame} (hg : g.method = m) (hsize : g.locals.size = c.maxLocals) {argsL rest : List Value} (hlen : ∀ sig, parseMethodDescriptor y.desc = some sig → argsL.length = sig.parameters.length)
    (hstack : g.stack = argsL.reverse ++ .ref b :: rest) (hW : 2 * g.monitorRoom + (rest.map fun v => v.category).sum ≤ W9) (hdg : decode c.code g.pc = .ok (.invokevirtual index, 3))
    (hpre : ∀ vm₁, s.WarmedH vm₁ → Pre ⟨T.setVm vm₁, locs, cells, slots⟩ (Value.ref b :: argsL).toArray) :
    (∃ (v : Option Value) (vm₁ : Vm) (B : Pt), s.WarmedH vm₁ ∧ Stand p l e R s m args below meth c B.U B.locs B.cells B.slots ∧ Post ⟨T.setVm vm₁, locs, cells, slots⟩ (Value.ref b :: argsL).toArray v B ∧
      ∀ target, Steps p.tables e below (B.U.setTop { g with pc := g.pc + 3, stack := v.toList ++ rest }) target → Steps p.tables e below (T.setTop g) target) ∨
    (∃ (q : Addr) (vm₁ : Vm) (B : Pt), s.WarmedH vm₁ ∧ Stand p l e R s m args below meth c B.U B.locs B.cells B.slots ∧ PostX ⟨T.setVm vm₁, locs, cells, slots⟩ (Value.ref b :: argsL).toArray q B ∧
      Steps p.tables e below (T.setTop g) ((B.U.setTop { g with stack := rest }).pushFrame (.throwing q))) := by
  obtain ⟨mk, methM, hnamed, hmethM, hstM, habM⟩ := Cond.instanceMethod_spec hinst
  obtain ⟨m8, methM', cM, hn8, hmethM', -, -, -, -, -, -, hsigM⟩ := Cond.codeWith_spec hcode
  cases Option.some.inj (hn8.symm.trans hnamed)
  cases hmethM.symm.trans hmethM'
  obtain ⟨c2, r2, m2, q1, q2, q3, q4, kP, hkP, hkPi⟩ := Cond.selects_spec hsel
  cases hcls.symm.trans q1
  cases (State.methodFound?_of_named hnamed hy).symm.trans q2
  cases hnamed.symm.trans q3
  have hselP : selectMethod e.platform s.vm cellB.cls mk = .method mk := by rw [Launch.admits_selectMethod X.admits]; exact q4
  obtain ⟨vm₁, X₁, hstep₁⟩ := X.invokevirtual hexec hown hlink hnamed hmethM hstM hkP hkPi hy (a := b) (cell := cellB) hcell
    (fun z h => by rw [h] at hobj; cases hobj) hselP hmethM habM hkP hkPi (g := g) hg (argsL := argsL) (rest := rest) (hlen _ hsigM) hstack hdg
  rcases hK m meth c ⟨T.setVm vm₁, locs, cells, slots⟩ { g with stack := rest } (.invokevirtual index) mk (Value.ref b :: argsL).toArray X₁ hg hsize hdg hW (X₁.named hnamed) (hpre vm₁ X₁.warmed) with ⟨v, B, X', hpost, hsteps⟩ | ⟨q, B, X', hpost, hsteps⟩
  · exact Or.inl ⟨v, vm₁, B, X₁.warmed, X', hpost, fun target h => hstep₁ _ fun acts => by rw [doInvoke_state]; exact hsteps.trans h⟩
  · exact Or.inr ⟨q, vm₁, B, X₁.warmed, X', hpost, hstep₁ _ fun acts => by rw [doInvoke_state]; exact hsteps⟩
theorem vx_callSX (X : Stand p l e R s m args below meth c T locs cells slots) (hexec : p.tables.exec = Jvm.exec) {own : String} {index : Nat} {y : MethodName} {bytes : ByteArray} {maxL : Nat} {ret : Option FieldType} {hh : List (Nat × Nat × Nat × Nat)}
    (hown : s.vm.findClass own = some m.cls) (hlink : (Cond.methodLink own index y).before args s = true) (hstat : (Cond.static y).before args s = true) (hinit : (Cond.initialized y.cls).before args s = true)
    (hcode : (Cond.codeWith y bytes maxL ret hh).before args s = true) (hy : y.cls ≠ "java/lang/invoke/MethodHandle" ∧ y.cls ≠ "java/lang/invoke/VarHandle")
    {W9 : Nat} {Pre : Pt → Array Value → Prop} {Post : Pt → Array Value → Option Value → Pt → Prop} {PostX : Pt → Array Value → Addr → Pt → Prop} (hK : vx_Back l R p e below s args y 3 W9 Pre Post PostX)
    {g : JFrame} (hg : g.method = m) (hsize : g.locals.size = c.maxLocals) {argsL rest : List Value} (hlen : ∀ sig, parseMethodDescriptor y.desc = some sig → argsL.length = sig.parameters.length)
    (hstack : g.stack = argsL.reverse ++ rest) (hW : 2 * g.monitorRoom + (rest.map fun v => v.category).sum ≤ W9) (hdg : decode c.code g.pc = .ok (.invokestatic index, 3))
    (hpre : ∀ vm₁, s.WarmedH vm₁ → Pre ⟨T.setVm vm₁, locs, cells, slots⟩ argsL.toArray) :
    (∃ (v : Option Value) (vm₁ : Vm) (B : Pt), s.WarmedH vm₁ ∧ Stand p l e R s m args below meth c B.U B.locs B.cells B.slots ∧ Post ⟨T.setVm vm₁, locs, cells, slots⟩ argsL.toArray v B ∧
      ∀ target, Steps p.tables e below (B.U.setTop { g with pc := g.pc + 3, stack := v.toList ++ rest }) target → Steps p.tables e below (T.setTop g) target) ∨
    (∃ (q : Addr) (vm₁ : Vm) (B : Pt), s.WarmedH vm₁ ∧ Stand p l e R s m args below meth c B.U B.locs B.cells B.slots ∧ PostX ⟨T.setVm vm₁, locs, cells, slots⟩ argsL.toArray q B ∧
      Steps p.tables e below (T.setTop g) ((B.U.setTop { g with stack := rest }).pushFrame (.throwing q))) := by
  obtain ⟨mk, methM, cM, hnamed, hmethM, -, -, -, -, -, -, hsigM⟩ := Cond.codeWith_spec hcode
  have hstatic : methM.isStatic = true := Cond.static_spec hnamed hmethM hstat
  obtain ⟨kP, hkP, -⟩ := className_of_methodNamed hnamed
  have hinitP : kP.init = .initialized := Cond.initialized_spec (findClass_of_methodNamed hnamed) hkP hinit
  obtain ⟨vm₁, X₁, hstep₁⟩ := X.invokestatic hexec hown hlink hnamed hmethM hstatic hkP hinitP hy (g := g) hg (argsL := argsL) (rest := rest) (hlen _ hsigM) hstack hdg
  rcases hK m meth c ⟨T.setVm vm₁, locs, cells, slots⟩ { g with stack := rest } (.invokestatic index) mk argsL.toArray X₁ hg hsize hdg hW (X₁.named hnamed) (hpre vm₁ X₁.warmed) with ⟨v, B, X', hpost, hsteps⟩ | ⟨q, B, X', hpost, hsteps⟩
  · exact Or.inl ⟨v, vm₁, B, X₁.warmed, X', hpost, fun target h => hstep₁ _ fun acts => by rw [doInvoke_state]; exact hsteps.trans h⟩
  · exact Or.inr ⟨q, vm₁, B, X₁.warmed, X', hpost, hstep₁ _ fun acts => by rw [doInvoke_state]; exact hsteps⟩
theorem vx_callVW (X : Stand p l e R s m args below meth c T locs cells slots) (hexec : p.tables.exec = Jvm.exec) {own C : String} {index : Nat} {y : MethodName} {bytes : ByteArray} {maxL : Nat} {ret : Option FieldType} {hh : List (Nat × Nat × Nat × Nat)}
    (hown : s.vm.findClass own = some m.cls) (hlink : (Cond.methodLink own index y).before args s = true) (hinst : (Cond.instanceMethod y).before args s = true) (hsel : (Cond.selects C y y).before args s = true)
    (hcode : (Cond.codeWith y bytes maxL ret hh).before args s = true) (hy : y.cls ≠ "java/lang/invoke/MethodHandle" ∧ y.cls ≠ "java/lang/invoke/VarHandle")
    {W9 : Nat} {Pre : Pt → Array Value → Prop} {Post : Pt → Array Value → Option Value → Pt → Prop} (hK : Back l R p e below s args y 3 W9 Pre Post)
    {b : Addr} {cellB : Cell} (hcell : T.heap[b]? = some cellB) (hobj : cellB.vm.isStatics = false) (hcls : s.vm.findClass C = some cellB.cls)
    {g : JFrame} (hg : g.method = m) (hsize : g.locals.size = c.maxLocals) {argsL rest : List Value} (hlen : ∀ sig, parseMethodDescriptor y.desc = some sig → argsL.length = sig.parameters.length)
    (hstack : g.stack = argsL.reverse ++ .ref b :: rest) (hW : 2 * g.monitorRoom + (rest.map fun v => v.category).sum ≤ W9) (hdg : decode c.code g.pc = .ok (.invokevirtual index, 3))
    (hpre : ∀ vm₁, s.WarmedH vm₁ → Pre ⟨T.setVm vm₁, locs, cells, slots⟩ (Value.ref b :: argsL).toArray) :
    ∃ (v : Option Value) (vm₁ : Vm) (B : Pt), s.WarmedH vm₁ ∧ Stand p l e R s m args below meth c B.U B.locs B.cells B.slots ∧ Post ⟨T.setVm vm₁, locs, cells, slots⟩ (Value.ref b :: argsL).toArray v B ∧
      ∀ target, Steps p.tables e below (B.U.setTop { g with pc := g.pc + 3, stack := v.toList ++ rest }) target → Steps p.tables e below (T.setTop g) target := by
  obtain ⟨mk, methM, hnamed, hmethM, hstM, habM⟩ := Cond.instanceMethod_spec hinst
  obtain ⟨m8, methM', cM, hn8, hmethM', -, -, -, -, -, -, hsigM⟩ := Cond.codeWith_spec hcode
  cases Option.some.inj (hn8.symm.trans hnamed)
  cases hmethM.symm.trans hmethM'
  obtain ⟨c2, r2, m2, q1, q2, q3, q4, kP, hkP, hkPi⟩ := Cond.selects_spec hsel
  cases hcls.symm.trans q1
  cases (State.methodFound?_of_named hnamed hy).symm.trans q2
  cases hnamed.symm.trans q3
  have hselP : selectMethod e.platform s.vm cellB.cls mk = .method mk := by rw [Launch.admits_selectMethod X.admits]; exact q4
  obtain ⟨vm₁, X₁, hstep₁⟩ := X.invokevirtual hexec hown hlink hnamed hmethM hstM hkP hkPi hy (a := b) (cell := cellB) hcell
    (fun z h => by rw [h] at hobj; cases hobj) hselP hmethM habM hkP hkPi (g := g) hg (argsL := argsL) (rest := rest) (hlen _ hsigM) hstack hdg
  obtain ⟨v, B, X', hpost, hsteps⟩ := hK m meth c ⟨T.setVm vm₁, locs, cells, slots⟩ { g with stack := rest } (.invokevirtual index) mk (Value.ref b :: argsL).toArray X₁ hg hsize hdg hW (X₁.named hnamed) (hpre vm₁ X₁.warmed)
  exact ⟨v, vm₁, B, X₁.warmed, X', hpost, fun target h => hstep₁ _ fun acts => by rw [doInvoke_state]; exact hsteps.trans h⟩
abbrev vx_CVW (R : Room) (s : State) (args : Array Value) (own C : String) (index : Nat) (y : MethodName) (bytes : ByteArray) (maxL : Nat) (ret : Option FieldType) (hh : List (Nat × Nat × Nat × Nat)) (ws : List Cond) (rm : Room) (mc ms n : Nat) : Prop :=
  (rm.cells = mc ∧ rm.slots = ms ∧ rm.frames + 1 ≤ R.frames ∧ 8 + (maxL + 11) + rm.locals ≤ R.locals ∧ (∀ w ∈ ws, ∀ (a' : Array Value) (U : State), s.WarmedH U.vm → w.before a' U = true) ∧ Cond.codeWith y bytes maxL ret hh ∈ ws) ∧
  (Cond.codeWith y bytes maxL ret hh).before args s = true ∧ (Cond.initialized y.cls).before args s = true ∧ (y.cls ≠ "java/lang/invoke/MethodHandle" ∧ y.cls ≠ "java/lang/invoke/VarHandle") ∧
  (∀ sig, parseMethodDescriptor y.desc = some sig → n = sig.parameters.length) ∧ (Cond.methodLink own index y).before args s = true ∧ (Cond.instanceMethod y).before args s = true ∧ (Cond.selects C y y).before args s = true
theorem vx_cwVW {own C : String} {index maxL mc ms : Nat} {y : MethodName} {bytes : ByteArray} {ret : Option FieldType} {hh : List (Nat × Nat × Nat × Nat)} {Ts ws ws' : List Cond} {rm : Room} (n : Nat) (ht : ∀ w ∈ Ts, w.before args s = true) (hT : GoodIn Ts (wsV own index C y ws)) (hw : ws = Cond.codeWith y bytes maxL ret hh :: ws') (hrc : rm.cells = mc) (hrs : rm.slots = ms)
    (hd : y.cls = C ∧ y.cls ≠ "java/lang/invoke/MethodHandle" ∧ y.cls ≠ "java/lang/invoke/VarHandle" ∧ (parseMethodDescriptor y.desc).map (fun d => d.parameters.length) = some n) (hR : rm.frames + 1 ≤ R.frames ∧ 8 + (maxL + 11) + rm.locals ≤ R.locals) :
    vx_CVW R s args own C index y bytes maxL ret hh ws rm mc ms n := by
  obtain ⟨hC, hd⟩ := hd
  subst hC
  have ok : ∀ w ∈ wsV own index y.cls y ws, w.before args s = true := fun w h => ht w (hT w h).1
  have hG : GoodIn Ts ws := fun w h => hT w (by unfold wsV; exact List.mem_append_right _ h)
  have hc : Cond.codeWith y bytes maxL ret hh ∈ ws := by rw [hw]; exact List.mem_cons_self
  refine ⟨⟨hrc, hrs, hR.1, hR.2, pay_in ht hG, hc⟩, ht _ (hG _ hc).1, ok _ (by simp [wsV]), ⟨hd.1, hd.2.1⟩, fun sig h => ?_, ok _ (by simp [wsV]), ok _ (by simp [wsV]), ok _ (by simp [wsV])⟩
  have h2 := hd.2.2
  rw [h] at h2
  exact (Option.some.inj h2).symm
theorem vx_runVW {y : MethodName} {bytes cc : ByteArray} {maxL nL mc ms n index : Nat} {ret : Option FieldType} {hh : List (Nat × Nat × Nat × Nat)} {ws : List Cond} {rm : Room} {Pc : Array Value → State → Prop} {Qc : Array Value → State → Outcome → State → Prop} {free : Addr → Prop} {Ts : List Cond} {own C : String} {b : Addr} {As rest : List Value} {g : JFrame}
    (S : CallFix p m c cc nL s args Ts own) (hM : Met l y ws rm Pc Qc mc ms free) (cw : vx_CVW R s args own C index y bytes maxL ret hh ws rm mc ms n) (hp : PreV s H C b Pc As)
    (hg : g.method = m) (hn : As.length = n) (hsize : g.locals.size = nL) (hstack : g.stack = As.reverse ++ .ref b :: rest) (hW : 2 * g.monitorRoom + (rest.map fun v => v.category).sum ≤ 8) (hdg : decode cc g.pc = .ok (.invokevirtual index, 3)) (hf : cells + mc ≤ R.cells ∧ slots + ms ≤ R.slots) :
    va_Run p l e R s m args below meth c H locs cells slots mc ms g rest (Qc (Value.ref b :: As).toArray) free := by
  obtain ⟨⟨hrc, hrs, hfr, hlo, hws, hcw⟩, hcode, hini, hy, hlen, hl, hin, hse⟩ := cw
  have hK : Back l R p e below s args y 3 8 (PreOf R mc ms Pc) (PostOf Qc mc ms free) := va_backW (hh := hh) (bytes := bytes) (maxL := maxL) (ret := ret) hM hp.1 hrc hrs hfr hlo hws hcw (fun a' U hW => word_at hW (Or.inl (by first | rfl | simp [Cond.onTables, Cond.keeps, Cond.steady])) hini)
  obtain ⟨hx, hb, hml, ho, -⟩ := S
  obtain ⟨-, ⟨cellB, hcB, hoB, hclB⟩, hPc⟩ := hp
  intro T hT X
  obtain ⟨v, vm₁, ⟨U', l2, c2, s2⟩, hW₁, X', ⟨g', mk, t, L, e1, e2, hq, h1, hL, h2, h3⟩, st⟩ := vx_callVW X hx (C := C) (hh := hh) (bytes := bytes) (maxL := maxL) (ret := ret) ho hl hin hse hcode hy hK (by rw [hT]; exact hcB) hoB hclB hg (hsize.trans hml.symm) (argsL := As) (rest := rest) (fun sig h => hn.trans (hlen sig h)) hstack hW (by rw [hb]; exact hdg)
    (fun vm₁ hW₁ => ⟨hf.1, hf.2, hPc (T.setVm vm₁) hT hW₁⟩)
  dsimp only [Pt.U, Pt.locs, Pt.cells, Pt.slots] at X' e1 e2 h1 h2 h3 st
  subst h1; subst h2; subst h3
  exact ⟨v, (T.setVm vm₁).calling g' mk (Value.ref b :: As).toArray, t, U', L, hT, X', hL, e1, e2, hq, st⟩
section
variable {y : MethodName} {bytes cc : ByteArray} {maxL nL mc ms n index : Nat} {ret : Option FieldType} {ws : List Cond} {rm : Room} {Pc : Array Value → State → Prop} {Qc : Array Value → State → Outcome → State → Prop} {XC : String → State → State → Prop} {free : Addr → Prop} {Ts : List Cond} {own C : String} {b : Addr} {As rest : List Value} {g : JFrame}
theorem vx_runVX {hh : List (Nat × Nat × Nat × Nat)} (S : CallFix p m c cc nL s args Ts own) (hM : vx_Met l y ws rm Pc Qc XC mc ms free) (cw : vx_CVW R s args own C index y bytes maxL ret hh ws rm mc ms n) (hp : PreV s H C b Pc As)
    (hg : g.method = m) (hn : As.length = n) (hsize : g.locals.size = nL) (hstack : g.stack = As.reverse ++ .ref b :: rest) (hW : 2 * g.monitorRoom + (rest.map fun v => v.category).sum ≤ 8) (hdg : decode cc g.pc = .ok (.invokevirtual index, 3)) (hf : cells + mc ≤ R.cells ∧ slots + ms ≤ R.slots) :
    vx_Run p l e R s m args below meth c H locs cells slots mc ms g rest (Qc (Value.ref b :: As).toArray) XC free := by
  obtain ⟨⟨hrc, hrs, hfr, hlo, hws, hcw⟩, hcode, hini, hy, hlen, hl, hin, hse⟩ := cw
  have hK : vx_Back l R p e below s args y 3 8 (PreOf R mc ms Pc) (PostOf Qc mc ms free) (vx_Post XC mc ms free) := vx_backW (hh := hh) (bytes := bytes) (maxL := maxL) (ret := ret) hM hp.1 hrc hrs hfr hlo hws hcw (fun a' U hW => word_at hW (Or.inl (by first | rfl | simp [Cond.onTables, Cond.keeps, Cond.steady])) hini)
  obtain ⟨hx, hb, hml, ho, -⟩ := S
  obtain ⟨-, ⟨cellB, hcB, hoB, hclB⟩, hPc⟩ := hp
  intro T hT X
  rcases vx_callVX X hx (C := C) (hh := hh) (bytes := bytes) (maxL := maxL) (ret := ret) ho hl hin hse hcode hy hK (by rw [hT]; exact hcB) hoB hclB hg (hsize.trans hml.symm) (argsL := As) (rest := rest) (fun sig h => hn.trans (hlen sig h)) hstack hW (by rw [hb]; exact hdg)
    (fun vm₁ hW₁ => ⟨hf.1, hf.2, hPc (T.setVm vm₁) hT hW₁⟩) with ⟨v, vm₁, ⟨U', l2, c2, s2⟩, hW₁, X', ⟨g', mk, t, L, e1, e2, hq, h1, hL, h2, h3⟩, st⟩ | ⟨q, vm₁, ⟨U', l2, c2, s2⟩, hW₁, X', ⟨g', mk, t, L, E, ce, e1, e2, hq, hce, hcv, hcl, h1, hL, h2, h3⟩, st⟩
  · dsimp only [Pt.U, Pt.locs, Pt.cells, Pt.slots] at X' e1 e2 h1 h2 h3 st
    subst h1; subst h2; subst h3
    exact Or.inl ⟨v, (T.setVm vm₁).calling g' mk (Value.ref b :: As).toArray, t, U', L, hT, X', hL, e1, e2, hq, st⟩
  · dsimp only [Pt.U, Pt.locs, Pt.cells, Pt.slots] at X' e1 e2 h1 h2 h3 st hcl
    subst h1; subst h2; subst h3
    exact Or.inr ⟨q, (T.setVm vm₁).calling g' mk (Value.ref b :: As).toArray, t, U', L, E, ce, hT, X', hL, e1, e2, hq, hce, hcv, vx_cls hW₁ hcl, st⟩
theorem vx_runSX {hh : List (Nat × Nat × Nat × Nat)} (S : CallFix p m c cc nL s args Ts own) (hM : vx_Met l y ws rm Pc Qc XC mc ms free) (cw : vx_CSW R s args own index y bytes maxL ret hh ws rm mc ms n) (hp : PreS s H Pc As)
    (hg : g.method = m) (hn : As.length = n) (hsize : g.locals.size = nL) (hstack : g.stack = As.reverse ++ rest) (hW : 2 * g.monitorRoom + (rest.map fun v => v.category).sum ≤ 8) (hdg : decode cc g.pc = .ok (.invokestatic index, 3)) (hf : cells + mc ≤ R.cells ∧ slots + ms ≤ R.slots) :
    vx_Run p l e R s m args below meth c H locs cells slots mc ms g rest (Qc As.toArray) XC free := by
  obtain ⟨⟨hrc, hrs, hfr, hlo, hws, hcw⟩, hcode, hini, hy, hlen, hl, hstt⟩ := cw
  have hK : vx_Back l R p e below s args y 3 8 (PreOf R mc ms Pc) (PostOf Qc mc ms free) (vx_Post XC mc ms free) := vx_backW (hh := hh) (bytes := bytes) (maxL := maxL) (ret := ret) hM hp.1 hrc hrs hfr hlo hws hcw (fun a' U hW => word_at hW (Or.inl (by first | rfl | simp [Cond.onTables, Cond.keeps, Cond.steady])) hini)
  obtain ⟨hx, hb, hml, ho, -⟩ := S
  intro T hT X
  rcases vx_callSX X hx (hh := hh) (bytes := bytes) (maxL := maxL) (ret := ret) ho hl hstt hini hcode hy hK hg (hsize.trans hml.symm) (argsL := As) (rest := rest) (fun sig h => hn.trans (hlen sig h)) hstack hW (by rw [hb]; exact hdg)
    (fun vm₁ hW₁ => ⟨hf.1, hf.2, hp.2 (T.setVm vm₁) hT hW₁⟩) with ⟨v, vm₁, ⟨U', l2, c2, s2⟩, hW₁, X', ⟨g', mk, t, L, e1, e2, hq, h1, hL, h2, h3⟩, st⟩ | ⟨q, vm₁, ⟨U', l2, c2, s2⟩, hW₁, X', ⟨g', mk, t, L, E, ce, e1, e2, hq, hce, hcv, hcl, h1, hL, h2, h3⟩, st⟩
  · dsimp only [Pt.U, Pt.locs, Pt.cells, Pt.slots] at X' e1 e2 h1 h2 h3 st
    subst h1; subst h2; subst h3
    exact Or.inl ⟨v, (T.setVm vm₁).calling g' mk As.toArray, t, U', L, hT, X', hL, e1, e2, hq, st⟩
  · dsimp only [Pt.U, Pt.locs, Pt.cells, Pt.slots] at X' e1 e2 h1 h2 h3 st hcl
    subst h1; subst h2; subst h3
    exact Or.inr ⟨q, (T.setVm vm₁).calling g' mk As.toArray, t, U', L, E, ce, hT, X', hL, e1, e2, hq, hce, hcv, vx_cls hW₁ hcl, st⟩
end
end VXH
theorem vx_ofWH {l : Launch} {y : MethodName} {ws ws' : List Cond} {rm : Room} {Pc : Array Value → State → Prop} {Qc : Array Value → State → Outcome → State → Prop} {XC : String → State → State → Prop} {mc ms : Nat} {free : Addr → Prop} {cc : ByteArray} {maxL : Nat} {ret : Option FieldType} {hh : List (Nat × Nat × Nat × Nat)}
    (hy : plainName y.cls = true) (hw : ws = Cond.codeWith y cc maxL ret hh :: ws')
    (body : ∀ p e s m args below meth c s₁, BodyLoose p l y (headSpec ws rm) cc maxL ret e s m args below meth c s₁ → c.maxLocals = maxL → Pc args s →
      W p l e (headSpec ws rm).room s m args below meth c s.heap [] 0 0 (vx_MQ below Qc XC args s mc ms free) (entryFrame m args maxL)) : vx_Met l y ws rm Pc Qc XC mc ms free := by
  refine MetFree.of_bodyS (code := cc) (maxLocals := maxL) (ret := ret) hy ?_ ?_
  · intro args s m h hn
    obtain ⟨m9, meth, c, hn9, h1, h2, h3, h4, -, h5, h6, -⟩ := Cond.codeWith_spec (atoms_spec (ws := ws) h _ (by rw [hw]; exact List.mem_cons_self))
    cases hn.symm.trans hn9
    exact ⟨meth, c, h1, h2, h3, h4, h5, h6⟩
  · intro p e s m args below meth c s₁ B hml hP _
    have hh0 : s₁.heap = s.heap := by rw [B.state]; rfl
    obtain ⟨t, a1, o, b1, b2, b3⟩ := body p e s m args below meth c s₁ B hml hP s₁ hh0 (Stand.of_body B)
    exact ⟨t, o, a1, b1, b2, b3⟩
/-! ===== END ===== -/
end
section
/-! ===== BEGIN printed: names, fields, word lists, decode rows ===== -/
def RX0 : String := "AqueductTanks$Land"
def TX0 : u_T := fun k => match k with
  | 0 => ("AqueductTanks$Land", "tanks", "[[I", true)
  | 1 => ("AqueductTanks$Land", "pipes", "[[I", true)
  | 2 => ("AqueductTanks$Land", "tankCount", "I", false)
  | 3 => ("AqueductTanks$Land", "pipeCount", "I", false)
  | _ => ("AqueductTanks$Land", "day", "I", false)
def tyX0 : Nat → FieldType := fun k => match k with
  | 0 => .array (.array .int)
  | 1 => .array (.array .int)
  | 2 => .int
  | 3 => .int
  | _ => .int
abbrev wsX00 : List Cond := u_ws RX0 TX0 5
theorem nmX0 : ∀ a, a < 5 → ∀ b, b < 5 → a ≠ b → (TX0 a).2.1 ≠ (TX0 b).2.1 := by decide +kernel
theorem tyX0_ok : ∀ k, k < 5 → parseFieldDescriptor (TX0 k).2.2.1 = some (tyX0 k) := by decide +kernel
abbrev cX0_init : ByteArray := prog_2_method_1_code
def yX0_init : MethodName := ⟨RX0, "<init>", "()V"⟩
abbrev cX0_addTank : ByteArray := prog_2_method_2_code
def yX0_addTank : MethodName := ⟨RX0, "addTank", "(III)I"⟩
abbrev cX0_addPipe : ByteArray := prog_2_method_3_code
def yX0_addPipe : MethodName := ⟨RX0, "addPipe", "(IIII)I"⟩
abbrev cX0_copyFrom : ByteArray := prog_2_method_4_code
def yX0_copyFrom : MethodName := ⟨RX0, "copyFrom", "(LAqueductTanks$Land;)V"⟩
abbrev cX0_ofPipe : ByteArray := prog_2_method_5_code
def yX0_ofPipe : MethodName := ⟨RX0, "ofPipe", "(II)I"⟩
abbrev cX0_ofAll : ByteArray := prog_2_method_6_code
def yX0_ofAll : MethodName := ⟨RX0, "ofAll", "(I)I"⟩
abbrev cX0_sumOfTanks : ByteArray := prog_2_method_7_code
def yX0_sumOfTanks : MethodName := ⟨RX0, "sumOfTanks", "(I)I"⟩
abbrev cX0_sumOfPipes : ByteArray := prog_2_method_8_code
def yX0_sumOfPipes : MethodName := ⟨RX0, "sumOfPipes", "(I)I"⟩
abbrev cX0_isThirsty : ByteArray := prog_2_method_9_code
def yX0_isThirsty : MethodName := ⟨RX0, "isThirsty", "(I)Z"⟩
abbrev cX0_thirstyTanks : ByteArray := prog_2_method_10_code
def yX0_thirstyTanks : MethodName := ⟨RX0, "thirstyTanks", "()I"⟩
abbrev cX0_reachedFrom : ByteArray := prog_2_method_11_code
def yX0_reachedFrom : MethodName := ⟨RX0, "reachedFrom", "(I)I"⟩
abbrev cX0_whatCanFlow : ByteArray := prog_2_method_12_code
def yX0_whatCanFlow : MethodName := ⟨RX0, "whatCanFlow", "(I)I"⟩
abbrev cX0_head : ByteArray := prog_2_method_13_code
def yX0_head : MethodName := ⟨RX0, "head", "([I)I"⟩
abbrev cX0_drunkIn : ByteArray := prog_2_method_14_code
def yX0_drunkIn : MethodName := ⟨RX0, "drunkIn", "(I)I"⟩
abbrev cX0_goThroughDay : ByteArray := prog_2_method_15_code
def yX0_goThroughDay : MethodName := ⟨RX0, "goThroughDay", "()V"⟩
abbrev cX0_feed : ByteArray := prog_2_method_16_code
def yX0_feed : MethodName := ⟨RX0, "feed", "([I)V"⟩
abbrev cX0_flowThrough : ByteArray := prog_2_method_17_code
def yX0_flowThrough : MethodName := ⟨RX0, "flowThrough", "(I)V"⟩
abbrev cX0_wanderMud : ByteArray := prog_2_method_18_code
def yX0_wanderMud : MethodName := ⟨RX0, "wanderMud", "([I[II)V"⟩
abbrev cX0_takeInWater : ByteArray := prog_2_method_19_code
def yX0_takeInWater : MethodName := ⟨RX0, "takeInWater", "([II)V"⟩
abbrev cX0_takeInMud : ByteArray := prog_2_method_20_code
def yX0_takeInMud : MethodName := ⟨RX0, "takeInMud", "([II)V"⟩
abbrev cX0_growCrusts : ByteArray := prog_2_method_21_code
def yX0_growCrusts : MethodName := ⟨RX0, "growCrusts", "()V"⟩
abbrev cX0_drinkFrom : ByteArray := prog_2_method_22_code
def yX0_drinkFrom : MethodName := ⟨RX0, "drinkFrom", "([I)V"⟩
def RX1 : String := "AqueductTanks"
def TX1 : u_T := fun k => match k with
  | 0 => ("AqueductTanks", "land", "LAqueductTanks$Land;", true)
  | _ => ("AqueductTanks", "trial", "LAqueductTanks$Land;", true)
def tyX1 : Nat → FieldType := fun k => match k with
  | 0 => .object "AqueductTanks$Land"
  | _ => .object "AqueductTanks$Land"
abbrev wsX10 : List Cond := u_ws RX1 TX1 2
theorem nmX1 : ∀ a, a < 2 → ∀ b, b < 2 → a ≠ b → (TX1 a).2.1 ≠ (TX1 b).2.1 := by decide +kernel
theorem tyX1_ok : ∀ k, k < 2 → parseFieldDescriptor (TX1 k).2.2.1 = some (tyX1 k) := by decide +kernel
abbrev cX1_init : ByteArray := prog_1_method_1_code
def yX1_init : MethodName := ⟨RX1, "<init>", "()V"⟩
abbrev cX1_build : ByteArray := prog_1_method_2_code
def yX1_build : MethodName := ⟨RX1, "build", "(III)I"⟩
abbrev cX1_lay : ByteArray := prog_1_method_3_code
def yX1_lay : MethodName := ⟨RX1, "lay", "(IIII)I"⟩
abbrev cX1_set : ByteArray := prog_1_method_4_code
def yX1_set : MethodName := ⟨RX1, "set", "(III)I"⟩
abbrev cX1_flush : ByteArray := prog_1_method_5_code
def yX1_flush : MethodName := ⟨RX1, "flush", "(I)I"⟩
abbrev cX1_scrape : ByteArray := prog_1_method_6_code
def yX1_scrape : MethodName := ⟨RX1, "scrape", "(I)I"⟩
abbrev cX1_steal : ByteArray := prog_1_method_7_code
def yX1_steal : MethodName := ⟨RX1, "steal", "(II)I"⟩
abbrev cX1_tank : ByteArray := prog_1_method_8_code
def yX1_tank : MethodName := ⟨RX1, "tank", "(II)I"⟩
abbrev cX1_pipe : ByteArray := prog_1_method_9_code
def yX1_pipe : MethodName := ⟨RX1, "pipe", "(II)I"⟩
abbrev cX1_count : ByteArray := prog_1_method_10_code
def yX1_count : MethodName := ⟨RX1, "count", "(I)I"⟩
abbrev cX1_reach : ByteArray := prog_1_method_11_code
def yX1_reach : MethodName := ⟨RX1, "reach", "(I)I"⟩
abbrev cX1_suspect : ByteArray := prog_1_method_12_code
def yX1_suspect : MethodName := ⟨RX1, "suspect", "()I"⟩
abbrev cX1_pass : ByteArray := prog_1_method_13_code
def yX1_pass : MethodName := ⟨RX1, "pass", "(I)I"⟩
abbrev cX1_foresee : ByteArray := prog_1_method_14_code
def yX1_foresee : MethodName := ⟨RX1, "foresee", "(II)I"⟩
abbrev cX1_advise : ByteArray := prog_1_method_15_code
def yX1_advise : MethodName := ⟨RX1, "advise", "(I)I"⟩
abbrev cX1_sated : ByteArray := prog_1_method_16_code
def yX1_sated : MethodName := ⟨RX1, "sated", "(I)I"⟩
abbrev cX1_mean : ByteArray := prog_1_method_17_code
def yX1_mean : MethodName := ⟨RX1, "mean", "()D"⟩
abbrev cX1_digest : ByteArray := prog_1_method_18_code
def yX1_digest : MethodName := ⟨RX1, "digest", "()J"⟩
abbrev cX1_isWithin : ByteArray := prog_1_method_19_code
def yX1_isWithin : MethodName := ⟨RX1, "isWithin", "(III)Z"⟩
abbrev cX1_isSpringAndThirst : ByteArray := prog_1_method_20_code
def yX1_isSpringAndThirst : MethodName := ⟨RX1, "isSpringAndThirst", "(II)Z"⟩
abbrev cX1_needTank : ByteArray := prog_1_method_21_code
def yX1_needTank : MethodName := ⟨RX1, "needTank", "(I)V"⟩
abbrev cX1_needPipe : ByteArray := prog_1_method_22_code
def yX1_needPipe : MethodName := ⟨RX1, "needPipe", "(I)V"⟩
abbrev cX1_needIndex : ByteArray := prog_1_method_23_code
def yX1_needIndex : MethodName := ⟨RX1, "needIndex", "(Z)V"⟩
abbrev cX1_needArgument : ByteArray := prog_1_method_24_code
def yX1_needArgument : MethodName := ⟨RX1, "needArgument", "(Z)V"⟩
def RX2 : String := "AqueductTanksModel"
def TX2 : u_T := fun k => match k with
  | 0 => ("AqueductTanksModel", "thrown", "I", false)
  | 1 => ("AqueductTanksModel", "tanks", "I", false)
  | 2 => ("AqueductTanksModel", "pipes", "I", false)
  | 3 => ("AqueductTanksModel", "land", "[I", true)
  | 4 => ("AqueductTanksModel", "lines", "[I", true)
  | _ => ("AqueductTanksModel", "day", "[I", true)
def tyX2 : Nat → FieldType := fun k => match k with
  | 0 => .int
  | 1 => .int
  | 2 => .int
  | 3 => .array .int
  | 4 => .array .int
  | _ => .array .int
abbrev wsX20 : List Cond := u_ws RX2 TX2 6
theorem nmX2 : ∀ a, a < 6 → ∀ b, b < 6 → a ≠ b → (TX2 a).2.1 ≠ (TX2 b).2.1 := by decide +kernel
theorem tyX2_ok : ∀ k, k < 6 → parseFieldDescriptor (TX2 k).2.2.1 = some (tyX2 k) := by decide +kernel
abbrev cX2_init : ByteArray := prog_4_method_1_code
def yX2_init : MethodName := ⟨RX2, "<init>", "()V"⟩
abbrev cX2_thrown : ByteArray := prog_4_method_2_code
def yX2_thrown : MethodName := ⟨RX2, "thrown", "()I"⟩
abbrev cX2_fail : ByteArray := prog_4_method_3_code
def yX2_fail : MethodName := ⟨RX2, "fail", "(I)I"⟩
abbrev cX2_isIn : ByteArray := prog_4_method_4_code
def yX2_isIn : MethodName := ⟨RX2, "isIn", "(III)Z"⟩
abbrev cX2_isTank : ByteArray := prog_4_method_5_code
def yX2_isTank : MethodName := ⟨RX2, "isTank", "(I)Z"⟩
abbrev cX2_isPipe : ByteArray := prog_4_method_6_code
def yX2_isPipe : MethodName := ⟨RX2, "isPipe", "(I)Z"⟩
abbrev cX2_la : ByteArray := prog_4_method_7_code
def yX2_la : MethodName := ⟨RX2, "la", "(II)I"⟩
abbrev cX2_setTank : ByteArray := prog_4_method_8_code
def yX2_setTank : MethodName := ⟨RX2, "setTank", "(III)V"⟩
abbrev cX2_li : ByteArray := prog_4_method_9_code
def yX2_li : MethodName := ⟨RX2, "li", "(II)I"⟩
abbrev cX2_setPipe : ByteArray := prog_4_method_10_code
def yX2_setPipe : MethodName := ⟨RX2, "setPipe", "(III)V"⟩
abbrev cX2_build : ByteArray := prog_4_method_11_code
def yX2_build : MethodName := ⟨RX2, "build", "(III)I"⟩
abbrev cX2_lay : ByteArray := prog_4_method_12_code
def yX2_lay : MethodName := ⟨RX2, "lay", "(IIII)I"⟩
abbrev cX2_set : ByteArray := prog_4_method_13_code
def yX2_set : MethodName := ⟨RX2, "set", "(III)I"⟩
abbrev cX2_flush : ByteArray := prog_4_method_14_code
def yX2_flush : MethodName := ⟨RX2, "flush", "(I)I"⟩
abbrev cX2_scrape : ByteArray := prog_4_method_15_code
def yX2_scrape : MethodName := ⟨RX2, "scrape", "(I)I"⟩
abbrev cX2_steal : ByteArray := prog_4_method_16_code
def yX2_steal : MethodName := ⟨RX2, "steal", "(II)I"⟩
abbrev cX2_head : ByteArray := prog_4_method_17_code
def yX2_head : MethodName := ⟨RX2, "head", "(I)I"⟩
abbrev cX2_flows : ByteArray := prog_4_method_18_code
def yX2_flows : MethodName := ⟨RX2, "flows", "(I)I"⟩
abbrev cX2_tank : ByteArray := prog_4_method_19_code
def yX2_tank : MethodName := ⟨RX2, "tank", "(II)I"⟩
abbrev cX2_pipeTold : ByteArray := prog_4_method_20_code
def yX2_pipeTold : MethodName := ⟨RX2, "pipeTold", "(II)I"⟩
abbrev cX2_pipe : ByteArray := prog_4_method_21_code
def yX2_pipe : MethodName := ⟨RX2, "pipe", "(II)I"⟩
abbrev cX2_all : ByteArray := prog_4_method_22_code
def yX2_all : MethodName := ⟨RX2, "all", "(I)I"⟩
abbrev cX2_allPipes : ByteArray := prog_4_method_23_code
def yX2_allPipes : MethodName := ⟨RX2, "allPipes", "(I)I"⟩
abbrev cX2_counted : ByteArray := prog_4_method_24_code
def yX2_counted : MethodName := ⟨RX2, "counted", "(I)I"⟩
abbrev cX2_count : ByteArray := prog_4_method_25_code
def yX2_count : MethodName := ⟨RX2, "count", "(I)I"⟩
abbrev cX2_reach : ByteArray := prog_4_method_26_code
def yX2_reach : MethodName := ⟨RX2, "reach", "(I)I"⟩
abbrev cX2_suspect : ByteArray := prog_4_method_27_code
def yX2_suspect : MethodName := ⟨RX2, "suspect", "()I"⟩
abbrev cX2_pour : ByteArray := prog_4_method_28_code
def yX2_pour : MethodName := ⟨RX2, "pour", "(III)V"⟩
abbrev cX2_flow : ByteArray := prog_4_method_29_code
def yX2_flow : MethodName := ⟨RX2, "flow", "(I)V"⟩
abbrev cX2_dayOn : ByteArray := prog_4_method_30_code
def yX2_dayOn : MethodName := ⟨RX2, "dayOn", "()V"⟩
abbrev cX2_daysOn : ByteArray := prog_4_method_31_code
def yX2_daysOn : MethodName := ⟨RX2, "daysOn", "(I)V"⟩
abbrev cX2_pass : ByteArray := prog_4_method_32_code
def yX2_pass : MethodName := ⟨RX2, "pass", "(I)I"⟩
abbrev cX2_kept : ByteArray := prog_4_method_33_code
def yX2_kept : MethodName := ⟨RX2, "kept", "()[[I"⟩
abbrev cX2_bringBack : ByteArray := prog_4_method_34_code
def yX2_bringBack : MethodName := ⟨RX2, "bringBack", "([[I)V"⟩
abbrev cX2_foresee : ByteArray := prog_4_method_35_code
def yX2_foresee : MethodName := ⟨RX2, "foresee", "(II)I"⟩
abbrev cX2_advise : ByteArray := prog_4_method_36_code
def yX2_advise : MethodName := ⟨RX2, "advise", "(I)I"⟩
abbrev cX2_sated : ByteArray := prog_4_method_37_code
def yX2_sated : MethodName := ⟨RX2, "sated", "(I)I"⟩
abbrev cX2_mean : ByteArray := prog_4_method_38_code
def yX2_mean : MethodName := ⟨RX2, "mean", "()D"⟩
abbrev cX2_digest : ByteArray := prog_4_method_39_code
def yX2_digest : MethodName := ⟨RX2, "digest", "()J"⟩
def RJx8e188 : String := "java/lang/Cloneable"
def TJx8e188 : u_T := fun k => match k with
  | _ => ("", "", "", false)
def tyJx8e188 : Nat → FieldType := fun k => match k with
  | _ => .int
abbrev wsJx8e1880 : List Cond := u_ws RJx8e188 TJx8e188 0
theorem nmJx8e188 : ∀ a, a < 0 → ∀ b, b < 0 → a ≠ b → (TJx8e188 a).2.1 ≠ (TJx8e188 b).2.1 := by decide +kernel
theorem tyJx8e188_ok : ∀ k, k < 0 → parseFieldDescriptor (TJx8e188 k).2.2.1 = some (tyJx8e188 k) := by decide +kernel
def RJ9 : String := "java/lang/Math"
def TJ9 : u_T := fun k => match k with
  | _ => ("", "", "", false)
def tyJ9 : Nat → FieldType := fun k => match k with
  | _ => .int
abbrev wsJ90 : List Cond := u_ws RJ9 TJ9 0
theorem nmJ9 : ∀ a, a < 0 → ∀ b, b < 0 → a ≠ b → (TJ9 a).2.1 ≠ (TJ9 b).2.1 := by decide +kernel
theorem tyJ9_ok : ∀ k, k < 0 → parseFieldDescriptor (TJ9 k).2.2.1 = some (tyJ9 k) := by decide +kernel
abbrev cJ9_max_7cf53 : ByteArray := prog_10_method_65_code
def yJ9_max_7cf53 : MethodName := ⟨RJ9, "max", "(II)I"⟩
abbrev cJ9_min_7cf53 : ByteArray := prog_10_method_69_code
def yJ9_min_7cf53 : MethodName := ⟨RJ9, "min", "(II)I"⟩
def RJ0 : String := "java/lang/String"
def TJ0 : u_T := fun k => match k with
  | _ => ("", "", "", false)
def tyJ0 : Nat → FieldType := fun k => match k with
  | _ => .int
abbrev wsJ00 : List Cond := u_ws RJ0 TJ0 0
theorem nmJ0 : ∀ a, a < 0 → ∀ b, b < 0 → a ≠ b → (TJ0 a).2.1 ≠ (TJ0 b).2.1 := by decide +kernel
theorem tyJ0_ok : ∀ k, k < 0 → parseFieldDescriptor (TJ0 k).2.2.1 = some (tyJ0 k) := by decide +kernel
def RJ10 : String := "java/lang/System"
def TJ10 : u_T := fun k => match k with
  | _ => ("", "", "", false)
def tyJ10 : Nat → FieldType := fun k => match k with
  | _ => .int
abbrev wsJ100 : List Cond := u_ws RJ10 TJ10 0
theorem nmJ10 : ∀ a, a < 0 → ∀ b, b < 0 → a ≠ b → (TJ10 a).2.1 ≠ (TJ10 b).2.1 := by decide +kernel
theorem tyJ10_ok : ∀ k, k < 0 → parseFieldDescriptor (TJ10 k).2.2.1 = some (tyJ10 k) := by decide +kernel
def RL : String := "AqueductTanksLaw"
abbrev cL_build : ByteArray := method_3_code
def yL_build : MethodName := ⟨RL, "build", "(LAqueductTanks;III[J)I"⟩
abbrev cL_lay : ByteArray := method_4_code
def yL_lay : MethodName := ⟨RL, "lay", "(LAqueductTanks;IIII[J)I"⟩
abbrev cL_set : ByteArray := method_5_code
def yL_set : MethodName := ⟨RL, "set", "(LAqueductTanks;III[J)I"⟩
abbrev cL_flush : ByteArray := method_6_code
def yL_flush : MethodName := ⟨RL, "flush", "(LAqueductTanks;I[J)I"⟩
abbrev cL_scrape : ByteArray := method_7_code
def yL_scrape : MethodName := ⟨RL, "scrape", "(LAqueductTanks;I[J)I"⟩
abbrev cL_steal : ByteArray := method_8_code
def yL_steal : MethodName := ⟨RL, "steal", "(LAqueductTanks;II[J)I"⟩
abbrev cL_tank : ByteArray := method_9_code
def yL_tank : MethodName := ⟨RL, "tank", "(LAqueductTanks;II[J)I"⟩
abbrev cL_pipe : ByteArray := method_10_code
def yL_pipe : MethodName := ⟨RL, "pipe", "(LAqueductTanks;II[J)I"⟩
abbrev cL_count : ByteArray := method_11_code
def yL_count : MethodName := ⟨RL, "count", "(LAqueductTanks;I[J)I"⟩
abbrev cL_reach : ByteArray := method_12_code
def yL_reach : MethodName := ⟨RL, "reach", "(LAqueductTanks;I[J)I"⟩
abbrev cL_pass : ByteArray := method_13_code
def yL_pass : MethodName := ⟨RL, "pass", "(LAqueductTanks;I[J)I"⟩
abbrev cL_foresee : ByteArray := method_14_code
def yL_foresee : MethodName := ⟨RL, "foresee", "(LAqueductTanks;II[J)I"⟩
abbrev cL_advise : ByteArray := method_15_code
def yL_advise : MethodName := ⟨RL, "advise", "(LAqueductTanks;I[J)I"⟩
abbrev cL_sated : ByteArray := method_16_code
def yL_sated : MethodName := ⟨RL, "sated", "(LAqueductTanks;I[J)I"⟩
abbrev cL_law : ByteArray := code
def yL_law : MethodName := ⟨RL, "law", "([I)Z"⟩
def wsX0_init : List Cond := .code yX0_init cX0_init 1 none :: ([.methodLink RX0 3 objectInit, .instanceMethod objectInit, .code objectInit ⟨#[0xb1]⟩ 1 none, .classLink RX0 11 "[[I", .arrayClass .int, .fieldLink RX0 13 "AqueductTanks$Land" "tanks" "[[I", .fieldLink RX0 16 "AqueductTanks$Land" "pipes" "[[I"] ++ wsX00)
def wsX0_addTank : List Cond := .code yX0_addTank cX0_addTank 5 (some .int) :: ([.fieldLink RX0 19 "AqueductTanks$Land" "tankCount" "I", .fieldLink RX0 13 "AqueductTanks$Land" "tanks" "[[I"] ++ wsX00)
def wsX0_addPipe : List Cond := .code yX0_addPipe cX0_addPipe 6 (some .int) :: ([.fieldLink RX0 23 "AqueductTanks$Land" "pipeCount" "I", .fieldLink RX0 16 "AqueductTanks$Land" "pipes" "[[I"] ++ wsX00)
def wsX0_copyFrom : List Cond := .code yX0_copyFrom cX0_copyFrom 3 none :: ([.fieldLink RX0 26 "AqueductTanks$Land" "day" "I", .fieldLink RX0 19 "AqueductTanks$Land" "tankCount" "I", .fieldLink RX0 23 "AqueductTanks$Land" "pipeCount" "I", .fieldLink RX0 13 "AqueductTanks$Land" "tanks" "[[I", .methodLink RX0 29 arraycopyName, .native arraycopyName, .static arraycopyName, .initialized "java/lang/System", .fieldLink RX0 16 "AqueductTanks$Land" "pipes" "[[I"] ++ wsX00)
def wsX0_head : List Cond := .code yX0_head cX0_head 1 (some .int) :: ([])
def wsX0_whatCanFlow : List Cond := .code yX0_whatCanFlow cX0_whatCanFlow 7 (some .int) :: ([.fieldLink RX0 16 "AqueductTanks$Land" "pipes" "[[I", .fieldLink RX0 13 "AqueductTanks$Land" "tanks" "[[I", .methodLink RX0 57 Lib.Math.max.name, .static Lib.Math.max.name, .initialized "java/lang/Math", .code Lib.Math.max.name Lib.Math.max.code 2 (some .int), .methodLink RX0 63 Lib.Math.min.name, .static Lib.Math.min.name, .code Lib.Math.min.name Lib.Math.min.code 2 (some .int), .methodLink RX0 53 yX0_head, .static yX0_head, .initialized RX0, .code yX0_head cX0_head 1 (some .int)] ++ wsX00)
def wsX0_ofPipe : List Cond := .code yX0_ofPipe cX0_ofPipe 3 (some .int) :: ([.fieldLink RX0 16 "AqueductTanks$Land" "pipes" "[[I", .methodLink RX0 35 yX0_whatCanFlow, .instanceMethod yX0_whatCanFlow, .selects RX0 yX0_whatCanFlow yX0_whatCanFlow, .initialized RX0, .code yX0_whatCanFlow cX0_whatCanFlow 7 (some .int), .fieldLink RX0 13 "AqueductTanks$Land" "tanks" "[[I", .methodLink RX0 57 Lib.Math.max.name, .static Lib.Math.max.name, .initialized "java/lang/Math", .code Lib.Math.max.name Lib.Math.max.code 2 (some .int), .methodLink RX0 63 Lib.Math.min.name, .static Lib.Math.min.name, .code Lib.Math.min.name Lib.Math.min.code 2 (some .int), .methodLink RX0 53 yX0_head, .static yX0_head, .code yX0_head cX0_head 1 (some .int)] ++ wsX00)
def wsX0_sumOfTanks : List Cond := .code yX0_sumOfTanks cX0_sumOfTanks 4 (some .int) :: ([.fieldLink RX0 19 "AqueductTanks$Land" "tankCount" "I", .fieldLink RX0 13 "AqueductTanks$Land" "tanks" "[[I"] ++ wsX00)
def wsX0_sumOfPipes : List Cond := .code yX0_sumOfPipes cX0_sumOfPipes 4 (some .int) :: ([.fieldLink RX0 23 "AqueductTanks$Land" "pipeCount" "I", .fieldLink RX0 16 "AqueductTanks$Land" "pipes" "[[I"] ++ wsX00)
def wsX0_isThirsty : List Cond := .code yX0_isThirsty cX0_isThirsty 2 (some .boolean) :: ([.fieldLink RX0 13 "AqueductTanks$Land" "tanks" "[[I"] ++ wsX00)
def wsX0_thirstyTanks : List Cond := .code yX0_thirstyTanks cX0_thirstyTanks 3 (some .int) :: ([.fieldLink RX0 19 "AqueductTanks$Land" "tankCount" "I", .methodLink RX0 49 yX0_isThirsty, .instanceMethod yX0_isThirsty, .selects RX0 yX0_isThirsty yX0_isThirsty, .initialized RX0, .code yX0_isThirsty cX0_isThirsty 2 (some .boolean), .fieldLink RX0 13 "AqueductTanks$Land" "tanks" "[[I"] ++ wsX00)
def wsX0_ofAll : List Cond := .code yX0_ofAll cX0_ofAll 2 (some .int) :: ([.fieldLink RX0 26 "AqueductTanks$Land" "day" "I", .fieldLink RX0 19 "AqueductTanks$Land" "tankCount" "I", .fieldLink RX0 23 "AqueductTanks$Land" "pipeCount" "I", .methodLink RX0 39 yX0_sumOfTanks, .instanceMethod yX0_sumOfTanks, .selects RX0 yX0_sumOfTanks yX0_sumOfTanks, .initialized RX0, .code yX0_sumOfTanks cX0_sumOfTanks 4 (some .int), .fieldLink RX0 13 "AqueductTanks$Land" "tanks" "[[I", .methodLink RX0 42 yX0_sumOfPipes, .instanceMethod yX0_sumOfPipes, .selects RX0 yX0_sumOfPipes yX0_sumOfPipes, .code yX0_sumOfPipes cX0_sumOfPipes 4 (some .int), .fieldLink RX0 16 "AqueductTanks$Land" "pipes" "[[I", .methodLink RX0 45 yX0_thirstyTanks, .instanceMethod yX0_thirstyTanks, .selects RX0 yX0_thirstyTanks yX0_thirstyTanks, .code yX0_thirstyTanks cX0_thirstyTanks 3 (some .int), .methodLink RX0 49 yX0_isThirsty, .instanceMethod yX0_isThirsty, .selects RX0 yX0_isThirsty yX0_isThirsty, .code yX0_isThirsty cX0_isThirsty 2 (some .boolean)] ++ wsX00)
def wsX0_reachedFrom : List Cond := .code yX0_reachedFrom cX0_reachedFrom 6 (some .int) :: ([.fieldLink RX0 19 "AqueductTanks$Land" "tankCount" "I", .fieldLink RX0 23 "AqueductTanks$Land" "pipeCount" "I", .fieldLink RX0 16 "AqueductTanks$Land" "pipes" "[[I"] ++ wsX00)
def wsX0_takeInWater : List Cond := .code yX0_takeInWater cX0_takeInWater 4 none :: ([.methodLink RX0 57 Lib.Math.max.name, .static Lib.Math.max.name, .initialized "java/lang/Math", .code Lib.Math.max.name Lib.Math.max.code 2 (some .int)])
def wsX0_takeInMud : List Cond := .code yX0_takeInMud cX0_takeInMud 2 none :: ([.methodLink RX0 63 Lib.Math.min.name, .static Lib.Math.min.name, .initialized "java/lang/Math", .code Lib.Math.min.name Lib.Math.min.code 2 (some .int)])
def wsX0_feed : List Cond := .code yX0_feed cX0_feed 1 none :: ([.methodLink RX0 83 yX0_takeInWater, .static yX0_takeInWater, .initialized RX0, .code yX0_takeInWater cX0_takeInWater 4 none, .methodLink RX0 57 Lib.Math.max.name, .static Lib.Math.max.name, .initialized "java/lang/Math", .code Lib.Math.max.name Lib.Math.max.code 2 (some .int), .methodLink RX0 87 yX0_takeInMud, .static yX0_takeInMud, .code yX0_takeInMud cX0_takeInMud 2 none, .methodLink RX0 63 Lib.Math.min.name, .static Lib.Math.min.name, .code Lib.Math.min.name Lib.Math.min.code 2 (some .int)])
def wsX0_wanderMud : List Cond := .code yX0_wanderMud cX0_wanderMud 4 none :: ([.methodLink RX0 87 yX0_takeInMud, .static yX0_takeInMud, .initialized RX0, .code yX0_takeInMud cX0_takeInMud 2 none, .methodLink RX0 63 Lib.Math.min.name, .static Lib.Math.min.name, .initialized "java/lang/Math", .code Lib.Math.min.name Lib.Math.min.code 2 (some .int)])
def wsX0_flowThrough_r1 : List Cond := [Cond.fieldLink RX0 16 "AqueductTanks$Land" "pipes" "[[I", Cond.fieldLink RX0 13 "AqueductTanks$Land" "tanks" "[[I", Cond.methodLink RX0 63 Lib.Math.min.name, Cond.static Lib.Math.min.name, Cond.initialized "java/lang/Math", Cond.code Lib.Math.min.name Lib.Math.min.code 2 (some .int), Cond.methodLink RX0 35 yX0_whatCanFlow, Cond.instanceMethod yX0_whatCanFlow, Cond.selects RX0 yX0_whatCanFlow yX0_whatCanFlow, Cond.initialized RX0, Cond.code yX0_whatCanFlow cX0_whatCanFlow 7 (some .int), Cond.methodLink RX0 57 Lib.Math.max.name, Cond.static Lib.Math.max.name, Cond.code Lib.Math.max.name Lib.Math.max.code 2 (some .int), Cond.methodLink RX0 53 yX0_head, Cond.static yX0_head, Cond.code yX0_head cX0_head 1 (some .int), Cond.methodLink RX0 90 yX0_wanderMud, Cond.static yX0_wanderMud, Cond.code yX0_wanderMud cX0_wanderMud 4 none, Cond.methodLink RX0 87 yX0_takeInMud, Cond.static yX0_takeInMud, Cond.code yX0_takeInMud cX0_takeInMud 2 none, Cond.methodLink RX0 83 yX0_takeInWater]
def wsX0_flowThrough_r2 : List Cond := [Cond.static yX0_takeInWater, Cond.code yX0_takeInWater cX0_takeInWater 4 none]
def wsX0_flowThrough : List Cond := .code yX0_flowThrough cX0_flowThrough 7 none :: ((wsX0_flowThrough_r1 ++ wsX0_flowThrough_r2) ++ wsX00)
def wsX0_growCrusts : List Cond := .code yX0_growCrusts cX0_growCrusts 3 none :: ([.fieldLink RX0 23 "AqueductTanks$Land" "pipeCount" "I", .fieldLink RX0 16 "AqueductTanks$Land" "pipes" "[[I", .methodLink RX0 63 Lib.Math.min.name, .static Lib.Math.min.name, .initialized "java/lang/Math", .code Lib.Math.min.name Lib.Math.min.code 2 (some .int)] ++ wsX00)
def wsX0_drinkFrom : List Cond := .code yX0_drinkFrom cX0_drinkFrom 3 none :: ([.methodLink RX0 63 Lib.Math.min.name, .static Lib.Math.min.name, .initialized "java/lang/Math", .code Lib.Math.min.name Lib.Math.min.code 2 (some .int)])
def wsX0_goThroughDay_r1 : List Cond := [Cond.fieldLink RX0 19 "AqueductTanks$Land" "tankCount" "I", Cond.fieldLink RX0 13 "AqueductTanks$Land" "tanks" "[[I", Cond.fieldLink RX0 23 "AqueductTanks$Land" "pipeCount" "I", Cond.fieldLink RX0 26 "AqueductTanks$Land" "day" "I", Cond.methodLink RX0 69 yX0_feed, Cond.static yX0_feed, Cond.initialized RX0, Cond.code yX0_feed cX0_feed 1 none, Cond.methodLink RX0 83 yX0_takeInWater, Cond.static yX0_takeInWater, Cond.code yX0_takeInWater cX0_takeInWater 4 none, Cond.methodLink RX0 57 Lib.Math.max.name, Cond.static Lib.Math.max.name, Cond.initialized "java/lang/Math", Cond.code Lib.Math.max.name Lib.Math.max.code 2 (some .int), Cond.methodLink RX0 87 yX0_takeInMud, Cond.static yX0_takeInMud, Cond.code yX0_takeInMud cX0_takeInMud 2 none, Cond.methodLink RX0 63 Lib.Math.min.name, Cond.static Lib.Math.min.name, Cond.code Lib.Math.min.name Lib.Math.min.code 2 (some .int), Cond.methodLink RX0 73 yX0_flowThrough, Cond.instanceMethod yX0_flowThrough, Cond.selects RX0 yX0_flowThrough yX0_flowThrough]
def wsX0_goThroughDay_r2 : List Cond := [Cond.code yX0_flowThrough cX0_flowThrough 7 none, Cond.fieldLink RX0 16 "AqueductTanks$Land" "pipes" "[[I", Cond.methodLink RX0 35 yX0_whatCanFlow, Cond.instanceMethod yX0_whatCanFlow, Cond.selects RX0 yX0_whatCanFlow yX0_whatCanFlow, Cond.code yX0_whatCanFlow cX0_whatCanFlow 7 (some .int), Cond.methodLink RX0 53 yX0_head, Cond.static yX0_head, Cond.code yX0_head cX0_head 1 (some .int), Cond.methodLink RX0 90 yX0_wanderMud, Cond.static yX0_wanderMud, Cond.code yX0_wanderMud cX0_wanderMud 4 none, Cond.methodLink RX0 77 yX0_growCrusts, Cond.instanceMethod yX0_growCrusts, Cond.selects RX0 yX0_growCrusts yX0_growCrusts, Cond.code yX0_growCrusts cX0_growCrusts 3 none, Cond.methodLink RX0 80 yX0_drinkFrom, Cond.static yX0_drinkFrom, Cond.code yX0_drinkFrom cX0_drinkFrom 3 none]
def wsX0_goThroughDay : List Cond := .code yX0_goThroughDay cX0_goThroughDay 2 none :: ((wsX0_goThroughDay_r1 ++ wsX0_goThroughDay_r2) ++ wsX00)
def wsX0_drunkIn_r1 : List Cond := [Cond.methodLink RX0 39 yX0_sumOfTanks, Cond.instanceMethod yX0_sumOfTanks, Cond.selects RX0 yX0_sumOfTanks yX0_sumOfTanks, Cond.initialized RX0, Cond.code yX0_sumOfTanks cX0_sumOfTanks 4 (some .int), Cond.fieldLink RX0 19 "AqueductTanks$Land" "tankCount" "I", Cond.fieldLink RX0 13 "AqueductTanks$Land" "tanks" "[[I", Cond.methodLink RX0 66 yX0_goThroughDay, Cond.instanceMethod yX0_goThroughDay, Cond.selects RX0 yX0_goThroughDay yX0_goThroughDay, Cond.code yX0_goThroughDay cX0_goThroughDay 2 none, Cond.fieldLink RX0 23 "AqueductTanks$Land" "pipeCount" "I", Cond.fieldLink RX0 26 "AqueductTanks$Land" "day" "I", Cond.methodLink RX0 69 yX0_feed, Cond.static yX0_feed, Cond.code yX0_feed cX0_feed 1 none, Cond.methodLink RX0 83 yX0_takeInWater, Cond.static yX0_takeInWater, Cond.code yX0_takeInWater cX0_takeInWater 4 none, Cond.methodLink RX0 57 Lib.Math.max.name, Cond.static Lib.Math.max.name, Cond.initialized "java/lang/Math", Cond.code Lib.Math.max.name Lib.Math.max.code 2 (some .int), Cond.methodLink RX0 87 yX0_takeInMud]
def wsX0_drunkIn_r2 : List Cond := [Cond.static yX0_takeInMud, Cond.code yX0_takeInMud cX0_takeInMud 2 none, Cond.methodLink RX0 63 Lib.Math.min.name, Cond.static Lib.Math.min.name, Cond.code Lib.Math.min.name Lib.Math.min.code 2 (some .int), Cond.methodLink RX0 73 yX0_flowThrough, Cond.instanceMethod yX0_flowThrough, Cond.selects RX0 yX0_flowThrough yX0_flowThrough, Cond.code yX0_flowThrough cX0_flowThrough 7 none, Cond.fieldLink RX0 16 "AqueductTanks$Land" "pipes" "[[I", Cond.methodLink RX0 35 yX0_whatCanFlow, Cond.instanceMethod yX0_whatCanFlow, Cond.selects RX0 yX0_whatCanFlow yX0_whatCanFlow, Cond.code yX0_whatCanFlow cX0_whatCanFlow 7 (some .int), Cond.methodLink RX0 53 yX0_head, Cond.static yX0_head, Cond.code yX0_head cX0_head 1 (some .int), Cond.methodLink RX0 90 yX0_wanderMud, Cond.static yX0_wanderMud, Cond.code yX0_wanderMud cX0_wanderMud 4 none, Cond.methodLink RX0 77 yX0_growCrusts, Cond.instanceMethod yX0_growCrusts, Cond.selects RX0 yX0_growCrusts yX0_growCrusts, Cond.code yX0_growCrusts cX0_growCrusts 3 none]
def wsX0_drunkIn_r3 : List Cond := [Cond.methodLink RX0 80 yX0_drinkFrom, Cond.static yX0_drinkFrom, Cond.code yX0_drinkFrom cX0_drinkFrom 3 none]
def wsX0_drunkIn : List Cond := .code yX0_drunkIn cX0_drunkIn 4 (some .int) :: ((wsX0_drunkIn_r1 ++ (wsX0_drunkIn_r2 ++ wsX0_drunkIn_r3)) ++ wsX00)
def wsX1_init : List Cond := .code yX1_init cX1_init 1 none :: ([.methodLink RX1 1 objectInit, .instanceMethod objectInit, .code objectInit ⟨#[0xb1]⟩ 1 none, .classLink RX1 7 RX0, .instantiable RX0 5, .initialized RX0, .fieldLink RX1 10 "AqueductTanks" "land" "LAqueductTanks$Land;", .fieldLink RX1 16 "AqueductTanks" "trial" "LAqueductTanks$Land;", .methodLink RX1 9 yX0_init, .instanceMethod yX0_init, .code yX0_init cX0_init 1 none, .methodLink RX0 3 objectInit, .classLink RX0 11 "[[I", .arrayClass .int, .fieldLink RX0 13 "AqueductTanks$Land" "tanks" "[[I", .fieldLink RX0 16 "AqueductTanks$Land" "pipes" "[[I"] ++ wsX00 ++ wsX10)
def wsX1_isWithin : List Cond := .code yX1_isWithin cX1_isWithin 3 (some .boolean) :: ([])
def wsX1_needArgument : List Cond := .code yX1_needArgument cX1_needArgument 1 none :: ([.classLink RX1 115 "java/lang/IllegalArgumentException", .initialized "java/lang/IllegalArgumentException"] ++ (vx_atS RX1 119 "java/lang/IllegalArgumentException" ["java/lang/RuntimeException", "java/lang/Exception"]).filter goodWord)
def wsX1_isSpringAndThirst : List Cond := .code yX1_isSpringAndThirst cX1_isSpringAndThirst 2 (some .boolean) :: ([.methodLink RX1 19 yX1_isWithin, .static yX1_isWithin, .initialized RX1, .code yX1_isWithin cX1_isWithin 3 (some .boolean)])
def wsX1_build : List Cond := .code yX1_build cX1_build 5 (some .int) :: ([.classLink RX1 35 "java/lang/IllegalStateException", .initialized "java/lang/IllegalStateException", .fieldLink RX1 10 "AqueductTanks" "land" "LAqueductTanks$Land;", .methodLink RX1 19 yX1_isWithin, .static yX1_isWithin, .initialized RX1, .code yX1_isWithin cX1_isWithin 3 (some .boolean), .methodLink RX1 23 yX1_needArgument, .static yX1_needArgument, .code yX1_needArgument cX1_needArgument 1 none, .classLink RX1 115 "java/lang/IllegalArgumentException", .initialized "java/lang/IllegalArgumentException", .methodLink RX1 27 yX1_isSpringAndThirst, .static yX1_isSpringAndThirst, .code yX1_isSpringAndThirst cX1_isSpringAndThirst 2 (some .boolean), .methodLink RX1 31 yX0_addTank, .instanceMethod yX0_addTank, .selects RX0 yX0_addTank yX0_addTank, .initialized RX0, .code yX0_addTank cX0_addTank 5 (some .int), .fieldLink RX0 19 "AqueductTanks$Land" "tankCount" "I", .fieldLink RX0 13 "AqueductTanks$Land" "tanks" "[[I"] ++ wsX10 ++ wsX00 ++ (vx_atS RX1 39 "java/lang/IllegalStateException" ["java/lang/RuntimeException", "java/lang/Exception"]).filter goodWord ++ (vx_atS RX1 119 "java/lang/IllegalArgumentException" ["java/lang/RuntimeException", "java/lang/Exception"]).filter goodWord)
def wsX1_needIndex : List Cond := .code yX1_needIndex cX1_needIndex 1 none :: ([.classLink RX1 110 "java/lang/IndexOutOfBoundsException", .initialized "java/lang/IndexOutOfBoundsException"] ++ (vx_atS RX1 114 "java/lang/IndexOutOfBoundsException" ["java/lang/RuntimeException", "java/lang/Exception"]).filter goodWord)
def wsX1_needTank : List Cond := .code yX1_needTank cX1_needTank 2 none :: ([.fieldLink RX1 10 "AqueductTanks" "land" "LAqueductTanks$Land;", .fieldLink RX1 107 "AqueductTanks$Land" "tankCount" "I", .methodLink RX1 62 yX1_needIndex, .static yX1_needIndex, .initialized RX1, .code yX1_needIndex cX1_needIndex 1 none, .classLink RX1 110 "java/lang/IndexOutOfBoundsException", .initialized "java/lang/IndexOutOfBoundsException"] ++ wsX10 ++ wsX00 ++ (vx_atS RX1 114 "java/lang/IndexOutOfBoundsException" ["java/lang/RuntimeException", "java/lang/Exception"]).filter goodWord)
def wsX1_lay_r1 : List Cond := [Cond.classLink RX1 35 "java/lang/IllegalStateException", Cond.initialized "java/lang/IllegalStateException", Cond.fieldLink RX1 10 "AqueductTanks" "land" "LAqueductTanks$Land;", Cond.methodLink RX1 42 yX1_needTank, Cond.instanceMethod yX1_needTank, Cond.selects RX1 yX1_needTank yX1_needTank, Cond.initialized RX1, Cond.code yX1_needTank cX1_needTank 2 none, Cond.fieldLink RX1 107 "AqueductTanks$Land" "tankCount" "I", Cond.methodLink RX1 62 yX1_needIndex, Cond.static yX1_needIndex, Cond.code yX1_needIndex cX1_needIndex 1 none, Cond.classLink RX1 110 "java/lang/IndexOutOfBoundsException", Cond.initialized "java/lang/IndexOutOfBoundsException", Cond.methodLink RX1 23 yX1_needArgument, Cond.static yX1_needArgument, Cond.code yX1_needArgument cX1_needArgument 1 none, Cond.classLink RX1 115 "java/lang/IllegalArgumentException", Cond.initialized "java/lang/IllegalArgumentException", Cond.methodLink RX1 19 yX1_isWithin, Cond.static yX1_isWithin, Cond.code yX1_isWithin cX1_isWithin 3 (some .boolean), Cond.methodLink RX1 46 yX0_addPipe, Cond.instanceMethod yX0_addPipe]
def wsX1_lay_r2 : List Cond := [Cond.selects RX0 yX0_addPipe yX0_addPipe, Cond.initialized RX0, Cond.code yX0_addPipe cX0_addPipe 6 (some .int), Cond.fieldLink RX0 23 "AqueductTanks$Land" "pipeCount" "I", Cond.fieldLink RX0 16 "AqueductTanks$Land" "pipes" "[[I"]
def wsX1_lay : List Cond := .code yX1_lay cX1_lay 6 (some .int) :: ((wsX1_lay_r1 ++ wsX1_lay_r2) ++ wsX10 ++ wsX00 ++ (vx_atS RX1 39 "java/lang/IllegalStateException" ["java/lang/RuntimeException", "java/lang/Exception"]).filter goodWord ++ (vx_atS RX1 114 "java/lang/IndexOutOfBoundsException" ["java/lang/RuntimeException", "java/lang/Exception"]).filter goodWord ++ (vx_atS RX1 119 "java/lang/IllegalArgumentException" ["java/lang/RuntimeException", "java/lang/Exception"]).filter goodWord)
def wsX1_set : List Cond := .code yX1_set cX1_set 6 (some .int) :: ([.fieldLink RX1 10 "AqueductTanks" "land" "LAqueductTanks$Land;", .fieldLink RX1 52 "AqueductTanks$Land" "tanks" "[[I", .methodLink RX1 42 yX1_needTank, .instanceMethod yX1_needTank, .selects RX1 yX1_needTank yX1_needTank, .initialized RX1, .code yX1_needTank cX1_needTank 2 none, .fieldLink RX1 107 "AqueductTanks$Land" "tankCount" "I", .methodLink RX1 62 yX1_needIndex, .static yX1_needIndex, .code yX1_needIndex cX1_needIndex 1 none, .classLink RX1 110 "java/lang/IndexOutOfBoundsException", .initialized "java/lang/IndexOutOfBoundsException", .methodLink RX1 27 yX1_isSpringAndThirst, .static yX1_isSpringAndThirst, .code yX1_isSpringAndThirst cX1_isSpringAndThirst 2 (some .boolean), .methodLink RX1 19 yX1_isWithin, .static yX1_isWithin, .code yX1_isWithin cX1_isWithin 3 (some .boolean), .methodLink RX1 23 yX1_needArgument, .static yX1_needArgument, .code yX1_needArgument cX1_needArgument 1 none, .classLink RX1 115 "java/lang/IllegalArgumentException", .initialized "java/lang/IllegalArgumentException"] ++ wsX10 ++ wsX00 ++ (vx_atS RX1 114 "java/lang/IndexOutOfBoundsException" ["java/lang/RuntimeException", "java/lang/Exception"]).filter goodWord ++ (vx_atS RX1 119 "java/lang/IllegalArgumentException" ["java/lang/RuntimeException", "java/lang/Exception"]).filter goodWord)
def wsX1_flush : List Cond := .code yX1_flush cX1_flush 4 (some .int) :: ([.fieldLink RX1 10 "AqueductTanks" "land" "LAqueductTanks$Land;", .fieldLink RX1 52 "AqueductTanks$Land" "tanks" "[[I", .methodLink RX1 42 yX1_needTank, .instanceMethod yX1_needTank, .selects RX1 yX1_needTank yX1_needTank, .initialized RX1, .code yX1_needTank cX1_needTank 2 none, .fieldLink RX1 107 "AqueductTanks$Land" "tankCount" "I", .methodLink RX1 62 yX1_needIndex, .static yX1_needIndex, .code yX1_needIndex cX1_needIndex 1 none, .classLink RX1 110 "java/lang/IndexOutOfBoundsException", .initialized "java/lang/IndexOutOfBoundsException"] ++ wsX10 ++ wsX00 ++ (vx_atS RX1 114 "java/lang/IndexOutOfBoundsException" ["java/lang/RuntimeException", "java/lang/Exception"]).filter goodWord)
def wsX1_needPipe : List Cond := .code yX1_needPipe cX1_needPipe 2 none :: ([.fieldLink RX1 10 "AqueductTanks" "land" "LAqueductTanks$Land;", .fieldLink RX1 76 "AqueductTanks$Land" "pipeCount" "I", .methodLink RX1 62 yX1_needIndex, .static yX1_needIndex, .initialized RX1, .code yX1_needIndex cX1_needIndex 1 none, .classLink RX1 110 "java/lang/IndexOutOfBoundsException", .initialized "java/lang/IndexOutOfBoundsException"] ++ wsX10 ++ wsX00 ++ (vx_atS RX1 114 "java/lang/IndexOutOfBoundsException" ["java/lang/RuntimeException", "java/lang/Exception"]).filter goodWord)
def wsX1_scrape : List Cond := .code yX1_scrape cX1_scrape 4 (some .int) :: ([.fieldLink RX1 10 "AqueductTanks" "land" "LAqueductTanks$Land;", .fieldLink RX1 59 "AqueductTanks$Land" "pipes" "[[I", .methodLink RX1 56 yX1_needPipe, .instanceMethod yX1_needPipe, .selects RX1 yX1_needPipe yX1_needPipe, .initialized RX1, .code yX1_needPipe cX1_needPipe 2 none, .fieldLink RX1 76 "AqueductTanks$Land" "pipeCount" "I", .methodLink RX1 62 yX1_needIndex, .static yX1_needIndex, .code yX1_needIndex cX1_needIndex 1 none, .classLink RX1 110 "java/lang/IndexOutOfBoundsException", .initialized "java/lang/IndexOutOfBoundsException"] ++ wsX10 ++ wsX00 ++ (vx_atS RX1 114 "java/lang/IndexOutOfBoundsException" ["java/lang/RuntimeException", "java/lang/Exception"]).filter goodWord)
def wsX1_steal : List Cond := .code yX1_steal cX1_steal 5 (some .int) :: ([.fieldLink RX1 10 "AqueductTanks" "land" "LAqueductTanks$Land;", .fieldLink RX1 59 "AqueductTanks$Land" "pipes" "[[I", .methodLink RX1 56 yX1_needPipe, .instanceMethod yX1_needPipe, .selects RX1 yX1_needPipe yX1_needPipe, .initialized RX1, .code yX1_needPipe cX1_needPipe 2 none, .fieldLink RX1 76 "AqueductTanks$Land" "pipeCount" "I", .methodLink RX1 62 yX1_needIndex, .static yX1_needIndex, .code yX1_needIndex cX1_needIndex 1 none, .classLink RX1 110 "java/lang/IndexOutOfBoundsException", .initialized "java/lang/IndexOutOfBoundsException", .methodLink RX1 19 yX1_isWithin, .static yX1_isWithin, .code yX1_isWithin cX1_isWithin 3 (some .boolean), .methodLink RX1 23 yX1_needArgument, .static yX1_needArgument, .code yX1_needArgument cX1_needArgument 1 none, .classLink RX1 115 "java/lang/IllegalArgumentException", .initialized "java/lang/IllegalArgumentException"] ++ wsX10 ++ wsX00 ++ (vx_atS RX1 114 "java/lang/IndexOutOfBoundsException" ["java/lang/RuntimeException", "java/lang/Exception"]).filter goodWord ++ (vx_atS RX1 119 "java/lang/IllegalArgumentException" ["java/lang/RuntimeException", "java/lang/Exception"]).filter goodWord)
def wsX1_tank : List Cond := .code yX1_tank cX1_tank 3 (some .int) :: ([.fieldLink RX1 10 "AqueductTanks" "land" "LAqueductTanks$Land;", .fieldLink RX1 52 "AqueductTanks$Land" "tanks" "[[I", .methodLink RX1 42 yX1_needTank, .instanceMethod yX1_needTank, .selects RX1 yX1_needTank yX1_needTank, .initialized RX1, .code yX1_needTank cX1_needTank 2 none, .fieldLink RX1 107 "AqueductTanks$Land" "tankCount" "I", .methodLink RX1 62 yX1_needIndex, .static yX1_needIndex, .code yX1_needIndex cX1_needIndex 1 none, .classLink RX1 110 "java/lang/IndexOutOfBoundsException", .initialized "java/lang/IndexOutOfBoundsException", .methodLink RX1 19 yX1_isWithin, .static yX1_isWithin, .code yX1_isWithin cX1_isWithin 3 (some .boolean)] ++ wsX10 ++ wsX00 ++ (vx_atS RX1 114 "java/lang/IndexOutOfBoundsException" ["java/lang/RuntimeException", "java/lang/Exception"]).filter goodWord)
def wsX1_pipe_r1 : List Cond := [Cond.fieldLink RX1 10 "AqueductTanks" "land" "LAqueductTanks$Land;", Cond.methodLink RX1 56 yX1_needPipe, Cond.instanceMethod yX1_needPipe, Cond.selects RX1 yX1_needPipe yX1_needPipe, Cond.initialized RX1, Cond.code yX1_needPipe cX1_needPipe 2 none, Cond.fieldLink RX1 76 "AqueductTanks$Land" "pipeCount" "I", Cond.methodLink RX1 62 yX1_needIndex, Cond.static yX1_needIndex, Cond.code yX1_needIndex cX1_needIndex 1 none, Cond.classLink RX1 110 "java/lang/IndexOutOfBoundsException", Cond.initialized "java/lang/IndexOutOfBoundsException", Cond.methodLink RX1 19 yX1_isWithin, Cond.static yX1_isWithin, Cond.code yX1_isWithin cX1_isWithin 3 (some .boolean), Cond.methodLink RX1 65 yX0_ofPipe, Cond.instanceMethod yX0_ofPipe, Cond.selects RX0 yX0_ofPipe yX0_ofPipe, Cond.initialized RX0, Cond.code yX0_ofPipe cX0_ofPipe 3 (some .int), Cond.fieldLink RX0 16 "AqueductTanks$Land" "pipes" "[[I", Cond.methodLink RX0 35 yX0_whatCanFlow, Cond.instanceMethod yX0_whatCanFlow, Cond.selects RX0 yX0_whatCanFlow yX0_whatCanFlow]
def wsX1_pipe_r2 : List Cond := [Cond.code yX0_whatCanFlow cX0_whatCanFlow 7 (some .int), Cond.fieldLink RX0 13 "AqueductTanks$Land" "tanks" "[[I", Cond.methodLink RX0 57 Lib.Math.max.name, Cond.static Lib.Math.max.name, Cond.initialized "java/lang/Math", Cond.code Lib.Math.max.name Lib.Math.max.code 2 (some .int), Cond.methodLink RX0 63 Lib.Math.min.name, Cond.static Lib.Math.min.name, Cond.code Lib.Math.min.name Lib.Math.min.code 2 (some .int), Cond.methodLink RX0 53 yX0_head, Cond.static yX0_head, Cond.code yX0_head cX0_head 1 (some .int)]
def wsX1_pipe : List Cond := .code yX1_pipe cX1_pipe 3 (some .int) :: ((wsX1_pipe_r1 ++ wsX1_pipe_r2) ++ wsX10 ++ wsX00 ++ (vx_atS RX1 114 "java/lang/IndexOutOfBoundsException" ["java/lang/RuntimeException", "java/lang/Exception"]).filter goodWord)
def wsX1_count_r1 : List Cond := [Cond.fieldLink RX1 10 "AqueductTanks" "land" "LAqueductTanks$Land;", Cond.methodLink RX1 19 yX1_isWithin, Cond.static yX1_isWithin, Cond.initialized RX1, Cond.code yX1_isWithin cX1_isWithin 3 (some .boolean), Cond.methodLink RX1 62 yX1_needIndex, Cond.static yX1_needIndex, Cond.code yX1_needIndex cX1_needIndex 1 none, Cond.classLink RX1 110 "java/lang/IndexOutOfBoundsException", Cond.initialized "java/lang/IndexOutOfBoundsException", Cond.methodLink RX1 69 yX0_ofAll, Cond.instanceMethod yX0_ofAll, Cond.selects RX0 yX0_ofAll yX0_ofAll, Cond.initialized RX0, Cond.code yX0_ofAll cX0_ofAll 2 (some .int), Cond.fieldLink RX0 26 "AqueductTanks$Land" "day" "I", Cond.fieldLink RX0 19 "AqueductTanks$Land" "tankCount" "I", Cond.fieldLink RX0 23 "AqueductTanks$Land" "pipeCount" "I", Cond.methodLink RX0 39 yX0_sumOfTanks, Cond.instanceMethod yX0_sumOfTanks, Cond.selects RX0 yX0_sumOfTanks yX0_sumOfTanks, Cond.code yX0_sumOfTanks cX0_sumOfTanks 4 (some .int), Cond.fieldLink RX0 13 "AqueductTanks$Land" "tanks" "[[I", Cond.methodLink RX0 42 yX0_sumOfPipes]
def wsX1_count_r2 : List Cond := [Cond.instanceMethod yX0_sumOfPipes, Cond.selects RX0 yX0_sumOfPipes yX0_sumOfPipes, Cond.code yX0_sumOfPipes cX0_sumOfPipes 4 (some .int), Cond.fieldLink RX0 16 "AqueductTanks$Land" "pipes" "[[I", Cond.methodLink RX0 45 yX0_thirstyTanks, Cond.instanceMethod yX0_thirstyTanks, Cond.selects RX0 yX0_thirstyTanks yX0_thirstyTanks, Cond.code yX0_thirstyTanks cX0_thirstyTanks 3 (some .int), Cond.methodLink RX0 49 yX0_isThirsty, Cond.instanceMethod yX0_isThirsty, Cond.selects RX0 yX0_isThirsty yX0_isThirsty, Cond.code yX0_isThirsty cX0_isThirsty 2 (some .boolean)]
def wsX1_count : List Cond := .code yX1_count cX1_count 2 (some .int) :: ((wsX1_count_r1 ++ wsX1_count_r2) ++ wsX10 ++ wsX00 ++ (vx_atS RX1 114 "java/lang/IndexOutOfBoundsException" ["java/lang/RuntimeException", "java/lang/Exception"]).filter goodWord)
def wsX1_reach : List Cond := .code yX1_reach cX1_reach 2 (some .int) :: ([.fieldLink RX1 10 "AqueductTanks" "land" "LAqueductTanks$Land;", .methodLink RX1 42 yX1_needTank, .instanceMethod yX1_needTank, .selects RX1 yX1_needTank yX1_needTank, .initialized RX1, .code yX1_needTank cX1_needTank 2 none, .fieldLink RX1 107 "AqueductTanks$Land" "tankCount" "I", .methodLink RX1 62 yX1_needIndex, .static yX1_needIndex, .code yX1_needIndex cX1_needIndex 1 none, .classLink RX1 110 "java/lang/IndexOutOfBoundsException", .initialized "java/lang/IndexOutOfBoundsException", .methodLink RX1 73 yX0_reachedFrom, .instanceMethod yX0_reachedFrom, .selects RX0 yX0_reachedFrom yX0_reachedFrom, .initialized RX0, .code yX0_reachedFrom cX0_reachedFrom 6 (some .int), .fieldLink RX0 19 "AqueductTanks$Land" "tankCount" "I", .fieldLink RX0 23 "AqueductTanks$Land" "pipeCount" "I", .fieldLink RX0 16 "AqueductTanks$Land" "pipes" "[[I"] ++ wsX10 ++ wsX00 ++ (vx_atS RX1 114 "java/lang/IndexOutOfBoundsException" ["java/lang/RuntimeException", "java/lang/Exception"]).filter goodWord)
def wsX1_suspect : List Cond := .code yX1_suspect cX1_suspect 5 (some .int) :: ([.fieldLink RX1 10 "AqueductTanks" "land" "LAqueductTanks$Land;", .fieldLink RX1 76 "AqueductTanks$Land" "pipeCount" "I", .fieldLink RX1 59 "AqueductTanks$Land" "pipes" "[[I"] ++ wsX10 ++ wsX00)
def wsX1_pass_r1 : List Cond := [Cond.fieldLink RX1 10 "AqueductTanks" "land" "LAqueductTanks$Land;", Cond.methodLink RX1 19 yX1_isWithin, Cond.static yX1_isWithin, Cond.initialized RX1, Cond.code yX1_isWithin cX1_isWithin 3 (some .boolean), Cond.methodLink RX1 23 yX1_needArgument, Cond.static yX1_needArgument, Cond.code yX1_needArgument cX1_needArgument 1 none, Cond.classLink RX1 115 "java/lang/IllegalArgumentException", Cond.initialized "java/lang/IllegalArgumentException", Cond.methodLink RX1 80 yX0_drunkIn, Cond.instanceMethod yX0_drunkIn, Cond.selects RX0 yX0_drunkIn yX0_drunkIn, Cond.initialized RX0, Cond.code yX0_drunkIn cX0_drunkIn 4 (some .int), Cond.methodLink RX0 39 yX0_sumOfTanks, Cond.instanceMethod yX0_sumOfTanks, Cond.selects RX0 yX0_sumOfTanks yX0_sumOfTanks, Cond.code yX0_sumOfTanks cX0_sumOfTanks 4 (some .int), Cond.fieldLink RX0 19 "AqueductTanks$Land" "tankCount" "I", Cond.fieldLink RX0 13 "AqueductTanks$Land" "tanks" "[[I", Cond.methodLink RX0 66 yX0_goThroughDay, Cond.instanceMethod yX0_goThroughDay, Cond.selects RX0 yX0_goThroughDay yX0_goThroughDay]
def wsX1_pass_r2 : List Cond := [Cond.code yX0_goThroughDay cX0_goThroughDay 2 none, Cond.fieldLink RX0 23 "AqueductTanks$Land" "pipeCount" "I", Cond.fieldLink RX0 26 "AqueductTanks$Land" "day" "I", Cond.methodLink RX0 69 yX0_feed, Cond.static yX0_feed, Cond.code yX0_feed cX0_feed 1 none, Cond.methodLink RX0 83 yX0_takeInWater, Cond.static yX0_takeInWater, Cond.code yX0_takeInWater cX0_takeInWater 4 none, Cond.methodLink RX0 57 Lib.Math.max.name, Cond.static Lib.Math.max.name, Cond.initialized "java/lang/Math", Cond.code Lib.Math.max.name Lib.Math.max.code 2 (some .int), Cond.methodLink RX0 87 yX0_takeInMud, Cond.static yX0_takeInMud, Cond.code yX0_takeInMud cX0_takeInMud 2 none, Cond.methodLink RX0 63 Lib.Math.min.name, Cond.static Lib.Math.min.name, Cond.code Lib.Math.min.name Lib.Math.min.code 2 (some .int), Cond.methodLink RX0 73 yX0_flowThrough, Cond.instanceMethod yX0_flowThrough, Cond.selects RX0 yX0_flowThrough yX0_flowThrough, Cond.code yX0_flowThrough cX0_flowThrough 7 none, Cond.fieldLink RX0 16 "AqueductTanks$Land" "pipes" "[[I"]
def wsX1_pass_r3 : List Cond := [Cond.methodLink RX0 35 yX0_whatCanFlow, Cond.instanceMethod yX0_whatCanFlow, Cond.selects RX0 yX0_whatCanFlow yX0_whatCanFlow, Cond.code yX0_whatCanFlow cX0_whatCanFlow 7 (some .int), Cond.methodLink RX0 53 yX0_head, Cond.static yX0_head, Cond.code yX0_head cX0_head 1 (some .int), Cond.methodLink RX0 90 yX0_wanderMud, Cond.static yX0_wanderMud, Cond.code yX0_wanderMud cX0_wanderMud 4 none, Cond.methodLink RX0 77 yX0_growCrusts, Cond.instanceMethod yX0_growCrusts, Cond.selects RX0 yX0_growCrusts yX0_growCrusts, Cond.code yX0_growCrusts cX0_growCrusts 3 none, Cond.methodLink RX0 80 yX0_drinkFrom, Cond.static yX0_drinkFrom, Cond.code yX0_drinkFrom cX0_drinkFrom 3 none]
def wsX1_pass : List Cond := .code yX1_pass cX1_pass 2 (some .int) :: ((wsX1_pass_r1 ++ (wsX1_pass_r2 ++ wsX1_pass_r3)) ++ wsX10 ++ wsX00 ++ (vx_atS RX1 119 "java/lang/IllegalArgumentException" ["java/lang/RuntimeException", "java/lang/Exception"]).filter goodWord)
def wsX1_foresee_r1 : List Cond := [Cond.fieldLink RX1 16 "AqueductTanks" "trial" "LAqueductTanks$Land;", Cond.fieldLink RX1 10 "AqueductTanks" "land" "LAqueductTanks$Land;", Cond.methodLink RX1 19 yX1_isWithin, Cond.static yX1_isWithin, Cond.initialized RX1, Cond.code yX1_isWithin cX1_isWithin 3 (some .boolean), Cond.methodLink RX1 23 yX1_needArgument, Cond.static yX1_needArgument, Cond.code yX1_needArgument cX1_needArgument 1 none, Cond.classLink RX1 115 "java/lang/IllegalArgumentException", Cond.initialized "java/lang/IllegalArgumentException", Cond.methodLink RX1 62 yX1_needIndex, Cond.static yX1_needIndex, Cond.code yX1_needIndex cX1_needIndex 1 none, Cond.classLink RX1 110 "java/lang/IndexOutOfBoundsException", Cond.initialized "java/lang/IndexOutOfBoundsException", Cond.methodLink RX1 83 yX0_copyFrom, Cond.instanceMethod yX0_copyFrom, Cond.selects RX0 yX0_copyFrom yX0_copyFrom, Cond.initialized RX0, Cond.code yX0_copyFrom cX0_copyFrom 3 none, Cond.fieldLink RX0 26 "AqueductTanks$Land" "day" "I", Cond.fieldLink RX0 19 "AqueductTanks$Land" "tankCount" "I", Cond.fieldLink RX0 23 "AqueductTanks$Land" "pipeCount" "I"]
def wsX1_foresee_r2 : List Cond := [Cond.fieldLink RX0 13 "AqueductTanks$Land" "tanks" "[[I", Cond.methodLink RX0 29 arraycopyName, Cond.native arraycopyName, Cond.static arraycopyName, Cond.initialized "java/lang/System", Cond.fieldLink RX0 16 "AqueductTanks$Land" "pipes" "[[I", Cond.methodLink RX1 80 yX0_drunkIn, Cond.instanceMethod yX0_drunkIn, Cond.selects RX0 yX0_drunkIn yX0_drunkIn, Cond.code yX0_drunkIn cX0_drunkIn 4 (some .int), Cond.methodLink RX0 39 yX0_sumOfTanks, Cond.instanceMethod yX0_sumOfTanks, Cond.selects RX0 yX0_sumOfTanks yX0_sumOfTanks, Cond.code yX0_sumOfTanks cX0_sumOfTanks 4 (some .int), Cond.methodLink RX0 66 yX0_goThroughDay, Cond.instanceMethod yX0_goThroughDay, Cond.selects RX0 yX0_goThroughDay yX0_goThroughDay, Cond.code yX0_goThroughDay cX0_goThroughDay 2 none, Cond.methodLink RX0 69 yX0_feed, Cond.static yX0_feed, Cond.code yX0_feed cX0_feed 1 none, Cond.methodLink RX0 83 yX0_takeInWater, Cond.static yX0_takeInWater, Cond.code yX0_takeInWater cX0_takeInWater 4 none]
def wsX1_foresee_r3 : List Cond := [Cond.methodLink RX0 57 Lib.Math.max.name, Cond.static Lib.Math.max.name, Cond.initialized "java/lang/Math", Cond.code Lib.Math.max.name Lib.Math.max.code 2 (some .int), Cond.methodLink RX0 87 yX0_takeInMud, Cond.static yX0_takeInMud, Cond.code yX0_takeInMud cX0_takeInMud 2 none, Cond.methodLink RX0 63 Lib.Math.min.name, Cond.static Lib.Math.min.name, Cond.code Lib.Math.min.name Lib.Math.min.code 2 (some .int), Cond.methodLink RX0 73 yX0_flowThrough, Cond.instanceMethod yX0_flowThrough, Cond.selects RX0 yX0_flowThrough yX0_flowThrough, Cond.code yX0_flowThrough cX0_flowThrough 7 none, Cond.methodLink RX0 35 yX0_whatCanFlow, Cond.instanceMethod yX0_whatCanFlow, Cond.selects RX0 yX0_whatCanFlow yX0_whatCanFlow, Cond.code yX0_whatCanFlow cX0_whatCanFlow 7 (some .int), Cond.methodLink RX0 53 yX0_head, Cond.static yX0_head, Cond.code yX0_head cX0_head 1 (some .int), Cond.methodLink RX0 90 yX0_wanderMud, Cond.static yX0_wanderMud, Cond.code yX0_wanderMud cX0_wanderMud 4 none]
def wsX1_foresee_r4 : List Cond := [Cond.methodLink RX0 77 yX0_growCrusts, Cond.instanceMethod yX0_growCrusts, Cond.selects RX0 yX0_growCrusts yX0_growCrusts, Cond.code yX0_growCrusts cX0_growCrusts 3 none, Cond.methodLink RX0 80 yX0_drinkFrom, Cond.static yX0_drinkFrom, Cond.code yX0_drinkFrom cX0_drinkFrom 3 none, Cond.methodLink RX1 87 yX0_sumOfPipes, Cond.instanceMethod yX0_sumOfPipes, Cond.selects RX0 yX0_sumOfPipes yX0_sumOfPipes, Cond.code yX0_sumOfPipes cX0_sumOfPipes 4 (some .int), Cond.methodLink RX1 90 yX0_sumOfTanks]
def wsX1_foresee : List Cond := .code yX1_foresee cX1_foresee 4 (some .int) :: ((wsX1_foresee_r1 ++ (wsX1_foresee_r2 ++ (wsX1_foresee_r3 ++ wsX1_foresee_r4))) ++ wsX10 ++ wsX00 ++ (vx_atS RX1 119 "java/lang/IllegalArgumentException" ["java/lang/RuntimeException", "java/lang/Exception"]).filter goodWord ++ (vx_atS RX1 114 "java/lang/IndexOutOfBoundsException" ["java/lang/RuntimeException", "java/lang/Exception"]).filter goodWord)
def wsX1_advise_r1 : List Cond := [Cond.fieldLink RX1 16 "AqueductTanks" "trial" "LAqueductTanks$Land;", Cond.fieldLink RX1 10 "AqueductTanks" "land" "LAqueductTanks$Land;", Cond.fieldLink RX1 76 "AqueductTanks$Land" "pipeCount" "I", Cond.fieldLink RX1 59 "AqueductTanks$Land" "pipes" "[[I", Cond.methodLink RX1 19 yX1_isWithin, Cond.static yX1_isWithin, Cond.initialized RX1, Cond.code yX1_isWithin cX1_isWithin 3 (some .boolean), Cond.methodLink RX1 23 yX1_needArgument, Cond.static yX1_needArgument, Cond.code yX1_needArgument cX1_needArgument 1 none, Cond.classLink RX1 115 "java/lang/IllegalArgumentException", Cond.initialized "java/lang/IllegalArgumentException", Cond.methodLink RX1 83 yX0_copyFrom, Cond.instanceMethod yX0_copyFrom, Cond.selects RX0 yX0_copyFrom yX0_copyFrom, Cond.initialized RX0, Cond.code yX0_copyFrom cX0_copyFrom 3 none, Cond.fieldLink RX0 26 "AqueductTanks$Land" "day" "I", Cond.fieldLink RX0 19 "AqueductTanks$Land" "tankCount" "I", Cond.fieldLink RX0 23 "AqueductTanks$Land" "pipeCount" "I", Cond.fieldLink RX0 13 "AqueductTanks$Land" "tanks" "[[I", Cond.methodLink RX0 29 arraycopyName, Cond.native arraycopyName]
def wsX1_advise_r2 : List Cond := [Cond.static arraycopyName, Cond.initialized "java/lang/System", Cond.fieldLink RX0 16 "AqueductTanks$Land" "pipes" "[[I", Cond.methodLink RX1 80 yX0_drunkIn, Cond.instanceMethod yX0_drunkIn, Cond.selects RX0 yX0_drunkIn yX0_drunkIn, Cond.code yX0_drunkIn cX0_drunkIn 4 (some .int), Cond.methodLink RX0 39 yX0_sumOfTanks, Cond.instanceMethod yX0_sumOfTanks, Cond.selects RX0 yX0_sumOfTanks yX0_sumOfTanks, Cond.code yX0_sumOfTanks cX0_sumOfTanks 4 (some .int), Cond.methodLink RX0 66 yX0_goThroughDay, Cond.instanceMethod yX0_goThroughDay, Cond.selects RX0 yX0_goThroughDay yX0_goThroughDay, Cond.code yX0_goThroughDay cX0_goThroughDay 2 none, Cond.methodLink RX0 69 yX0_feed, Cond.static yX0_feed, Cond.code yX0_feed cX0_feed 1 none, Cond.methodLink RX0 83 yX0_takeInWater, Cond.static yX0_takeInWater, Cond.code yX0_takeInWater cX0_takeInWater 4 none, Cond.methodLink RX0 57 Lib.Math.max.name, Cond.static Lib.Math.max.name, Cond.initialized "java/lang/Math"]
def wsX1_advise_r3 : List Cond := [Cond.code Lib.Math.max.name Lib.Math.max.code 2 (some .int), Cond.methodLink RX0 87 yX0_takeInMud, Cond.static yX0_takeInMud, Cond.code yX0_takeInMud cX0_takeInMud 2 none, Cond.methodLink RX0 63 Lib.Math.min.name, Cond.static Lib.Math.min.name, Cond.code Lib.Math.min.name Lib.Math.min.code 2 (some .int), Cond.methodLink RX0 73 yX0_flowThrough, Cond.instanceMethod yX0_flowThrough, Cond.selects RX0 yX0_flowThrough yX0_flowThrough, Cond.code yX0_flowThrough cX0_flowThrough 7 none, Cond.methodLink RX0 35 yX0_whatCanFlow, Cond.instanceMethod yX0_whatCanFlow, Cond.selects RX0 yX0_whatCanFlow yX0_whatCanFlow, Cond.code yX0_whatCanFlow cX0_whatCanFlow 7 (some .int), Cond.methodLink RX0 53 yX0_head, Cond.static yX0_head, Cond.code yX0_head cX0_head 1 (some .int), Cond.methodLink RX0 90 yX0_wanderMud, Cond.static yX0_wanderMud, Cond.code yX0_wanderMud cX0_wanderMud 4 none, Cond.methodLink RX0 77 yX0_growCrusts, Cond.instanceMethod yX0_growCrusts, Cond.selects RX0 yX0_growCrusts yX0_growCrusts]
def wsX1_advise_r4 : List Cond := [Cond.code yX0_growCrusts cX0_growCrusts 3 none, Cond.methodLink RX0 80 yX0_drinkFrom, Cond.static yX0_drinkFrom, Cond.code yX0_drinkFrom cX0_drinkFrom 3 none]
def wsX1_advise : List Cond := .code yX1_advise cX1_advise 6 (some .int) :: ((wsX1_advise_r1 ++ (wsX1_advise_r2 ++ (wsX1_advise_r3 ++ wsX1_advise_r4))) ++ wsX10 ++ wsX00 ++ (vx_atS RX1 119 "java/lang/IllegalArgumentException" ["java/lang/RuntimeException", "java/lang/Exception"]).filter goodWord)
def wsX1_sated_r1 : List Cond := [Cond.fieldLink RX1 16 "AqueductTanks" "trial" "LAqueductTanks$Land;", Cond.fieldLink RX1 10 "AqueductTanks" "land" "LAqueductTanks$Land;", Cond.methodLink RX1 42 yX1_needTank, Cond.instanceMethod yX1_needTank, Cond.selects RX1 yX1_needTank yX1_needTank, Cond.initialized RX1, Cond.code yX1_needTank cX1_needTank 2 none, Cond.fieldLink RX1 107 "AqueductTanks$Land" "tankCount" "I", Cond.methodLink RX1 62 yX1_needIndex, Cond.static yX1_needIndex, Cond.code yX1_needIndex cX1_needIndex 1 none, Cond.classLink RX1 110 "java/lang/IndexOutOfBoundsException", Cond.initialized "java/lang/IndexOutOfBoundsException", Cond.methodLink RX1 83 yX0_copyFrom, Cond.instanceMethod yX0_copyFrom, Cond.selects RX0 yX0_copyFrom yX0_copyFrom, Cond.initialized RX0, Cond.code yX0_copyFrom cX0_copyFrom 3 none, Cond.fieldLink RX0 26 "AqueductTanks$Land" "day" "I", Cond.fieldLink RX0 19 "AqueductTanks$Land" "tankCount" "I", Cond.fieldLink RX0 23 "AqueductTanks$Land" "pipeCount" "I", Cond.fieldLink RX0 13 "AqueductTanks$Land" "tanks" "[[I", Cond.methodLink RX0 29 arraycopyName, Cond.native arraycopyName]
def wsX1_sated_r2 : List Cond := [Cond.static arraycopyName, Cond.initialized "java/lang/System", Cond.fieldLink RX0 16 "AqueductTanks$Land" "pipes" "[[I", Cond.methodLink RX1 93 yX0_goThroughDay, Cond.instanceMethod yX0_goThroughDay, Cond.selects RX0 yX0_goThroughDay yX0_goThroughDay, Cond.code yX0_goThroughDay cX0_goThroughDay 2 none, Cond.methodLink RX0 69 yX0_feed, Cond.static yX0_feed, Cond.code yX0_feed cX0_feed 1 none, Cond.methodLink RX0 83 yX0_takeInWater, Cond.static yX0_takeInWater, Cond.code yX0_takeInWater cX0_takeInWater 4 none, Cond.methodLink RX0 57 Lib.Math.max.name, Cond.static Lib.Math.max.name, Cond.initialized "java/lang/Math", Cond.code Lib.Math.max.name Lib.Math.max.code 2 (some .int), Cond.methodLink RX0 87 yX0_takeInMud, Cond.static yX0_takeInMud, Cond.code yX0_takeInMud cX0_takeInMud 2 none, Cond.methodLink RX0 63 Lib.Math.min.name, Cond.static Lib.Math.min.name, Cond.code Lib.Math.min.name Lib.Math.min.code 2 (some .int), Cond.methodLink RX0 73 yX0_flowThrough]
def wsX1_sated_r3 : List Cond := [Cond.instanceMethod yX0_flowThrough, Cond.selects RX0 yX0_flowThrough yX0_flowThrough, Cond.code yX0_flowThrough cX0_flowThrough 7 none, Cond.methodLink RX0 35 yX0_whatCanFlow, Cond.instanceMethod yX0_whatCanFlow, Cond.selects RX0 yX0_whatCanFlow yX0_whatCanFlow, Cond.code yX0_whatCanFlow cX0_whatCanFlow 7 (some .int), Cond.methodLink RX0 53 yX0_head, Cond.static yX0_head, Cond.code yX0_head cX0_head 1 (some .int), Cond.methodLink RX0 90 yX0_wanderMud, Cond.static yX0_wanderMud, Cond.code yX0_wanderMud cX0_wanderMud 4 none, Cond.methodLink RX0 77 yX0_growCrusts, Cond.instanceMethod yX0_growCrusts, Cond.selects RX0 yX0_growCrusts yX0_growCrusts, Cond.code yX0_growCrusts cX0_growCrusts 3 none, Cond.methodLink RX0 80 yX0_drinkFrom, Cond.static yX0_drinkFrom, Cond.code yX0_drinkFrom cX0_drinkFrom 3 none, Cond.methodLink RX1 96 yX0_isThirsty, Cond.instanceMethod yX0_isThirsty, Cond.selects RX0 yX0_isThirsty yX0_isThirsty, Cond.code yX0_isThirsty cX0_isThirsty 2 (some .boolean)]
def wsX1_sated : List Cond := .code yX1_sated cX1_sated 3 (some .int) :: ((wsX1_sated_r1 ++ (wsX1_sated_r2 ++ wsX1_sated_r3)) ++ wsX10 ++ wsX00 ++ (vx_atS RX1 114 "java/lang/IndexOutOfBoundsException" ["java/lang/RuntimeException", "java/lang/Exception"]).filter goodWord)
def wsX1_mean : List Cond := .code yX1_mean cX1_mean 1 (some .double) :: ([.fieldLink RX1 10 "AqueductTanks" "land" "LAqueductTanks$Land;", .fieldLink RX1 100 "AqueductTanks$Land" "day" "I", .methodLink RX1 90 yX0_sumOfTanks, .instanceMethod yX0_sumOfTanks, .selects RX0 yX0_sumOfTanks yX0_sumOfTanks, .initialized RX0, .code yX0_sumOfTanks cX0_sumOfTanks 4 (some .int), .fieldLink RX0 19 "AqueductTanks$Land" "tankCount" "I", .fieldLink RX0 13 "AqueductTanks$Land" "tanks" "[[I"] ++ wsX10 ++ wsX00)
def wsX1_digest_r1 : List Cond := [Cond.constantLong RX1 103 (1031), Cond.constantLong RX1 105 (31), Cond.fieldLink RX1 10 "AqueductTanks" "land" "LAqueductTanks$Land;", Cond.fieldLink RX1 107 "AqueductTanks$Land" "tankCount" "I", Cond.fieldLink RX1 52 "AqueductTanks$Land" "tanks" "[[I", Cond.fieldLink RX1 76 "AqueductTanks$Land" "pipeCount" "I", Cond.methodLink RX1 69 yX0_ofAll, Cond.instanceMethod yX0_ofAll, Cond.selects RX0 yX0_ofAll yX0_ofAll, Cond.initialized RX0, Cond.code yX0_ofAll cX0_ofAll 2 (some .int), Cond.fieldLink RX0 26 "AqueductTanks$Land" "day" "I", Cond.fieldLink RX0 19 "AqueductTanks$Land" "tankCount" "I", Cond.fieldLink RX0 23 "AqueductTanks$Land" "pipeCount" "I", Cond.methodLink RX0 39 yX0_sumOfTanks, Cond.instanceMethod yX0_sumOfTanks, Cond.selects RX0 yX0_sumOfTanks yX0_sumOfTanks, Cond.code yX0_sumOfTanks cX0_sumOfTanks 4 (some .int), Cond.fieldLink RX0 13 "AqueductTanks$Land" "tanks" "[[I", Cond.methodLink RX0 42 yX0_sumOfPipes, Cond.instanceMethod yX0_sumOfPipes, Cond.selects RX0 yX0_sumOfPipes yX0_sumOfPipes, Cond.code yX0_sumOfPipes cX0_sumOfPipes 4 (some .int), Cond.fieldLink RX0 16 "AqueductTanks$Land" "pipes" "[[I"]
def wsX1_digest_r2 : List Cond := [Cond.methodLink RX0 45 yX0_thirstyTanks, Cond.instanceMethod yX0_thirstyTanks, Cond.selects RX0 yX0_thirstyTanks yX0_thirstyTanks, Cond.code yX0_thirstyTanks cX0_thirstyTanks 3 (some .int), Cond.methodLink RX0 49 yX0_isThirsty, Cond.instanceMethod yX0_isThirsty, Cond.selects RX0 yX0_isThirsty yX0_isThirsty, Cond.code yX0_isThirsty cX0_isThirsty 2 (some .boolean), Cond.methodLink RX1 65 yX0_ofPipe, Cond.instanceMethod yX0_ofPipe, Cond.selects RX0 yX0_ofPipe yX0_ofPipe, Cond.code yX0_ofPipe cX0_ofPipe 3 (some .int), Cond.methodLink RX0 35 yX0_whatCanFlow, Cond.instanceMethod yX0_whatCanFlow, Cond.selects RX0 yX0_whatCanFlow yX0_whatCanFlow, Cond.code yX0_whatCanFlow cX0_whatCanFlow 7 (some .int), Cond.methodLink RX0 57 Lib.Math.max.name, Cond.static Lib.Math.max.name, Cond.initialized "java/lang/Math", Cond.code Lib.Math.max.name Lib.Math.max.code 2 (some .int), Cond.methodLink RX0 63 Lib.Math.min.name, Cond.static Lib.Math.min.name, Cond.code Lib.Math.min.name Lib.Math.min.code 2 (some .int), Cond.methodLink RX0 53 yX0_head]
def wsX1_digest_r3 : List Cond := [Cond.static yX0_head, Cond.code yX0_head cX0_head 1 (some .int)]
def wsX1_digest : List Cond := .code yX1_digest cX1_digest 5 (some .long) :: ((wsX1_digest_r1 ++ (wsX1_digest_r2 ++ wsX1_digest_r3)) ++ wsX10 ++ wsX00)
def wsX2_init : List Cond := .code yX2_init cX2_init 1 none :: ([.methodLink RX2 1 objectInit, .instanceMethod objectInit, .code objectInit ⟨#[0xb1]⟩ 1 none, .arrayClass .int, .fieldLink RX2 9 "AqueductTanksModel" "land" "[I", .fieldLink RX2 13 "AqueductTanksModel" "lines" "[I", .fieldLink RX2 16 "AqueductTanksModel" "day" "[I"] ++ wsX20)
def wsX2_thrown : List Cond := .code yX2_thrown cX2_thrown 1 (some .int) :: ([.fieldLink RX2 19 "AqueductTanksModel" "thrown" "I"] ++ wsX20)
def wsX2_fail : List Cond := .code yX2_fail cX2_fail 2 (some .int) :: ([.fieldLink RX2 19 "AqueductTanksModel" "thrown" "I"] ++ wsX20)
def wsX2_isIn : List Cond := .code yX2_isIn cX2_isIn 3 (some .boolean) :: ([])
def wsX2_isTank : List Cond := .code yX2_isTank cX2_isTank 2 (some .boolean) :: ([.fieldLink RX2 23 "AqueductTanksModel" "tanks" "I", .methodLink RX2 26 yX2_isIn, .static yX2_isIn, .initialized RX2, .code yX2_isIn cX2_isIn 3 (some .boolean)] ++ wsX20)
def wsX2_isPipe : List Cond := .code yX2_isPipe cX2_isPipe 2 (some .boolean) :: ([.fieldLink RX2 30 "AqueductTanksModel" "pipes" "I", .methodLink RX2 26 yX2_isIn, .static yX2_isIn, .initialized RX2, .code yX2_isIn cX2_isIn 3 (some .boolean)] ++ wsX20)
def wsX2_la : List Cond := .code yX2_la cX2_la 3 (some .int) :: ([.fieldLink RX2 9 "AqueductTanksModel" "land" "[I"] ++ wsX20)
def wsX2_setTank : List Cond := .code yX2_setTank cX2_setTank 4 none :: ([.fieldLink RX2 9 "AqueductTanksModel" "land" "[I"] ++ wsX20)
def wsX2_li : List Cond := .code yX2_li cX2_li 3 (some .int) :: ([.fieldLink RX2 13 "AqueductTanksModel" "lines" "[I"] ++ wsX20)
def wsX2_setPipe : List Cond := .code yX2_setPipe cX2_setPipe 4 none :: ([.fieldLink RX2 13 "AqueductTanksModel" "lines" "[I"] ++ wsX20)
def wsX2_build : List Cond := .code yX2_build cX2_build 5 (some .int) :: ([.fieldLink RX2 19 "AqueductTanksModel" "thrown" "I", .fieldLink RX2 23 "AqueductTanksModel" "tanks" "I", .arrayClass .int, .fieldLink RX2 9 "AqueductTanksModel" "land" "[I", .methodLink RX2 37 arraycopyName, .native arraycopyName, .static arraycopyName, .initialized "java/lang/System", .methodLink RX2 26 yX2_isIn, .static yX2_isIn, .initialized RX2, .code yX2_isIn cX2_isIn 3 (some .boolean), .methodLink RX2 33 yX2_fail, .instanceMethod yX2_fail, .selects RX2 yX2_fail yX2_fail, .code yX2_fail cX2_fail 2 (some .int)] ++ wsX20)
def wsX2_lay : List Cond := .code yX2_lay cX2_lay 6 (some .int) :: ([.fieldLink RX2 19 "AqueductTanksModel" "thrown" "I", .fieldLink RX2 30 "AqueductTanksModel" "pipes" "I", .arrayClass .int, .fieldLink RX2 13 "AqueductTanksModel" "lines" "[I", .methodLink RX2 37 arraycopyName, .native arraycopyName, .static arraycopyName, .initialized "java/lang/System", .methodLink RX2 43 yX2_isTank, .instanceMethod yX2_isTank, .selects RX2 yX2_isTank yX2_isTank, .initialized RX2, .code yX2_isTank cX2_isTank 2 (some .boolean), .fieldLink RX2 23 "AqueductTanksModel" "tanks" "I", .methodLink RX2 26 yX2_isIn, .static yX2_isIn, .code yX2_isIn cX2_isIn 3 (some .boolean), .methodLink RX2 33 yX2_fail, .instanceMethod yX2_fail, .selects RX2 yX2_fail yX2_fail, .code yX2_fail cX2_fail 2 (some .int)] ++ wsX20)
def wsX2_set : List Cond := .code yX2_set cX2_set 5 (some .int) :: ([.fieldLink RX2 19 "AqueductTanksModel" "thrown" "I", .methodLink RX2 43 yX2_isTank, .instanceMethod yX2_isTank, .selects RX2 yX2_isTank yX2_isTank, .initialized RX2, .code yX2_isTank cX2_isTank 2 (some .boolean), .fieldLink RX2 23 "AqueductTanksModel" "tanks" "I", .methodLink RX2 26 yX2_isIn, .static yX2_isIn, .code yX2_isIn cX2_isIn 3 (some .boolean), .methodLink RX2 33 yX2_fail, .instanceMethod yX2_fail, .selects RX2 yX2_fail yX2_fail, .code yX2_fail cX2_fail 2 (some .int), .methodLink RX2 47 yX2_la, .instanceMethod yX2_la, .selects RX2 yX2_la yX2_la, .code yX2_la cX2_la 3 (some .int), .fieldLink RX2 9 "AqueductTanksModel" "land" "[I", .methodLink RX2 51 yX2_setTank, .instanceMethod yX2_setTank, .selects RX2 yX2_setTank yX2_setTank, .code yX2_setTank cX2_setTank 4 none] ++ wsX20)
def wsX2_flush : List Cond := .code yX2_flush cX2_flush 3 (some .int) :: ([.fieldLink RX2 19 "AqueductTanksModel" "thrown" "I", .methodLink RX2 43 yX2_isTank, .instanceMethod yX2_isTank, .selects RX2 yX2_isTank yX2_isTank, .initialized RX2, .code yX2_isTank cX2_isTank 2 (some .boolean), .fieldLink RX2 23 "AqueductTanksModel" "tanks" "I", .methodLink RX2 26 yX2_isIn, .static yX2_isIn, .code yX2_isIn cX2_isIn 3 (some .boolean), .methodLink RX2 33 yX2_fail, .instanceMethod yX2_fail, .selects RX2 yX2_fail yX2_fail, .code yX2_fail cX2_fail 2 (some .int), .methodLink RX2 47 yX2_la, .instanceMethod yX2_la, .selects RX2 yX2_la yX2_la, .code yX2_la cX2_la 3 (some .int), .fieldLink RX2 9 "AqueductTanksModel" "land" "[I", .methodLink RX2 51 yX2_setTank, .instanceMethod yX2_setTank, .selects RX2 yX2_setTank yX2_setTank, .code yX2_setTank cX2_setTank 4 none] ++ wsX20)
def wsX2_scrape : List Cond := .code yX2_scrape cX2_scrape 3 (some .int) :: ([.fieldLink RX2 19 "AqueductTanksModel" "thrown" "I", .methodLink RX2 55 yX2_isPipe, .instanceMethod yX2_isPipe, .selects RX2 yX2_isPipe yX2_isPipe, .initialized RX2, .code yX2_isPipe cX2_isPipe 2 (some .boolean), .fieldLink RX2 30 "AqueductTanksModel" "pipes" "I", .methodLink RX2 26 yX2_isIn, .static yX2_isIn, .code yX2_isIn cX2_isIn 3 (some .boolean), .methodLink RX2 33 yX2_fail, .instanceMethod yX2_fail, .selects RX2 yX2_fail yX2_fail, .code yX2_fail cX2_fail 2 (some .int), .methodLink RX2 58 yX2_li, .instanceMethod yX2_li, .selects RX2 yX2_li yX2_li, .code yX2_li cX2_li 3 (some .int), .fieldLink RX2 13 "AqueductTanksModel" "lines" "[I", .methodLink RX2 61 yX2_setPipe, .instanceMethod yX2_setPipe, .selects RX2 yX2_setPipe yX2_setPipe, .code yX2_setPipe cX2_setPipe 4 none] ++ wsX20)
def wsX2_steal : List Cond := .code yX2_steal cX2_steal 4 (some .int) :: ([.fieldLink RX2 19 "AqueductTanksModel" "thrown" "I", .methodLink RX2 55 yX2_isPipe, .instanceMethod yX2_isPipe, .selects RX2 yX2_isPipe yX2_isPipe, .initialized RX2, .code yX2_isPipe cX2_isPipe 2 (some .boolean), .fieldLink RX2 30 "AqueductTanksModel" "pipes" "I", .methodLink RX2 26 yX2_isIn, .static yX2_isIn, .code yX2_isIn cX2_isIn 3 (some .boolean), .methodLink RX2 33 yX2_fail, .instanceMethod yX2_fail, .selects RX2 yX2_fail yX2_fail, .code yX2_fail cX2_fail 2 (some .int), .methodLink RX2 58 yX2_li, .instanceMethod yX2_li, .selects RX2 yX2_li yX2_li, .code yX2_li cX2_li 3 (some .int), .fieldLink RX2 13 "AqueductTanksModel" "lines" "[I", .methodLink RX2 61 yX2_setPipe, .instanceMethod yX2_setPipe, .selects RX2 yX2_setPipe yX2_setPipe, .code yX2_setPipe cX2_setPipe 4 none] ++ wsX20)
def wsX2_head : List Cond := .code yX2_head cX2_head 2 (some .int) :: ([.methodLink RX2 47 yX2_la, .instanceMethod yX2_la, .selects RX2 yX2_la yX2_la, .initialized RX2, .code yX2_la cX2_la 3 (some .int), .fieldLink RX2 9 "AqueductTanksModel" "land" "[I"] ++ wsX20)
def wsX2_flows : List Cond := .code yX2_flows cX2_flows 3 (some .int) :: ([.methodLink RX2 67 Lib.Math.max.name, .static Lib.Math.max.name, .initialized "java/lang/Math", .code Lib.Math.max.name Lib.Math.max.code 2 (some .int), .methodLink RX2 72 Lib.Math.min.name, .static Lib.Math.min.name, .code Lib.Math.min.name Lib.Math.min.code 2 (some .int), .methodLink RX2 58 yX2_li, .instanceMethod yX2_li, .selects RX2 yX2_li yX2_li, .initialized RX2, .code yX2_li cX2_li 3 (some .int), .fieldLink RX2 13 "AqueductTanksModel" "lines" "[I", .methodLink RX2 64 yX2_head, .instanceMethod yX2_head, .selects RX2 yX2_head yX2_head, .code yX2_head cX2_head 2 (some .int), .methodLink RX2 47 yX2_la, .instanceMethod yX2_la, .selects RX2 yX2_la yX2_la, .code yX2_la cX2_la 3 (some .int), .fieldLink RX2 9 "AqueductTanksModel" "land" "[I"] ++ wsX20)
def wsX2_tank : List Cond := .code yX2_tank cX2_tank 3 (some .int) :: ([.fieldLink RX2 19 "AqueductTanksModel" "thrown" "I", .methodLink RX2 43 yX2_isTank, .instanceMethod yX2_isTank, .selects RX2 yX2_isTank yX2_isTank, .initialized RX2, .code yX2_isTank cX2_isTank 2 (some .boolean), .fieldLink RX2 23 "AqueductTanksModel" "tanks" "I", .methodLink RX2 26 yX2_isIn, .static yX2_isIn, .code yX2_isIn cX2_isIn 3 (some .boolean), .methodLink RX2 47 yX2_la, .instanceMethod yX2_la, .selects RX2 yX2_la yX2_la, .code yX2_la cX2_la 3 (some .int), .fieldLink RX2 9 "AqueductTanksModel" "land" "[I", .methodLink RX2 33 yX2_fail, .instanceMethod yX2_fail, .selects RX2 yX2_fail yX2_fail, .code yX2_fail cX2_fail 2 (some .int)] ++ wsX20)
def wsX2_pipeTold_r1 : List Cond := [Cond.methodLink RX2 75 yX2_flows, Cond.instanceMethod yX2_flows, Cond.selects RX2 yX2_flows yX2_flows, Cond.initialized RX2, Cond.code yX2_flows cX2_flows 3 (some .int), Cond.methodLink RX2 67 Lib.Math.max.name, Cond.static Lib.Math.max.name, Cond.initialized "java/lang/Math", Cond.code Lib.Math.max.name Lib.Math.max.code 2 (some .int), Cond.methodLink RX2 72 Lib.Math.min.name, Cond.static Lib.Math.min.name, Cond.code Lib.Math.min.name Lib.Math.min.code 2 (some .int), Cond.methodLink RX2 58 yX2_li, Cond.instanceMethod yX2_li, Cond.selects RX2 yX2_li yX2_li, Cond.code yX2_li cX2_li 3 (some .int), Cond.fieldLink RX2 13 "AqueductTanksModel" "lines" "[I", Cond.methodLink RX2 64 yX2_head, Cond.instanceMethod yX2_head, Cond.selects RX2 yX2_head yX2_head, Cond.code yX2_head cX2_head 2 (some .int), Cond.methodLink RX2 47 yX2_la, Cond.instanceMethod yX2_la, Cond.selects RX2 yX2_la yX2_la]
def wsX2_pipeTold_r2 : List Cond := [Cond.code yX2_la cX2_la 3 (some .int), Cond.fieldLink RX2 9 "AqueductTanksModel" "land" "[I"]
def wsX2_pipeTold : List Cond := .code yX2_pipeTold cX2_pipeTold 3 (some .int) :: ((wsX2_pipeTold_r1 ++ wsX2_pipeTold_r2) ++ wsX20)
def wsX2_pipe_r1 : List Cond := [Cond.fieldLink RX2 19 "AqueductTanksModel" "thrown" "I", Cond.methodLink RX2 55 yX2_isPipe, Cond.instanceMethod yX2_isPipe, Cond.selects RX2 yX2_isPipe yX2_isPipe, Cond.initialized RX2, Cond.code yX2_isPipe cX2_isPipe 2 (some .boolean), Cond.fieldLink RX2 30 "AqueductTanksModel" "pipes" "I", Cond.methodLink RX2 26 yX2_isIn, Cond.static yX2_isIn, Cond.code yX2_isIn cX2_isIn 3 (some .boolean), Cond.methodLink RX2 78 yX2_pipeTold, Cond.instanceMethod yX2_pipeTold, Cond.selects RX2 yX2_pipeTold yX2_pipeTold, Cond.code yX2_pipeTold cX2_pipeTold 3 (some .int), Cond.methodLink RX2 75 yX2_flows, Cond.instanceMethod yX2_flows, Cond.selects RX2 yX2_flows yX2_flows, Cond.code yX2_flows cX2_flows 3 (some .int), Cond.methodLink RX2 67 Lib.Math.max.name, Cond.static Lib.Math.max.name, Cond.initialized "java/lang/Math", Cond.code Lib.Math.max.name Lib.Math.max.code 2 (some .int), Cond.methodLink RX2 72 Lib.Math.min.name, Cond.static Lib.Math.min.name]
def wsX2_pipe_r2 : List Cond := [Cond.code Lib.Math.min.name Lib.Math.min.code 2 (some .int), Cond.methodLink RX2 58 yX2_li, Cond.instanceMethod yX2_li, Cond.selects RX2 yX2_li yX2_li, Cond.code yX2_li cX2_li 3 (some .int), Cond.fieldLink RX2 13 "AqueductTanksModel" "lines" "[I", Cond.methodLink RX2 64 yX2_head, Cond.instanceMethod yX2_head, Cond.selects RX2 yX2_head yX2_head, Cond.code yX2_head cX2_head 2 (some .int), Cond.methodLink RX2 47 yX2_la, Cond.instanceMethod yX2_la, Cond.selects RX2 yX2_la yX2_la, Cond.code yX2_la cX2_la 3 (some .int), Cond.fieldLink RX2 9 "AqueductTanksModel" "land" "[I", Cond.methodLink RX2 33 yX2_fail, Cond.instanceMethod yX2_fail, Cond.selects RX2 yX2_fail yX2_fail, Cond.code yX2_fail cX2_fail 2 (some .int)]
def wsX2_pipe : List Cond := .code yX2_pipe cX2_pipe 3 (some .int) :: ((wsX2_pipe_r1 ++ wsX2_pipe_r2) ++ wsX20)
def wsX2_all : List Cond := .code yX2_all cX2_all 4 (some .int) :: ([.fieldLink RX2 23 "AqueductTanksModel" "tanks" "I", .methodLink RX2 47 yX2_la, .instanceMethod yX2_la, .selects RX2 yX2_la yX2_la, .initialized RX2, .code yX2_la cX2_la 3 (some .int), .fieldLink RX2 9 "AqueductTanksModel" "land" "[I"] ++ wsX20)
def wsX2_allPipes : List Cond := .code yX2_allPipes cX2_allPipes 4 (some .int) :: ([.fieldLink RX2 30 "AqueductTanksModel" "pipes" "I", .methodLink RX2 58 yX2_li, .instanceMethod yX2_li, .selects RX2 yX2_li yX2_li, .initialized RX2, .code yX2_li cX2_li 3 (some .int), .fieldLink RX2 13 "AqueductTanksModel" "lines" "[I"] ++ wsX20)
def wsX2_counted : List Cond := .code yX2_counted cX2_counted 4 (some .int) :: ([.fieldLink RX2 16 "AqueductTanksModel" "day" "[I", .fieldLink RX2 23 "AqueductTanksModel" "tanks" "I", .fieldLink RX2 30 "AqueductTanksModel" "pipes" "I", .methodLink RX2 81 yX2_all, .instanceMethod yX2_all, .selects RX2 yX2_all yX2_all, .initialized RX2, .code yX2_all cX2_all 4 (some .int), .methodLink RX2 47 yX2_la, .instanceMethod yX2_la, .selects RX2 yX2_la yX2_la, .code yX2_la cX2_la 3 (some .int), .fieldLink RX2 9 "AqueductTanksModel" "land" "[I", .methodLink RX2 84 yX2_allPipes, .instanceMethod yX2_allPipes, .selects RX2 yX2_allPipes yX2_allPipes, .code yX2_allPipes cX2_allPipes 4 (some .int), .methodLink RX2 58 yX2_li, .instanceMethod yX2_li, .selects RX2 yX2_li yX2_li, .code yX2_li cX2_li 3 (some .int), .fieldLink RX2 13 "AqueductTanksModel" "lines" "[I"] ++ wsX20)
def wsX2_count_r1 : List Cond := [Cond.fieldLink RX2 19 "AqueductTanksModel" "thrown" "I", Cond.methodLink RX2 26 yX2_isIn, Cond.static yX2_isIn, Cond.initialized RX2, Cond.code yX2_isIn cX2_isIn 3 (some .boolean), Cond.methodLink RX2 87 yX2_counted, Cond.instanceMethod yX2_counted, Cond.selects RX2 yX2_counted yX2_counted, Cond.code yX2_counted cX2_counted 4 (some .int), Cond.fieldLink RX2 16 "AqueductTanksModel" "day" "[I", Cond.fieldLink RX2 23 "AqueductTanksModel" "tanks" "I", Cond.fieldLink RX2 30 "AqueductTanksModel" "pipes" "I", Cond.methodLink RX2 81 yX2_all, Cond.instanceMethod yX2_all, Cond.selects RX2 yX2_all yX2_all, Cond.code yX2_all cX2_all 4 (some .int), Cond.methodLink RX2 47 yX2_la, Cond.instanceMethod yX2_la, Cond.selects RX2 yX2_la yX2_la, Cond.code yX2_la cX2_la 3 (some .int), Cond.fieldLink RX2 9 "AqueductTanksModel" "land" "[I", Cond.methodLink RX2 84 yX2_allPipes, Cond.instanceMethod yX2_allPipes, Cond.selects RX2 yX2_allPipes yX2_allPipes]
def wsX2_count_r2 : List Cond := [Cond.code yX2_allPipes cX2_allPipes 4 (some .int), Cond.methodLink RX2 58 yX2_li, Cond.instanceMethod yX2_li, Cond.selects RX2 yX2_li yX2_li, Cond.code yX2_li cX2_li 3 (some .int), Cond.fieldLink RX2 13 "AqueductTanksModel" "lines" "[I", Cond.methodLink RX2 33 yX2_fail, Cond.instanceMethod yX2_fail, Cond.selects RX2 yX2_fail yX2_fail, Cond.code yX2_fail cX2_fail 2 (some .int)]
def wsX2_count : List Cond := .code yX2_count cX2_count 2 (some .int) :: ((wsX2_count_r1 ++ wsX2_count_r2) ++ wsX20)
def wsX2_reach : List Cond := .code yX2_reach cX2_reach 5 (some .int) :: ([.fieldLink RX2 19 "AqueductTanksModel" "thrown" "I", .fieldLink RX2 23 "AqueductTanksModel" "tanks" "I", .fieldLink RX2 30 "AqueductTanksModel" "pipes" "I", .methodLink RX2 43 yX2_isTank, .instanceMethod yX2_isTank, .selects RX2 yX2_isTank yX2_isTank, .initialized RX2, .code yX2_isTank cX2_isTank 2 (some .boolean), .methodLink RX2 26 yX2_isIn, .static yX2_isIn, .code yX2_isIn cX2_isIn 3 (some .boolean), .methodLink RX2 33 yX2_fail, .instanceMethod yX2_fail, .selects RX2 yX2_fail yX2_fail, .code yX2_fail cX2_fail 2 (some .int), .methodLink RX2 58 yX2_li, .instanceMethod yX2_li, .selects RX2 yX2_li yX2_li, .code yX2_li cX2_li 3 (some .int), .fieldLink RX2 13 "AqueductTanksModel" "lines" "[I"] ++ wsX20)
def wsX2_suspect : List Cond := .code yX2_suspect cX2_suspect 3 (some .int) :: ([.fieldLink RX2 19 "AqueductTanksModel" "thrown" "I", .fieldLink RX2 30 "AqueductTanksModel" "pipes" "I", .methodLink RX2 58 yX2_li, .instanceMethod yX2_li, .selects RX2 yX2_li yX2_li, .initialized RX2, .code yX2_li cX2_li 3 (some .int), .fieldLink RX2 13 "AqueductTanksModel" "lines" "[I"] ++ wsX20)
def wsX2_pour : List Cond := .code yX2_pour cX2_pour 5 none :: ([.methodLink RX2 67 Lib.Math.max.name, .static Lib.Math.max.name, .initialized "java/lang/Math", .code Lib.Math.max.name Lib.Math.max.code 2 (some .int), .methodLink RX2 72 Lib.Math.min.name, .static Lib.Math.min.name, .code Lib.Math.min.name Lib.Math.min.code 2 (some .int), .methodLink RX2 47 yX2_la, .instanceMethod yX2_la, .selects RX2 yX2_la yX2_la, .initialized RX2, .code yX2_la cX2_la 3 (some .int), .fieldLink RX2 9 "AqueductTanksModel" "land" "[I", .methodLink RX2 51 yX2_setTank, .instanceMethod yX2_setTank, .selects RX2 yX2_setTank yX2_setTank, .code yX2_setTank cX2_setTank 4 none] ++ wsX20)
def wsX2_flow_r1 : List Cond := [Cond.methodLink RX2 72 Lib.Math.min.name, Cond.static Lib.Math.min.name, Cond.initialized "java/lang/Math", Cond.code Lib.Math.min.name Lib.Math.min.code 2 (some .int), Cond.methodLink RX2 75 yX2_flows, Cond.instanceMethod yX2_flows, Cond.selects RX2 yX2_flows yX2_flows, Cond.initialized RX2, Cond.code yX2_flows cX2_flows 3 (some .int), Cond.methodLink RX2 67 Lib.Math.max.name, Cond.static Lib.Math.max.name, Cond.code Lib.Math.max.name Lib.Math.max.code 2 (some .int), Cond.methodLink RX2 58 yX2_li, Cond.instanceMethod yX2_li, Cond.selects RX2 yX2_li yX2_li, Cond.code yX2_li cX2_li 3 (some .int), Cond.fieldLink RX2 13 "AqueductTanksModel" "lines" "[I", Cond.methodLink RX2 64 yX2_head, Cond.instanceMethod yX2_head, Cond.selects RX2 yX2_head yX2_head, Cond.code yX2_head cX2_head 2 (some .int), Cond.methodLink RX2 47 yX2_la, Cond.instanceMethod yX2_la, Cond.selects RX2 yX2_la yX2_la]
def wsX2_flow_r2 : List Cond := [Cond.code yX2_la cX2_la 3 (some .int), Cond.fieldLink RX2 9 "AqueductTanksModel" "land" "[I", Cond.methodLink RX2 61 yX2_setPipe, Cond.instanceMethod yX2_setPipe, Cond.selects RX2 yX2_setPipe yX2_setPipe, Cond.code yX2_setPipe cX2_setPipe 4 none, Cond.methodLink RX2 51 yX2_setTank, Cond.instanceMethod yX2_setTank, Cond.selects RX2 yX2_setTank yX2_setTank, Cond.code yX2_setTank cX2_setTank 4 none, Cond.methodLink RX2 90 yX2_pour, Cond.instanceMethod yX2_pour, Cond.selects RX2 yX2_pour yX2_pour, Cond.code yX2_pour cX2_pour 5 none]
def wsX2_flow : List Cond := .code yX2_flow cX2_flow 6 none :: ((wsX2_flow_r1 ++ wsX2_flow_r2) ++ wsX20)
def wsX2_dayOn_r1 : List Cond := [Cond.fieldLink RX2 23 "AqueductTanksModel" "tanks" "I", Cond.fieldLink RX2 30 "AqueductTanksModel" "pipes" "I", Cond.fieldLink RX2 16 "AqueductTanksModel" "day" "[I", Cond.methodLink RX2 72 Lib.Math.min.name, Cond.static Lib.Math.min.name, Cond.initialized "java/lang/Math", Cond.code Lib.Math.min.name Lib.Math.min.code 2 (some .int), Cond.methodLink RX2 47 yX2_la, Cond.instanceMethod yX2_la, Cond.selects RX2 yX2_la yX2_la, Cond.initialized RX2, Cond.code yX2_la cX2_la 3 (some .int), Cond.fieldLink RX2 9 "AqueductTanksModel" "land" "[I", Cond.methodLink RX2 90 yX2_pour, Cond.instanceMethod yX2_pour, Cond.selects RX2 yX2_pour yX2_pour, Cond.code yX2_pour cX2_pour 5 none, Cond.methodLink RX2 67 Lib.Math.max.name, Cond.static Lib.Math.max.name, Cond.code Lib.Math.max.name Lib.Math.max.code 2 (some .int), Cond.methodLink RX2 51 yX2_setTank, Cond.instanceMethod yX2_setTank, Cond.selects RX2 yX2_setTank yX2_setTank, Cond.code yX2_setTank cX2_setTank 4 none]
def wsX2_dayOn_r2 : List Cond := [Cond.methodLink RX2 93 yX2_flow, Cond.instanceMethod yX2_flow, Cond.selects RX2 yX2_flow yX2_flow, Cond.code yX2_flow cX2_flow 6 none, Cond.methodLink RX2 75 yX2_flows, Cond.instanceMethod yX2_flows, Cond.selects RX2 yX2_flows yX2_flows, Cond.code yX2_flows cX2_flows 3 (some .int), Cond.methodLink RX2 58 yX2_li, Cond.instanceMethod yX2_li, Cond.selects RX2 yX2_li yX2_li, Cond.code yX2_li cX2_li 3 (some .int), Cond.fieldLink RX2 13 "AqueductTanksModel" "lines" "[I", Cond.methodLink RX2 64 yX2_head, Cond.instanceMethod yX2_head, Cond.selects RX2 yX2_head yX2_head, Cond.code yX2_head cX2_head 2 (some .int), Cond.methodLink RX2 61 yX2_setPipe, Cond.instanceMethod yX2_setPipe, Cond.selects RX2 yX2_setPipe yX2_setPipe, Cond.code yX2_setPipe cX2_setPipe 4 none]
def wsX2_dayOn : List Cond := .code yX2_dayOn cX2_dayOn 4 none :: ((wsX2_dayOn_r1 ++ wsX2_dayOn_r2) ++ wsX20)
def wsX2_daysOn_r1 : List Cond := [Cond.methodLink RX2 97 yX2_dayOn, Cond.instanceMethod yX2_dayOn, Cond.selects RX2 yX2_dayOn yX2_dayOn, Cond.initialized RX2, Cond.code yX2_dayOn cX2_dayOn 4 none, Cond.fieldLink RX2 23 "AqueductTanksModel" "tanks" "I", Cond.fieldLink RX2 30 "AqueductTanksModel" "pipes" "I", Cond.fieldLink RX2 16 "AqueductTanksModel" "day" "[I", Cond.methodLink RX2 72 Lib.Math.min.name, Cond.static Lib.Math.min.name, Cond.initialized "java/lang/Math", Cond.code Lib.Math.min.name Lib.Math.min.code 2 (some .int), Cond.methodLink RX2 47 yX2_la, Cond.instanceMethod yX2_la, Cond.selects RX2 yX2_la yX2_la, Cond.code yX2_la cX2_la 3 (some .int), Cond.fieldLink RX2 9 "AqueductTanksModel" "land" "[I", Cond.methodLink RX2 90 yX2_pour, Cond.instanceMethod yX2_pour, Cond.selects RX2 yX2_pour yX2_pour, Cond.code yX2_pour cX2_pour 5 none, Cond.methodLink RX2 67 Lib.Math.max.name, Cond.static Lib.Math.max.name, Cond.code Lib.Math.max.name Lib.Math.max.code 2 (some .int)]
def wsX2_daysOn_r2 : List Cond := [Cond.methodLink RX2 51 yX2_setTank, Cond.instanceMethod yX2_setTank, Cond.selects RX2 yX2_setTank yX2_setTank, Cond.code yX2_setTank cX2_setTank 4 none, Cond.methodLink RX2 93 yX2_flow, Cond.instanceMethod yX2_flow, Cond.selects RX2 yX2_flow yX2_flow, Cond.code yX2_flow cX2_flow 6 none, Cond.methodLink RX2 75 yX2_flows, Cond.instanceMethod yX2_flows, Cond.selects RX2 yX2_flows yX2_flows, Cond.code yX2_flows cX2_flows 3 (some .int), Cond.methodLink RX2 58 yX2_li, Cond.instanceMethod yX2_li, Cond.selects RX2 yX2_li yX2_li, Cond.code yX2_li cX2_li 3 (some .int), Cond.fieldLink RX2 13 "AqueductTanksModel" "lines" "[I", Cond.methodLink RX2 64 yX2_head, Cond.instanceMethod yX2_head, Cond.selects RX2 yX2_head yX2_head, Cond.code yX2_head cX2_head 2 (some .int), Cond.methodLink RX2 61 yX2_setPipe, Cond.instanceMethod yX2_setPipe, Cond.selects RX2 yX2_setPipe yX2_setPipe]
def wsX2_daysOn_r3 : List Cond := [Cond.code yX2_setPipe cX2_setPipe 4 none]
def wsX2_daysOn : List Cond := .code yX2_daysOn cX2_daysOn 3 none :: ((wsX2_daysOn_r1 ++ (wsX2_daysOn_r2 ++ wsX2_daysOn_r3)) ++ wsX20)
def wsX2_pass_r1 : List Cond := [Cond.fieldLink RX2 19 "AqueductTanksModel" "thrown" "I", Cond.methodLink RX2 26 yX2_isIn, Cond.static yX2_isIn, Cond.initialized RX2, Cond.code yX2_isIn cX2_isIn 3 (some .boolean), Cond.methodLink RX2 33 yX2_fail, Cond.instanceMethod yX2_fail, Cond.selects RX2 yX2_fail yX2_fail, Cond.code yX2_fail cX2_fail 2 (some .int), Cond.methodLink RX2 81 yX2_all, Cond.instanceMethod yX2_all, Cond.selects RX2 yX2_all yX2_all, Cond.code yX2_all cX2_all 4 (some .int), Cond.fieldLink RX2 23 "AqueductTanksModel" "tanks" "I", Cond.methodLink RX2 47 yX2_la, Cond.instanceMethod yX2_la, Cond.selects RX2 yX2_la yX2_la, Cond.code yX2_la cX2_la 3 (some .int), Cond.fieldLink RX2 9 "AqueductTanksModel" "land" "[I", Cond.methodLink RX2 100 yX2_daysOn, Cond.instanceMethod yX2_daysOn, Cond.selects RX2 yX2_daysOn yX2_daysOn, Cond.code yX2_daysOn cX2_daysOn 3 none, Cond.methodLink RX2 97 yX2_dayOn]
def wsX2_pass_r2 : List Cond := [Cond.instanceMethod yX2_dayOn, Cond.selects RX2 yX2_dayOn yX2_dayOn, Cond.code yX2_dayOn cX2_dayOn 4 none, Cond.fieldLink RX2 30 "AqueductTanksModel" "pipes" "I", Cond.fieldLink RX2 16 "AqueductTanksModel" "day" "[I", Cond.methodLink RX2 72 Lib.Math.min.name, Cond.static Lib.Math.min.name, Cond.initialized "java/lang/Math", Cond.code Lib.Math.min.name Lib.Math.min.code 2 (some .int), Cond.methodLink RX2 90 yX2_pour, Cond.instanceMethod yX2_pour, Cond.selects RX2 yX2_pour yX2_pour, Cond.code yX2_pour cX2_pour 5 none, Cond.methodLink RX2 67 Lib.Math.max.name, Cond.static Lib.Math.max.name, Cond.code Lib.Math.max.name Lib.Math.max.code 2 (some .int), Cond.methodLink RX2 51 yX2_setTank, Cond.instanceMethod yX2_setTank, Cond.selects RX2 yX2_setTank yX2_setTank, Cond.code yX2_setTank cX2_setTank 4 none, Cond.methodLink RX2 93 yX2_flow, Cond.instanceMethod yX2_flow, Cond.selects RX2 yX2_flow yX2_flow, Cond.code yX2_flow cX2_flow 6 none]
def wsX2_pass_r3 : List Cond := [Cond.methodLink RX2 75 yX2_flows, Cond.instanceMethod yX2_flows, Cond.selects RX2 yX2_flows yX2_flows, Cond.code yX2_flows cX2_flows 3 (some .int), Cond.methodLink RX2 58 yX2_li, Cond.instanceMethod yX2_li, Cond.selects RX2 yX2_li yX2_li, Cond.code yX2_li cX2_li 3 (some .int), Cond.fieldLink RX2 13 "AqueductTanksModel" "lines" "[I", Cond.methodLink RX2 64 yX2_head, Cond.instanceMethod yX2_head, Cond.selects RX2 yX2_head yX2_head, Cond.code yX2_head cX2_head 2 (some .int), Cond.methodLink RX2 61 yX2_setPipe, Cond.instanceMethod yX2_setPipe, Cond.selects RX2 yX2_setPipe yX2_setPipe, Cond.code yX2_setPipe cX2_setPipe 4 none]
def wsX2_pass : List Cond := .code yX2_pass cX2_pass 3 (some .int) :: ((wsX2_pass_r1 ++ (wsX2_pass_r2 ++ wsX2_pass_r3)) ++ wsX20)
def wsX2_kept : List Cond := .code yX2_kept cX2_kept 1 (some (.array (.array .int))) :: ([.classLink RX2 103 "[I", .fieldLink RX2 9 "AqueductTanksModel" "land" "[I", .methodLink RX2 104 ⟨"[I", "clone", "()Ljava/lang/Object;"⟩, .sameMethod "[I" "java/lang/Object" "clone" "()Ljava/lang/Object;", .native ⟨"java/lang/Object", "clone", "()Ljava/lang/Object;"⟩, .instanceMethod ⟨"java/lang/Object", "clone", "()Ljava/lang/Object;"⟩, .selects "[I" ⟨"[I", "clone", "()Ljava/lang/Object;"⟩ ⟨"java/lang/Object", "clone", "()Ljava/lang/Object;"⟩, .fieldLink RX2 13 "AqueductTanksModel" "lines" "[I", .fieldLink RX2 16 "AqueductTanksModel" "day" "[I"] ++ wsX20)
def wsX2_bringBack : List Cond := .code yX2_bringBack cX2_bringBack 2 none :: ([.fieldLink RX2 9 "AqueductTanksModel" "land" "[I", .methodLink RX2 37 arraycopyName, .native arraycopyName, .static arraycopyName, .initialized "java/lang/System", .fieldLink RX2 13 "AqueductTanksModel" "lines" "[I", .fieldLink RX2 16 "AqueductTanksModel" "day" "[I"] ++ wsX20)
def wsX2_foresee_r1 : List Cond := [Cond.fieldLink RX2 19 "AqueductTanksModel" "thrown" "I", Cond.methodLink RX2 26 yX2_isIn, Cond.static yX2_isIn, Cond.initialized RX2, Cond.code yX2_isIn cX2_isIn 3 (some .boolean), Cond.methodLink RX2 33 yX2_fail, Cond.instanceMethod yX2_fail, Cond.selects RX2 yX2_fail yX2_fail, Cond.code yX2_fail cX2_fail 2 (some .int), Cond.methodLink RX2 108 yX2_kept, Cond.instanceMethod yX2_kept, Cond.selects RX2 yX2_kept yX2_kept, Cond.code yX2_kept cX2_kept 1 (some (.array (.array .int))), Cond.classLink RX2 103 "[I", Cond.fieldLink RX2 9 "AqueductTanksModel" "land" "[I", Cond.methodLink RX2 104 ⟨"[I", "clone", "()Ljava/lang/Object;"⟩, Cond.sameMethod "[I" "java/lang/Object" "clone" "()Ljava/lang/Object;", Cond.native ⟨"java/lang/Object", "clone", "()Ljava/lang/Object;"⟩, Cond.instanceMethod ⟨"java/lang/Object", "clone", "()Ljava/lang/Object;"⟩, Cond.selects "[I" ⟨"[I", "clone", "()Ljava/lang/Object;"⟩ ⟨"java/lang/Object", "clone", "()Ljava/lang/Object;"⟩, Cond.fieldLink RX2 13 "AqueductTanksModel" "lines" "[I", Cond.fieldLink RX2 16 "AqueductTanksModel" "day" "[I", Cond.methodLink RX2 81 yX2_all, Cond.instanceMethod yX2_all]
def wsX2_foresee_r2 : List Cond := [Cond.selects RX2 yX2_all yX2_all, Cond.code yX2_all cX2_all 4 (some .int), Cond.fieldLink RX2 23 "AqueductTanksModel" "tanks" "I", Cond.methodLink RX2 47 yX2_la, Cond.instanceMethod yX2_la, Cond.selects RX2 yX2_la yX2_la, Cond.code yX2_la cX2_la 3 (some .int), Cond.methodLink RX2 84 yX2_allPipes, Cond.instanceMethod yX2_allPipes, Cond.selects RX2 yX2_allPipes yX2_allPipes, Cond.code yX2_allPipes cX2_allPipes 4 (some .int), Cond.fieldLink RX2 30 "AqueductTanksModel" "pipes" "I", Cond.methodLink RX2 58 yX2_li, Cond.instanceMethod yX2_li, Cond.selects RX2 yX2_li yX2_li, Cond.code yX2_li cX2_li 3 (some .int), Cond.methodLink RX2 100 yX2_daysOn, Cond.instanceMethod yX2_daysOn, Cond.selects RX2 yX2_daysOn yX2_daysOn, Cond.code yX2_daysOn cX2_daysOn 3 none, Cond.methodLink RX2 97 yX2_dayOn, Cond.instanceMethod yX2_dayOn, Cond.selects RX2 yX2_dayOn yX2_dayOn, Cond.code yX2_dayOn cX2_dayOn 4 none]
def wsX2_foresee_r3 : List Cond := [Cond.methodLink RX2 72 Lib.Math.min.name, Cond.static Lib.Math.min.name, Cond.initialized "java/lang/Math", Cond.code Lib.Math.min.name Lib.Math.min.code 2 (some .int), Cond.methodLink RX2 90 yX2_pour, Cond.instanceMethod yX2_pour, Cond.selects RX2 yX2_pour yX2_pour, Cond.code yX2_pour cX2_pour 5 none, Cond.methodLink RX2 67 Lib.Math.max.name, Cond.static Lib.Math.max.name, Cond.code Lib.Math.max.name Lib.Math.max.code 2 (some .int), Cond.methodLink RX2 51 yX2_setTank, Cond.instanceMethod yX2_setTank, Cond.selects RX2 yX2_setTank yX2_setTank, Cond.code yX2_setTank cX2_setTank 4 none, Cond.methodLink RX2 93 yX2_flow, Cond.instanceMethod yX2_flow, Cond.selects RX2 yX2_flow yX2_flow, Cond.code yX2_flow cX2_flow 6 none, Cond.methodLink RX2 75 yX2_flows, Cond.instanceMethod yX2_flows, Cond.selects RX2 yX2_flows yX2_flows, Cond.code yX2_flows cX2_flows 3 (some .int), Cond.methodLink RX2 64 yX2_head]
def wsX2_foresee_r4 : List Cond := [Cond.instanceMethod yX2_head, Cond.selects RX2 yX2_head yX2_head, Cond.code yX2_head cX2_head 2 (some .int), Cond.methodLink RX2 61 yX2_setPipe, Cond.instanceMethod yX2_setPipe, Cond.selects RX2 yX2_setPipe yX2_setPipe, Cond.code yX2_setPipe cX2_setPipe 4 none, Cond.methodLink RX2 112 yX2_bringBack, Cond.instanceMethod yX2_bringBack, Cond.selects RX2 yX2_bringBack yX2_bringBack, Cond.code yX2_bringBack cX2_bringBack 2 none, Cond.methodLink RX2 37 arraycopyName, Cond.native arraycopyName, Cond.static arraycopyName, Cond.initialized "java/lang/System"]
def wsX2_foresee : List Cond := .code yX2_foresee cX2_foresee 7 (some .int) :: ((wsX2_foresee_r1 ++ (wsX2_foresee_r2 ++ (wsX2_foresee_r3 ++ wsX2_foresee_r4))) ++ wsX20)
def wsX2_advise_r1 : List Cond := [Cond.fieldLink RX2 19 "AqueductTanksModel" "thrown" "I", Cond.fieldLink RX2 30 "AqueductTanksModel" "pipes" "I", Cond.methodLink RX2 26 yX2_isIn, Cond.static yX2_isIn, Cond.initialized RX2, Cond.code yX2_isIn cX2_isIn 3 (some .boolean), Cond.methodLink RX2 33 yX2_fail, Cond.instanceMethod yX2_fail, Cond.selects RX2 yX2_fail yX2_fail, Cond.code yX2_fail cX2_fail 2 (some .int), Cond.methodLink RX2 108 yX2_kept, Cond.instanceMethod yX2_kept, Cond.selects RX2 yX2_kept yX2_kept, Cond.code yX2_kept cX2_kept 1 (some (.array (.array .int))), Cond.classLink RX2 103 "[I", Cond.fieldLink RX2 9 "AqueductTanksModel" "land" "[I", Cond.methodLink RX2 104 ⟨"[I", "clone", "()Ljava/lang/Object;"⟩, Cond.sameMethod "[I" "java/lang/Object" "clone" "()Ljava/lang/Object;", Cond.native ⟨"java/lang/Object", "clone", "()Ljava/lang/Object;"⟩, Cond.instanceMethod ⟨"java/lang/Object", "clone", "()Ljava/lang/Object;"⟩, Cond.selects "[I" ⟨"[I", "clone", "()Ljava/lang/Object;"⟩ ⟨"java/lang/Object", "clone", "()Ljava/lang/Object;"⟩, Cond.fieldLink RX2 13 "AqueductTanksModel" "lines" "[I", Cond.fieldLink RX2 16 "AqueductTanksModel" "day" "[I", Cond.methodLink RX2 100 yX2_daysOn]
def wsX2_advise_r2 : List Cond := [Cond.instanceMethod yX2_daysOn, Cond.selects RX2 yX2_daysOn yX2_daysOn, Cond.code yX2_daysOn cX2_daysOn 3 none, Cond.methodLink RX2 97 yX2_dayOn, Cond.instanceMethod yX2_dayOn, Cond.selects RX2 yX2_dayOn yX2_dayOn, Cond.code yX2_dayOn cX2_dayOn 4 none, Cond.fieldLink RX2 23 "AqueductTanksModel" "tanks" "I", Cond.methodLink RX2 72 Lib.Math.min.name, Cond.static Lib.Math.min.name, Cond.initialized "java/lang/Math", Cond.code Lib.Math.min.name Lib.Math.min.code 2 (some .int), Cond.methodLink RX2 47 yX2_la, Cond.instanceMethod yX2_la, Cond.selects RX2 yX2_la yX2_la, Cond.code yX2_la cX2_la 3 (some .int), Cond.methodLink RX2 90 yX2_pour, Cond.instanceMethod yX2_pour, Cond.selects RX2 yX2_pour yX2_pour, Cond.code yX2_pour cX2_pour 5 none, Cond.methodLink RX2 67 Lib.Math.max.name, Cond.static Lib.Math.max.name, Cond.code Lib.Math.max.name Lib.Math.max.code 2 (some .int), Cond.methodLink RX2 51 yX2_setTank]
def wsX2_advise_r3 : List Cond := [Cond.instanceMethod yX2_setTank, Cond.selects RX2 yX2_setTank yX2_setTank, Cond.code yX2_setTank cX2_setTank 4 none, Cond.methodLink RX2 93 yX2_flow, Cond.instanceMethod yX2_flow, Cond.selects RX2 yX2_flow yX2_flow, Cond.code yX2_flow cX2_flow 6 none, Cond.methodLink RX2 75 yX2_flows, Cond.instanceMethod yX2_flows, Cond.selects RX2 yX2_flows yX2_flows, Cond.code yX2_flows cX2_flows 3 (some .int), Cond.methodLink RX2 58 yX2_li, Cond.instanceMethod yX2_li, Cond.selects RX2 yX2_li yX2_li, Cond.code yX2_li cX2_li 3 (some .int), Cond.methodLink RX2 64 yX2_head, Cond.instanceMethod yX2_head, Cond.selects RX2 yX2_head yX2_head, Cond.code yX2_head cX2_head 2 (some .int), Cond.methodLink RX2 61 yX2_setPipe, Cond.instanceMethod yX2_setPipe, Cond.selects RX2 yX2_setPipe yX2_setPipe, Cond.code yX2_setPipe cX2_setPipe 4 none, Cond.methodLink RX2 81 yX2_all]
def wsX2_advise_r4 : List Cond := [Cond.instanceMethod yX2_all, Cond.selects RX2 yX2_all yX2_all, Cond.code yX2_all cX2_all 4 (some .int), Cond.methodLink RX2 112 yX2_bringBack, Cond.instanceMethod yX2_bringBack, Cond.selects RX2 yX2_bringBack yX2_bringBack, Cond.code yX2_bringBack cX2_bringBack 2 none, Cond.methodLink RX2 37 arraycopyName, Cond.native arraycopyName, Cond.static arraycopyName, Cond.initialized "java/lang/System"]
def wsX2_advise : List Cond := .code yX2_advise cX2_advise 7 (some .int) :: ((wsX2_advise_r1 ++ (wsX2_advise_r2 ++ (wsX2_advise_r3 ++ wsX2_advise_r4))) ++ wsX20)
def wsX2_sated_r1 : List Cond := [Cond.fieldLink RX2 19 "AqueductTanksModel" "thrown" "I", Cond.methodLink RX2 43 yX2_isTank, Cond.instanceMethod yX2_isTank, Cond.selects RX2 yX2_isTank yX2_isTank, Cond.initialized RX2, Cond.code yX2_isTank cX2_isTank 2 (some .boolean), Cond.fieldLink RX2 23 "AqueductTanksModel" "tanks" "I", Cond.methodLink RX2 26 yX2_isIn, Cond.static yX2_isIn, Cond.code yX2_isIn cX2_isIn 3 (some .boolean), Cond.methodLink RX2 33 yX2_fail, Cond.instanceMethod yX2_fail, Cond.selects RX2 yX2_fail yX2_fail, Cond.code yX2_fail cX2_fail 2 (some .int), Cond.methodLink RX2 108 yX2_kept, Cond.instanceMethod yX2_kept, Cond.selects RX2 yX2_kept yX2_kept, Cond.code yX2_kept cX2_kept 1 (some (.array (.array .int))), Cond.classLink RX2 103 "[I", Cond.fieldLink RX2 9 "AqueductTanksModel" "land" "[I", Cond.methodLink RX2 104 ⟨"[I", "clone", "()Ljava/lang/Object;"⟩, Cond.sameMethod "[I" "java/lang/Object" "clone" "()Ljava/lang/Object;", Cond.native ⟨"java/lang/Object", "clone", "()Ljava/lang/Object;"⟩, Cond.instanceMethod ⟨"java/lang/Object", "clone", "()Ljava/lang/Object;"⟩]
def wsX2_sated_r2 : List Cond := [Cond.selects "[I" ⟨"[I", "clone", "()Ljava/lang/Object;"⟩ ⟨"java/lang/Object", "clone", "()Ljava/lang/Object;"⟩, Cond.fieldLink RX2 13 "AqueductTanksModel" "lines" "[I", Cond.fieldLink RX2 16 "AqueductTanksModel" "day" "[I", Cond.methodLink RX2 97 yX2_dayOn, Cond.instanceMethod yX2_dayOn, Cond.selects RX2 yX2_dayOn yX2_dayOn, Cond.code yX2_dayOn cX2_dayOn 4 none, Cond.fieldLink RX2 30 "AqueductTanksModel" "pipes" "I", Cond.methodLink RX2 72 Lib.Math.min.name, Cond.static Lib.Math.min.name, Cond.initialized "java/lang/Math", Cond.code Lib.Math.min.name Lib.Math.min.code 2 (some .int), Cond.methodLink RX2 47 yX2_la, Cond.instanceMethod yX2_la, Cond.selects RX2 yX2_la yX2_la, Cond.code yX2_la cX2_la 3 (some .int), Cond.methodLink RX2 90 yX2_pour, Cond.instanceMethod yX2_pour, Cond.selects RX2 yX2_pour yX2_pour, Cond.code yX2_pour cX2_pour 5 none, Cond.methodLink RX2 67 Lib.Math.max.name, Cond.static Lib.Math.max.name, Cond.code Lib.Math.max.name Lib.Math.max.code 2 (some .int), Cond.methodLink RX2 51 yX2_setTank]
def wsX2_sated_r3 : List Cond := [Cond.instanceMethod yX2_setTank, Cond.selects RX2 yX2_setTank yX2_setTank, Cond.code yX2_setTank cX2_setTank 4 none, Cond.methodLink RX2 93 yX2_flow, Cond.instanceMethod yX2_flow, Cond.selects RX2 yX2_flow yX2_flow, Cond.code yX2_flow cX2_flow 6 none, Cond.methodLink RX2 75 yX2_flows, Cond.instanceMethod yX2_flows, Cond.selects RX2 yX2_flows yX2_flows, Cond.code yX2_flows cX2_flows 3 (some .int), Cond.methodLink RX2 58 yX2_li, Cond.instanceMethod yX2_li, Cond.selects RX2 yX2_li yX2_li, Cond.code yX2_li cX2_li 3 (some .int), Cond.methodLink RX2 64 yX2_head, Cond.instanceMethod yX2_head, Cond.selects RX2 yX2_head yX2_head, Cond.code yX2_head cX2_head 2 (some .int), Cond.methodLink RX2 61 yX2_setPipe, Cond.instanceMethod yX2_setPipe, Cond.selects RX2 yX2_setPipe yX2_setPipe, Cond.code yX2_setPipe cX2_setPipe 4 none, Cond.methodLink RX2 112 yX2_bringBack]
def wsX2_sated_r4 : List Cond := [Cond.instanceMethod yX2_bringBack, Cond.selects RX2 yX2_bringBack yX2_bringBack, Cond.code yX2_bringBack cX2_bringBack 2 none, Cond.methodLink RX2 37 arraycopyName, Cond.native arraycopyName, Cond.static arraycopyName, Cond.initialized "java/lang/System"]
def wsX2_sated : List Cond := .code yX2_sated cX2_sated 5 (some .int) :: ((wsX2_sated_r1 ++ (wsX2_sated_r2 ++ (wsX2_sated_r3 ++ wsX2_sated_r4))) ++ wsX20)
def wsX2_mean : List Cond := .code yX2_mean cX2_mean 1 (some .double) :: ([.fieldLink RX2 19 "AqueductTanksModel" "thrown" "I", .fieldLink RX2 16 "AqueductTanksModel" "day" "[I", .methodLink RX2 81 yX2_all, .instanceMethod yX2_all, .selects RX2 yX2_all yX2_all, .initialized RX2, .code yX2_all cX2_all 4 (some .int), .fieldLink RX2 23 "AqueductTanksModel" "tanks" "I", .methodLink RX2 47 yX2_la, .instanceMethod yX2_la, .selects RX2 yX2_la yX2_la, .code yX2_la cX2_la 3 (some .int), .fieldLink RX2 9 "AqueductTanksModel" "land" "[I"] ++ wsX20)
def wsX2_digest_r1 : List Cond := [Cond.fieldLink RX2 19 "AqueductTanksModel" "thrown" "I", Cond.constantLong RX2 116 (1031), Cond.constantLong RX2 118 (31), Cond.fieldLink RX2 23 "AqueductTanksModel" "tanks" "I", Cond.fieldLink RX2 30 "AqueductTanksModel" "pipes" "I", Cond.methodLink RX2 87 yX2_counted, Cond.instanceMethod yX2_counted, Cond.selects RX2 yX2_counted yX2_counted, Cond.initialized RX2, Cond.code yX2_counted cX2_counted 4 (some .int), Cond.fieldLink RX2 16 "AqueductTanksModel" "day" "[I", Cond.methodLink RX2 81 yX2_all, Cond.instanceMethod yX2_all, Cond.selects RX2 yX2_all yX2_all, Cond.code yX2_all cX2_all 4 (some .int), Cond.methodLink RX2 47 yX2_la, Cond.instanceMethod yX2_la, Cond.selects RX2 yX2_la yX2_la, Cond.code yX2_la cX2_la 3 (some .int), Cond.fieldLink RX2 9 "AqueductTanksModel" "land" "[I", Cond.methodLink RX2 84 yX2_allPipes, Cond.instanceMethod yX2_allPipes, Cond.selects RX2 yX2_allPipes yX2_allPipes, Cond.code yX2_allPipes cX2_allPipes 4 (some .int)]
def wsX2_digest_r2 : List Cond := [Cond.methodLink RX2 58 yX2_li, Cond.instanceMethod yX2_li, Cond.selects RX2 yX2_li yX2_li, Cond.code yX2_li cX2_li 3 (some .int), Cond.fieldLink RX2 13 "AqueductTanksModel" "lines" "[I", Cond.methodLink RX2 78 yX2_pipeTold, Cond.instanceMethod yX2_pipeTold, Cond.selects RX2 yX2_pipeTold yX2_pipeTold, Cond.code yX2_pipeTold cX2_pipeTold 3 (some .int), Cond.methodLink RX2 75 yX2_flows, Cond.instanceMethod yX2_flows, Cond.selects RX2 yX2_flows yX2_flows, Cond.code yX2_flows cX2_flows 3 (some .int), Cond.methodLink RX2 67 Lib.Math.max.name, Cond.static Lib.Math.max.name, Cond.initialized "java/lang/Math", Cond.code Lib.Math.max.name Lib.Math.max.code 2 (some .int), Cond.methodLink RX2 72 Lib.Math.min.name, Cond.static Lib.Math.min.name, Cond.code Lib.Math.min.name Lib.Math.min.code 2 (some .int), Cond.methodLink RX2 64 yX2_head, Cond.instanceMethod yX2_head, Cond.selects RX2 yX2_head yX2_head, Cond.code yX2_head cX2_head 2 (some .int)]
def wsX2_digest : List Cond := .code yX2_digest cX2_digest 5 (some .long) :: ((wsX2_digest_r1 ++ wsX2_digest_r2) ++ wsX20)
def wsJ9_max_7cf53 : List Cond := .code yJ9_max_7cf53 cJ9_max_7cf53 2 (some .int) :: ([])
def wsJ9_min_7cf53 : List Cond := .code yJ9_min_7cf53 cJ9_min_7cf53 2 (some .int) :: ([])
def wsL_build_r1 : List Cond := [Cond.classLink RL 13 "java/lang/IllegalArgumentException", Cond.classLink RL 15 "java/lang/IllegalStateException", Cond.methodLink RL 7 yX1_build, Cond.instanceMethod yX1_build, Cond.selects RX1 yX1_build yX1_build, Cond.initialized RX1, Cond.code yX1_build cX1_build 5 (some .int), Cond.classLink RX1 35 "java/lang/IllegalStateException", Cond.initialized "java/lang/IllegalStateException", Cond.fieldLink RX1 10 "AqueductTanks" "land" "LAqueductTanks$Land;", Cond.methodLink RX1 19 yX1_isWithin, Cond.static yX1_isWithin, Cond.code yX1_isWithin cX1_isWithin 3 (some .boolean), Cond.methodLink RX1 23 yX1_needArgument, Cond.static yX1_needArgument, Cond.code yX1_needArgument cX1_needArgument 1 none, Cond.classLink RX1 115 "java/lang/IllegalArgumentException", Cond.initialized "java/lang/IllegalArgumentException", Cond.methodLink RX1 27 yX1_isSpringAndThirst, Cond.static yX1_isSpringAndThirst, Cond.code yX1_isSpringAndThirst cX1_isSpringAndThirst 2 (some .boolean), Cond.methodLink RX1 31 yX0_addTank, Cond.instanceMethod yX0_addTank, Cond.selects RX0 yX0_addTank yX0_addTank]
def wsL_build_r2 : List Cond := [Cond.initialized RX0, Cond.code yX0_addTank cX0_addTank 5 (some .int), Cond.fieldLink RX0 19 "AqueductTanks$Land" "tankCount" "I", Cond.fieldLink RX0 13 "AqueductTanks$Land" "tanks" "[[I"]
def wsL_build : List Cond := .codeWith yL_build cL_build 6 (some .int) [(0, 12, 15, 13), (0, 12, 19, 15)] :: ((wsL_build_r1 ++ wsL_build_r2) ++ wsX10 ++ wsX00 ++ (vx_atS RX1 39 "java/lang/IllegalStateException" ["java/lang/RuntimeException", "java/lang/Exception"]).filter goodWord ++ (vx_atS RX1 119 "java/lang/IllegalArgumentException" ["java/lang/RuntimeException", "java/lang/Exception"]).filter goodWord)
def wsL_lay_r1 : List Cond := [Cond.classLink RL 21 "java/lang/IndexOutOfBoundsException", Cond.classLink RL 13 "java/lang/IllegalArgumentException", Cond.classLink RL 15 "java/lang/IllegalStateException", Cond.methodLink RL 17 yX1_lay, Cond.instanceMethod yX1_lay, Cond.selects RX1 yX1_lay yX1_lay, Cond.initialized RX1, Cond.code yX1_lay cX1_lay 6 (some .int), Cond.classLink RX1 35 "java/lang/IllegalStateException", Cond.initialized "java/lang/IllegalStateException", Cond.fieldLink RX1 10 "AqueductTanks" "land" "LAqueductTanks$Land;", Cond.methodLink RX1 42 yX1_needTank, Cond.instanceMethod yX1_needTank, Cond.selects RX1 yX1_needTank yX1_needTank, Cond.code yX1_needTank cX1_needTank 2 none, Cond.fieldLink RX1 107 "AqueductTanks$Land" "tankCount" "I", Cond.methodLink RX1 62 yX1_needIndex, Cond.static yX1_needIndex, Cond.code yX1_needIndex cX1_needIndex 1 none, Cond.classLink RX1 110 "java/lang/IndexOutOfBoundsException", Cond.initialized "java/lang/IndexOutOfBoundsException", Cond.methodLink RX1 23 yX1_needArgument, Cond.static yX1_needArgument, Cond.code yX1_needArgument cX1_needArgument 1 none]
def wsL_lay_r2 : List Cond := [Cond.classLink RX1 115 "java/lang/IllegalArgumentException", Cond.initialized "java/lang/IllegalArgumentException", Cond.methodLink RX1 19 yX1_isWithin, Cond.static yX1_isWithin, Cond.code yX1_isWithin cX1_isWithin 3 (some .boolean), Cond.methodLink RX1 46 yX0_addPipe, Cond.instanceMethod yX0_addPipe, Cond.selects RX0 yX0_addPipe yX0_addPipe, Cond.initialized RX0, Cond.code yX0_addPipe cX0_addPipe 6 (some .int), Cond.fieldLink RX0 23 "AqueductTanks$Land" "pipeCount" "I", Cond.fieldLink RX0 16 "AqueductTanks$Land" "pipes" "[[I"]
def wsL_lay : List Cond := .codeWith yL_lay cL_lay 7 (some .int) [(0, 14, 17, 21), (0, 14, 21, 13), (0, 14, 25, 15)] :: ((wsL_lay_r1 ++ wsL_lay_r2) ++ wsX10 ++ wsX00 ++ (vx_atS RX1 39 "java/lang/IllegalStateException" ["java/lang/RuntimeException", "java/lang/Exception"]).filter goodWord ++ (vx_atS RX1 114 "java/lang/IndexOutOfBoundsException" ["java/lang/RuntimeException", "java/lang/Exception"]).filter goodWord ++ (vx_atS RX1 119 "java/lang/IllegalArgumentException" ["java/lang/RuntimeException", "java/lang/Exception"]).filter goodWord)
def wsL_set_r1 : List Cond := [Cond.classLink RL 21 "java/lang/IndexOutOfBoundsException", Cond.classLink RL 13 "java/lang/IllegalArgumentException", Cond.methodLink RL 23 yX1_set, Cond.instanceMethod yX1_set, Cond.selects RX1 yX1_set yX1_set, Cond.initialized RX1, Cond.code yX1_set cX1_set 6 (some .int), Cond.fieldLink RX1 10 "AqueductTanks" "land" "LAqueductTanks$Land;", Cond.fieldLink RX1 52 "AqueductTanks$Land" "tanks" "[[I", Cond.methodLink RX1 42 yX1_needTank, Cond.instanceMethod yX1_needTank, Cond.selects RX1 yX1_needTank yX1_needTank, Cond.code yX1_needTank cX1_needTank 2 none, Cond.fieldLink RX1 107 "AqueductTanks$Land" "tankCount" "I", Cond.methodLink RX1 62 yX1_needIndex, Cond.static yX1_needIndex, Cond.code yX1_needIndex cX1_needIndex 1 none, Cond.classLink RX1 110 "java/lang/IndexOutOfBoundsException", Cond.initialized "java/lang/IndexOutOfBoundsException", Cond.methodLink RX1 27 yX1_isSpringAndThirst, Cond.static yX1_isSpringAndThirst, Cond.code yX1_isSpringAndThirst cX1_isSpringAndThirst 2 (some .boolean), Cond.methodLink RX1 19 yX1_isWithin, Cond.static yX1_isWithin]
def wsL_set_r2 : List Cond := [Cond.code yX1_isWithin cX1_isWithin 3 (some .boolean), Cond.methodLink RX1 23 yX1_needArgument, Cond.static yX1_needArgument, Cond.code yX1_needArgument cX1_needArgument 1 none, Cond.classLink RX1 115 "java/lang/IllegalArgumentException", Cond.initialized "java/lang/IllegalArgumentException"]
def wsL_set : List Cond := .codeWith yL_set cL_set 6 (some .int) [(0, 12, 15, 21), (0, 12, 19, 13)] :: ((wsL_set_r1 ++ wsL_set_r2) ++ wsX10 ++ wsX00 ++ (vx_atS RX1 114 "java/lang/IndexOutOfBoundsException" ["java/lang/RuntimeException", "java/lang/Exception"]).filter goodWord ++ (vx_atS RX1 119 "java/lang/IllegalArgumentException" ["java/lang/RuntimeException", "java/lang/Exception"]).filter goodWord)
def wsL_flush : List Cond := .codeWith yL_flush cL_flush 4 (some .int) [(0, 9, 12, 21)] :: ([.classLink RL 21 "java/lang/IndexOutOfBoundsException", .methodLink RL 26 yX1_flush, .instanceMethod yX1_flush, .selects RX1 yX1_flush yX1_flush, .initialized RX1, .code yX1_flush cX1_flush 4 (some .int), .fieldLink RX1 10 "AqueductTanks" "land" "LAqueductTanks$Land;", .fieldLink RX1 52 "AqueductTanks$Land" "tanks" "[[I", .methodLink RX1 42 yX1_needTank, .instanceMethod yX1_needTank, .selects RX1 yX1_needTank yX1_needTank, .code yX1_needTank cX1_needTank 2 none, .fieldLink RX1 107 "AqueductTanks$Land" "tankCount" "I", .methodLink RX1 62 yX1_needIndex, .static yX1_needIndex, .code yX1_needIndex cX1_needIndex 1 none, .classLink RX1 110 "java/lang/IndexOutOfBoundsException", .initialized "java/lang/IndexOutOfBoundsException"] ++ wsX10 ++ wsX00 ++ (vx_atS RX1 114 "java/lang/IndexOutOfBoundsException" ["java/lang/RuntimeException", "java/lang/Exception"]).filter goodWord)
def wsL_scrape : List Cond := .codeWith yL_scrape cL_scrape 4 (some .int) [(0, 9, 12, 21)] :: ([.classLink RL 21 "java/lang/IndexOutOfBoundsException", .methodLink RL 30 yX1_scrape, .instanceMethod yX1_scrape, .selects RX1 yX1_scrape yX1_scrape, .initialized RX1, .code yX1_scrape cX1_scrape 4 (some .int), .fieldLink RX1 10 "AqueductTanks" "land" "LAqueductTanks$Land;", .fieldLink RX1 59 "AqueductTanks$Land" "pipes" "[[I", .methodLink RX1 56 yX1_needPipe, .instanceMethod yX1_needPipe, .selects RX1 yX1_needPipe yX1_needPipe, .code yX1_needPipe cX1_needPipe 2 none, .fieldLink RX1 76 "AqueductTanks$Land" "pipeCount" "I", .methodLink RX1 62 yX1_needIndex, .static yX1_needIndex, .code yX1_needIndex cX1_needIndex 1 none, .classLink RX1 110 "java/lang/IndexOutOfBoundsException", .initialized "java/lang/IndexOutOfBoundsException"] ++ wsX10 ++ wsX00 ++ (vx_atS RX1 114 "java/lang/IndexOutOfBoundsException" ["java/lang/RuntimeException", "java/lang/Exception"]).filter goodWord)
def wsL_steal_r1 : List Cond := [Cond.classLink RL 21 "java/lang/IndexOutOfBoundsException", Cond.classLink RL 13 "java/lang/IllegalArgumentException", Cond.methodLink RL 33 yX1_steal, Cond.instanceMethod yX1_steal, Cond.selects RX1 yX1_steal yX1_steal, Cond.initialized RX1, Cond.code yX1_steal cX1_steal 5 (some .int), Cond.fieldLink RX1 10 "AqueductTanks" "land" "LAqueductTanks$Land;", Cond.fieldLink RX1 59 "AqueductTanks$Land" "pipes" "[[I", Cond.methodLink RX1 56 yX1_needPipe, Cond.instanceMethod yX1_needPipe, Cond.selects RX1 yX1_needPipe yX1_needPipe, Cond.code yX1_needPipe cX1_needPipe 2 none, Cond.fieldLink RX1 76 "AqueductTanks$Land" "pipeCount" "I", Cond.methodLink RX1 62 yX1_needIndex, Cond.static yX1_needIndex, Cond.code yX1_needIndex cX1_needIndex 1 none, Cond.classLink RX1 110 "java/lang/IndexOutOfBoundsException", Cond.initialized "java/lang/IndexOutOfBoundsException", Cond.methodLink RX1 19 yX1_isWithin, Cond.static yX1_isWithin, Cond.code yX1_isWithin cX1_isWithin 3 (some .boolean), Cond.methodLink RX1 23 yX1_needArgument, Cond.static yX1_needArgument]
def wsL_steal_r2 : List Cond := [Cond.code yX1_needArgument cX1_needArgument 1 none, Cond.classLink RX1 115 "java/lang/IllegalArgumentException", Cond.initialized "java/lang/IllegalArgumentException"]
def wsL_steal : List Cond := .codeWith yL_steal cL_steal 5 (some .int) [(0, 10, 13, 21), (0, 10, 17, 13)] :: ((wsL_steal_r1 ++ wsL_steal_r2) ++ wsX10 ++ wsX00 ++ (vx_atS RX1 114 "java/lang/IndexOutOfBoundsException" ["java/lang/RuntimeException", "java/lang/Exception"]).filter goodWord ++ (vx_atS RX1 119 "java/lang/IllegalArgumentException" ["java/lang/RuntimeException", "java/lang/Exception"]).filter goodWord)
def wsL_tank : List Cond := .codeWith yL_tank cL_tank 5 (some .int) [(0, 10, 13, 21)] :: ([.classLink RL 21 "java/lang/IndexOutOfBoundsException", .methodLink RL 37 yX1_tank, .instanceMethod yX1_tank, .selects RX1 yX1_tank yX1_tank, .initialized RX1, .code yX1_tank cX1_tank 3 (some .int), .fieldLink RX1 10 "AqueductTanks" "land" "LAqueductTanks$Land;", .fieldLink RX1 52 "AqueductTanks$Land" "tanks" "[[I", .methodLink RX1 42 yX1_needTank, .instanceMethod yX1_needTank, .selects RX1 yX1_needTank yX1_needTank, .code yX1_needTank cX1_needTank 2 none, .fieldLink RX1 107 "AqueductTanks$Land" "tankCount" "I", .methodLink RX1 62 yX1_needIndex, .static yX1_needIndex, .code yX1_needIndex cX1_needIndex 1 none, .classLink RX1 110 "java/lang/IndexOutOfBoundsException", .initialized "java/lang/IndexOutOfBoundsException", .methodLink RX1 19 yX1_isWithin, .static yX1_isWithin, .code yX1_isWithin cX1_isWithin 3 (some .boolean)] ++ wsX10 ++ wsX00 ++ (vx_atS RX1 114 "java/lang/IndexOutOfBoundsException" ["java/lang/RuntimeException", "java/lang/Exception"]).filter goodWord)
def wsL_pipe_r1 : List Cond := [Cond.classLink RL 21 "java/lang/IndexOutOfBoundsException", Cond.methodLink RL 40 yX1_pipe, Cond.instanceMethod yX1_pipe, Cond.selects RX1 yX1_pipe yX1_pipe, Cond.initialized RX1, Cond.code yX1_pipe cX1_pipe 3 (some .int), Cond.fieldLink RX1 10 "AqueductTanks" "land" "LAqueductTanks$Land;", Cond.methodLink RX1 56 yX1_needPipe, Cond.instanceMethod yX1_needPipe, Cond.selects RX1 yX1_needPipe yX1_needPipe, Cond.code yX1_needPipe cX1_needPipe 2 none, Cond.fieldLink RX1 76 "AqueductTanks$Land" "pipeCount" "I", Cond.methodLink RX1 62 yX1_needIndex, Cond.static yX1_needIndex, Cond.code yX1_needIndex cX1_needIndex 1 none, Cond.classLink RX1 110 "java/lang/IndexOutOfBoundsException", Cond.initialized "java/lang/IndexOutOfBoundsException", Cond.methodLink RX1 19 yX1_isWithin, Cond.static yX1_isWithin, Cond.code yX1_isWithin cX1_isWithin 3 (some .boolean), Cond.methodLink RX1 65 yX0_ofPipe, Cond.instanceMethod yX0_ofPipe, Cond.selects RX0 yX0_ofPipe yX0_ofPipe, Cond.initialized RX0]
def wsL_pipe_r2 : List Cond := [Cond.code yX0_ofPipe cX0_ofPipe 3 (some .int), Cond.fieldLink RX0 16 "AqueductTanks$Land" "pipes" "[[I", Cond.methodLink RX0 35 yX0_whatCanFlow, Cond.instanceMethod yX0_whatCanFlow, Cond.selects RX0 yX0_whatCanFlow yX0_whatCanFlow, Cond.code yX0_whatCanFlow cX0_whatCanFlow 7 (some .int), Cond.fieldLink RX0 13 "AqueductTanks$Land" "tanks" "[[I", Cond.methodLink RX0 57 Lib.Math.max.name, Cond.static Lib.Math.max.name, Cond.initialized "java/lang/Math", Cond.code Lib.Math.max.name Lib.Math.max.code 2 (some .int), Cond.methodLink RX0 63 Lib.Math.min.name, Cond.static Lib.Math.min.name, Cond.code Lib.Math.min.name Lib.Math.min.code 2 (some .int), Cond.methodLink RX0 53 yX0_head, Cond.static yX0_head, Cond.code yX0_head cX0_head 1 (some .int)]
def wsL_pipe : List Cond := .codeWith yL_pipe cL_pipe 5 (some .int) [(0, 10, 13, 21)] :: ((wsL_pipe_r1 ++ wsL_pipe_r2) ++ wsX10 ++ wsX00 ++ (vx_atS RX1 114 "java/lang/IndexOutOfBoundsException" ["java/lang/RuntimeException", "java/lang/Exception"]).filter goodWord)
def wsL_count_r1 : List Cond := [Cond.classLink RL 21 "java/lang/IndexOutOfBoundsException", Cond.methodLink RL 43 yX1_count, Cond.instanceMethod yX1_count, Cond.selects RX1 yX1_count yX1_count, Cond.initialized RX1, Cond.code yX1_count cX1_count 2 (some .int), Cond.fieldLink RX1 10 "AqueductTanks" "land" "LAqueductTanks$Land;", Cond.methodLink RX1 19 yX1_isWithin, Cond.static yX1_isWithin, Cond.code yX1_isWithin cX1_isWithin 3 (some .boolean), Cond.methodLink RX1 62 yX1_needIndex, Cond.static yX1_needIndex, Cond.code yX1_needIndex cX1_needIndex 1 none, Cond.classLink RX1 110 "java/lang/IndexOutOfBoundsException", Cond.initialized "java/lang/IndexOutOfBoundsException", Cond.methodLink RX1 69 yX0_ofAll, Cond.instanceMethod yX0_ofAll, Cond.selects RX0 yX0_ofAll yX0_ofAll, Cond.initialized RX0, Cond.code yX0_ofAll cX0_ofAll 2 (some .int), Cond.fieldLink RX0 26 "AqueductTanks$Land" "day" "I", Cond.fieldLink RX0 19 "AqueductTanks$Land" "tankCount" "I", Cond.fieldLink RX0 23 "AqueductTanks$Land" "pipeCount" "I", Cond.methodLink RX0 39 yX0_sumOfTanks]
def wsL_count_r2 : List Cond := [Cond.instanceMethod yX0_sumOfTanks, Cond.selects RX0 yX0_sumOfTanks yX0_sumOfTanks, Cond.code yX0_sumOfTanks cX0_sumOfTanks 4 (some .int), Cond.fieldLink RX0 13 "AqueductTanks$Land" "tanks" "[[I", Cond.methodLink RX0 42 yX0_sumOfPipes, Cond.instanceMethod yX0_sumOfPipes, Cond.selects RX0 yX0_sumOfPipes yX0_sumOfPipes, Cond.code yX0_sumOfPipes cX0_sumOfPipes 4 (some .int), Cond.fieldLink RX0 16 "AqueductTanks$Land" "pipes" "[[I", Cond.methodLink RX0 45 yX0_thirstyTanks, Cond.instanceMethod yX0_thirstyTanks, Cond.selects RX0 yX0_thirstyTanks yX0_thirstyTanks, Cond.code yX0_thirstyTanks cX0_thirstyTanks 3 (some .int), Cond.methodLink RX0 49 yX0_isThirsty, Cond.instanceMethod yX0_isThirsty, Cond.selects RX0 yX0_isThirsty yX0_isThirsty, Cond.code yX0_isThirsty cX0_isThirsty 2 (some .boolean)]
def wsL_count : List Cond := .codeWith yL_count cL_count 4 (some .int) [(0, 9, 12, 21)] :: ((wsL_count_r1 ++ wsL_count_r2) ++ wsX10 ++ wsX00 ++ (vx_atS RX1 114 "java/lang/IndexOutOfBoundsException" ["java/lang/RuntimeException", "java/lang/Exception"]).filter goodWord)
def wsL_reach_r1 : List Cond := [Cond.classLink RL 21 "java/lang/IndexOutOfBoundsException", Cond.methodLink RL 46 yX1_reach, Cond.instanceMethod yX1_reach, Cond.selects RX1 yX1_reach yX1_reach, Cond.initialized RX1, Cond.code yX1_reach cX1_reach 2 (some .int), Cond.fieldLink RX1 10 "AqueductTanks" "land" "LAqueductTanks$Land;", Cond.methodLink RX1 42 yX1_needTank, Cond.instanceMethod yX1_needTank, Cond.selects RX1 yX1_needTank yX1_needTank, Cond.code yX1_needTank cX1_needTank 2 none, Cond.fieldLink RX1 107 "AqueductTanks$Land" "tankCount" "I", Cond.methodLink RX1 62 yX1_needIndex, Cond.static yX1_needIndex, Cond.code yX1_needIndex cX1_needIndex 1 none, Cond.classLink RX1 110 "java/lang/IndexOutOfBoundsException", Cond.initialized "java/lang/IndexOutOfBoundsException", Cond.methodLink RX1 73 yX0_reachedFrom, Cond.instanceMethod yX0_reachedFrom, Cond.selects RX0 yX0_reachedFrom yX0_reachedFrom, Cond.initialized RX0, Cond.code yX0_reachedFrom cX0_reachedFrom 6 (some .int), Cond.fieldLink RX0 19 "AqueductTanks$Land" "tankCount" "I", Cond.fieldLink RX0 23 "AqueductTanks$Land" "pipeCount" "I"]
def wsL_reach_r2 : List Cond := [Cond.fieldLink RX0 16 "AqueductTanks$Land" "pipes" "[[I"]
def wsL_reach : List Cond := .codeWith yL_reach cL_reach 4 (some .int) [(0, 9, 12, 21)] :: ((wsL_reach_r1 ++ wsL_reach_r2) ++ wsX10 ++ wsX00 ++ (vx_atS RX1 114 "java/lang/IndexOutOfBoundsException" ["java/lang/RuntimeException", "java/lang/Exception"]).filter goodWord)
def wsL_pass_r1 : List Cond := [Cond.classLink RL 13 "java/lang/IllegalArgumentException", Cond.methodLink RL 49 yX1_pass, Cond.instanceMethod yX1_pass, Cond.selects RX1 yX1_pass yX1_pass, Cond.initialized RX1, Cond.code yX1_pass cX1_pass 2 (some .int), Cond.fieldLink RX1 10 "AqueductTanks" "land" "LAqueductTanks$Land;", Cond.methodLink RX1 19 yX1_isWithin, Cond.static yX1_isWithin, Cond.code yX1_isWithin cX1_isWithin 3 (some .boolean), Cond.methodLink RX1 23 yX1_needArgument, Cond.static yX1_needArgument, Cond.code yX1_needArgument cX1_needArgument 1 none, Cond.classLink RX1 115 "java/lang/IllegalArgumentException", Cond.initialized "java/lang/IllegalArgumentException", Cond.methodLink RX1 80 yX0_drunkIn, Cond.instanceMethod yX0_drunkIn, Cond.selects RX0 yX0_drunkIn yX0_drunkIn, Cond.initialized RX0, Cond.code yX0_drunkIn cX0_drunkIn 4 (some .int), Cond.methodLink RX0 39 yX0_sumOfTanks, Cond.instanceMethod yX0_sumOfTanks, Cond.selects RX0 yX0_sumOfTanks yX0_sumOfTanks, Cond.code yX0_sumOfTanks cX0_sumOfTanks 4 (some .int)]
def wsL_pass_r2 : List Cond := [Cond.fieldLink RX0 19 "AqueductTanks$Land" "tankCount" "I", Cond.fieldLink RX0 13 "AqueductTanks$Land" "tanks" "[[I", Cond.methodLink RX0 66 yX0_goThroughDay, Cond.instanceMethod yX0_goThroughDay, Cond.selects RX0 yX0_goThroughDay yX0_goThroughDay, Cond.code yX0_goThroughDay cX0_goThroughDay 2 none, Cond.fieldLink RX0 23 "AqueductTanks$Land" "pipeCount" "I", Cond.fieldLink RX0 26 "AqueductTanks$Land" "day" "I", Cond.methodLink RX0 69 yX0_feed, Cond.static yX0_feed, Cond.code yX0_feed cX0_feed 1 none, Cond.methodLink RX0 83 yX0_takeInWater, Cond.static yX0_takeInWater, Cond.code yX0_takeInWater cX0_takeInWater 4 none, Cond.methodLink RX0 57 Lib.Math.max.name, Cond.static Lib.Math.max.name, Cond.initialized "java/lang/Math", Cond.code Lib.Math.max.name Lib.Math.max.code 2 (some .int), Cond.methodLink RX0 87 yX0_takeInMud, Cond.static yX0_takeInMud, Cond.code yX0_takeInMud cX0_takeInMud 2 none, Cond.methodLink RX0 63 Lib.Math.min.name, Cond.static Lib.Math.min.name, Cond.code Lib.Math.min.name Lib.Math.min.code 2 (some .int)]
def wsL_pass_r3 : List Cond := [Cond.methodLink RX0 73 yX0_flowThrough, Cond.instanceMethod yX0_flowThrough, Cond.selects RX0 yX0_flowThrough yX0_flowThrough, Cond.code yX0_flowThrough cX0_flowThrough 7 none, Cond.fieldLink RX0 16 "AqueductTanks$Land" "pipes" "[[I", Cond.methodLink RX0 35 yX0_whatCanFlow, Cond.instanceMethod yX0_whatCanFlow, Cond.selects RX0 yX0_whatCanFlow yX0_whatCanFlow, Cond.code yX0_whatCanFlow cX0_whatCanFlow 7 (some .int), Cond.methodLink RX0 53 yX0_head, Cond.static yX0_head, Cond.code yX0_head cX0_head 1 (some .int), Cond.methodLink RX0 90 yX0_wanderMud, Cond.static yX0_wanderMud, Cond.code yX0_wanderMud cX0_wanderMud 4 none, Cond.methodLink RX0 77 yX0_growCrusts, Cond.instanceMethod yX0_growCrusts, Cond.selects RX0 yX0_growCrusts yX0_growCrusts, Cond.code yX0_growCrusts cX0_growCrusts 3 none, Cond.methodLink RX0 80 yX0_drinkFrom, Cond.static yX0_drinkFrom, Cond.code yX0_drinkFrom cX0_drinkFrom 3 none]
def wsL_pass : List Cond := .codeWith yL_pass cL_pass 4 (some .int) [(0, 9, 12, 13)] :: ((wsL_pass_r1 ++ (wsL_pass_r2 ++ wsL_pass_r3)) ++ wsX10 ++ wsX00 ++ (vx_atS RX1 119 "java/lang/IllegalArgumentException" ["java/lang/RuntimeException", "java/lang/Exception"]).filter goodWord)
def wsL_foresee_r1 : List Cond := [Cond.classLink RL 13 "java/lang/IllegalArgumentException", Cond.classLink RL 21 "java/lang/IndexOutOfBoundsException", Cond.methodLink RL 52 yX1_foresee, Cond.instanceMethod yX1_foresee, Cond.selects RX1 yX1_foresee yX1_foresee, Cond.initialized RX1, Cond.code yX1_foresee cX1_foresee 4 (some .int), Cond.fieldLink RX1 16 "AqueductTanks" "trial" "LAqueductTanks$Land;", Cond.fieldLink RX1 10 "AqueductTanks" "land" "LAqueductTanks$Land;", Cond.methodLink RX1 19 yX1_isWithin, Cond.static yX1_isWithin, Cond.code yX1_isWithin cX1_isWithin 3 (some .boolean), Cond.methodLink RX1 23 yX1_needArgument, Cond.static yX1_needArgument, Cond.code yX1_needArgument cX1_needArgument 1 none, Cond.classLink RX1 115 "java/lang/IllegalArgumentException", Cond.initialized "java/lang/IllegalArgumentException", Cond.methodLink RX1 62 yX1_needIndex, Cond.static yX1_needIndex, Cond.code yX1_needIndex cX1_needIndex 1 none, Cond.classLink RX1 110 "java/lang/IndexOutOfBoundsException", Cond.initialized "java/lang/IndexOutOfBoundsException", Cond.methodLink RX1 83 yX0_copyFrom, Cond.instanceMethod yX0_copyFrom]
def wsL_foresee_r2 : List Cond := [Cond.selects RX0 yX0_copyFrom yX0_copyFrom, Cond.initialized RX0, Cond.code yX0_copyFrom cX0_copyFrom 3 none, Cond.fieldLink RX0 26 "AqueductTanks$Land" "day" "I", Cond.fieldLink RX0 19 "AqueductTanks$Land" "tankCount" "I", Cond.fieldLink RX0 23 "AqueductTanks$Land" "pipeCount" "I", Cond.fieldLink RX0 13 "AqueductTanks$Land" "tanks" "[[I", Cond.methodLink RX0 29 arraycopyName, Cond.native arraycopyName, Cond.static arraycopyName, Cond.initialized "java/lang/System", Cond.fieldLink RX0 16 "AqueductTanks$Land" "pipes" "[[I", Cond.methodLink RX1 80 yX0_drunkIn, Cond.instanceMethod yX0_drunkIn, Cond.selects RX0 yX0_drunkIn yX0_drunkIn, Cond.code yX0_drunkIn cX0_drunkIn 4 (some .int), Cond.methodLink RX0 39 yX0_sumOfTanks, Cond.instanceMethod yX0_sumOfTanks, Cond.selects RX0 yX0_sumOfTanks yX0_sumOfTanks, Cond.code yX0_sumOfTanks cX0_sumOfTanks 4 (some .int), Cond.methodLink RX0 66 yX0_goThroughDay, Cond.instanceMethod yX0_goThroughDay, Cond.selects RX0 yX0_goThroughDay yX0_goThroughDay, Cond.code yX0_goThroughDay cX0_goThroughDay 2 none]
def wsL_foresee_r3 : List Cond := [Cond.methodLink RX0 69 yX0_feed, Cond.static yX0_feed, Cond.code yX0_feed cX0_feed 1 none, Cond.methodLink RX0 83 yX0_takeInWater, Cond.static yX0_takeInWater, Cond.code yX0_takeInWater cX0_takeInWater 4 none, Cond.methodLink RX0 57 Lib.Math.max.name, Cond.static Lib.Math.max.name, Cond.initialized "java/lang/Math", Cond.code Lib.Math.max.name Lib.Math.max.code 2 (some .int), Cond.methodLink RX0 87 yX0_takeInMud, Cond.static yX0_takeInMud, Cond.code yX0_takeInMud cX0_takeInMud 2 none, Cond.methodLink RX0 63 Lib.Math.min.name, Cond.static Lib.Math.min.name, Cond.code Lib.Math.min.name Lib.Math.min.code 2 (some .int), Cond.methodLink RX0 73 yX0_flowThrough, Cond.instanceMethod yX0_flowThrough, Cond.selects RX0 yX0_flowThrough yX0_flowThrough, Cond.code yX0_flowThrough cX0_flowThrough 7 none, Cond.methodLink RX0 35 yX0_whatCanFlow, Cond.instanceMethod yX0_whatCanFlow, Cond.selects RX0 yX0_whatCanFlow yX0_whatCanFlow, Cond.code yX0_whatCanFlow cX0_whatCanFlow 7 (some .int)]
def wsL_foresee_r4 : List Cond := [Cond.methodLink RX0 53 yX0_head, Cond.static yX0_head, Cond.code yX0_head cX0_head 1 (some .int), Cond.methodLink RX0 90 yX0_wanderMud, Cond.static yX0_wanderMud, Cond.code yX0_wanderMud cX0_wanderMud 4 none, Cond.methodLink RX0 77 yX0_growCrusts, Cond.instanceMethod yX0_growCrusts, Cond.selects RX0 yX0_growCrusts yX0_growCrusts, Cond.code yX0_growCrusts cX0_growCrusts 3 none, Cond.methodLink RX0 80 yX0_drinkFrom, Cond.static yX0_drinkFrom, Cond.code yX0_drinkFrom cX0_drinkFrom 3 none, Cond.methodLink RX1 87 yX0_sumOfPipes, Cond.instanceMethod yX0_sumOfPipes, Cond.selects RX0 yX0_sumOfPipes yX0_sumOfPipes, Cond.code yX0_sumOfPipes cX0_sumOfPipes 4 (some .int), Cond.methodLink RX1 90 yX0_sumOfTanks]
def wsL_foresee : List Cond := .codeWith yL_foresee cL_foresee 5 (some .int) [(0, 10, 13, 13), (0, 10, 17, 21)] :: ((wsL_foresee_r1 ++ (wsL_foresee_r2 ++ (wsL_foresee_r3 ++ wsL_foresee_r4))) ++ wsX10 ++ wsX00 ++ (vx_atS RX1 119 "java/lang/IllegalArgumentException" ["java/lang/RuntimeException", "java/lang/Exception"]).filter goodWord ++ (vx_atS RX1 114 "java/lang/IndexOutOfBoundsException" ["java/lang/RuntimeException", "java/lang/Exception"]).filter goodWord)
def wsL_advise_r1 : List Cond := [Cond.classLink RL 13 "java/lang/IllegalArgumentException", Cond.methodLink RL 55 yX1_advise, Cond.instanceMethod yX1_advise, Cond.selects RX1 yX1_advise yX1_advise, Cond.initialized RX1, Cond.code yX1_advise cX1_advise 6 (some .int), Cond.fieldLink RX1 16 "AqueductTanks" "trial" "LAqueductTanks$Land;", Cond.fieldLink RX1 10 "AqueductTanks" "land" "LAqueductTanks$Land;", Cond.fieldLink RX1 76 "AqueductTanks$Land" "pipeCount" "I", Cond.fieldLink RX1 59 "AqueductTanks$Land" "pipes" "[[I", Cond.methodLink RX1 19 yX1_isWithin, Cond.static yX1_isWithin, Cond.code yX1_isWithin cX1_isWithin 3 (some .boolean), Cond.methodLink RX1 23 yX1_needArgument, Cond.static yX1_needArgument, Cond.code yX1_needArgument cX1_needArgument 1 none, Cond.classLink RX1 115 "java/lang/IllegalArgumentException", Cond.initialized "java/lang/IllegalArgumentException", Cond.methodLink RX1 83 yX0_copyFrom, Cond.instanceMethod yX0_copyFrom, Cond.selects RX0 yX0_copyFrom yX0_copyFrom, Cond.initialized RX0, Cond.code yX0_copyFrom cX0_copyFrom 3 none, Cond.fieldLink RX0 26 "AqueductTanks$Land" "day" "I"]
def wsL_advise_r2 : List Cond := [Cond.fieldLink RX0 19 "AqueductTanks$Land" "tankCount" "I", Cond.fieldLink RX0 23 "AqueductTanks$Land" "pipeCount" "I", Cond.fieldLink RX0 13 "AqueductTanks$Land" "tanks" "[[I", Cond.methodLink RX0 29 arraycopyName, Cond.native arraycopyName, Cond.static arraycopyName, Cond.initialized "java/lang/System", Cond.fieldLink RX0 16 "AqueductTanks$Land" "pipes" "[[I", Cond.methodLink RX1 80 yX0_drunkIn, Cond.instanceMethod yX0_drunkIn, Cond.selects RX0 yX0_drunkIn yX0_drunkIn, Cond.code yX0_drunkIn cX0_drunkIn 4 (some .int), Cond.methodLink RX0 39 yX0_sumOfTanks, Cond.instanceMethod yX0_sumOfTanks, Cond.selects RX0 yX0_sumOfTanks yX0_sumOfTanks, Cond.code yX0_sumOfTanks cX0_sumOfTanks 4 (some .int), Cond.methodLink RX0 66 yX0_goThroughDay, Cond.instanceMethod yX0_goThroughDay, Cond.selects RX0 yX0_goThroughDay yX0_goThroughDay, Cond.code yX0_goThroughDay cX0_goThroughDay 2 none, Cond.methodLink RX0 69 yX0_feed, Cond.static yX0_feed, Cond.code yX0_feed cX0_feed 1 none, Cond.methodLink RX0 83 yX0_takeInWater]
def wsL_advise_r3 : List Cond := [Cond.static yX0_takeInWater, Cond.code yX0_takeInWater cX0_takeInWater 4 none, Cond.methodLink RX0 57 Lib.Math.max.name, Cond.static Lib.Math.max.name, Cond.initialized "java/lang/Math", Cond.code Lib.Math.max.name Lib.Math.max.code 2 (some .int), Cond.methodLink RX0 87 yX0_takeInMud, Cond.static yX0_takeInMud, Cond.code yX0_takeInMud cX0_takeInMud 2 none, Cond.methodLink RX0 63 Lib.Math.min.name, Cond.static Lib.Math.min.name, Cond.code Lib.Math.min.name Lib.Math.min.code 2 (some .int), Cond.methodLink RX0 73 yX0_flowThrough, Cond.instanceMethod yX0_flowThrough, Cond.selects RX0 yX0_flowThrough yX0_flowThrough, Cond.code yX0_flowThrough cX0_flowThrough 7 none, Cond.methodLink RX0 35 yX0_whatCanFlow, Cond.instanceMethod yX0_whatCanFlow, Cond.selects RX0 yX0_whatCanFlow yX0_whatCanFlow, Cond.code yX0_whatCanFlow cX0_whatCanFlow 7 (some .int), Cond.methodLink RX0 53 yX0_head, Cond.static yX0_head, Cond.code yX0_head cX0_head 1 (some .int), Cond.methodLink RX0 90 yX0_wanderMud]
def wsL_advise_r4 : List Cond := [Cond.static yX0_wanderMud, Cond.code yX0_wanderMud cX0_wanderMud 4 none, Cond.methodLink RX0 77 yX0_growCrusts, Cond.instanceMethod yX0_growCrusts, Cond.selects RX0 yX0_growCrusts yX0_growCrusts, Cond.code yX0_growCrusts cX0_growCrusts 3 none, Cond.methodLink RX0 80 yX0_drinkFrom, Cond.static yX0_drinkFrom, Cond.code yX0_drinkFrom cX0_drinkFrom 3 none]
def wsL_advise : List Cond := .codeWith yL_advise cL_advise 4 (some .int) [(0, 9, 12, 13)] :: ((wsL_advise_r1 ++ (wsL_advise_r2 ++ (wsL_advise_r3 ++ wsL_advise_r4))) ++ wsX10 ++ wsX00 ++ (vx_atS RX1 119 "java/lang/IllegalArgumentException" ["java/lang/RuntimeException", "java/lang/Exception"]).filter goodWord)
def wsL_sated_r1 : List Cond := [Cond.classLink RL 21 "java/lang/IndexOutOfBoundsException", Cond.methodLink RL 58 yX1_sated, Cond.instanceMethod yX1_sated, Cond.selects RX1 yX1_sated yX1_sated, Cond.initialized RX1, Cond.code yX1_sated cX1_sated 3 (some .int), Cond.fieldLink RX1 16 "AqueductTanks" "trial" "LAqueductTanks$Land;", Cond.fieldLink RX1 10 "AqueductTanks" "land" "LAqueductTanks$Land;", Cond.methodLink RX1 42 yX1_needTank, Cond.instanceMethod yX1_needTank, Cond.selects RX1 yX1_needTank yX1_needTank, Cond.code yX1_needTank cX1_needTank 2 none, Cond.fieldLink RX1 107 "AqueductTanks$Land" "tankCount" "I", Cond.methodLink RX1 62 yX1_needIndex, Cond.static yX1_needIndex, Cond.code yX1_needIndex cX1_needIndex 1 none, Cond.classLink RX1 110 "java/lang/IndexOutOfBoundsException", Cond.initialized "java/lang/IndexOutOfBoundsException", Cond.methodLink RX1 83 yX0_copyFrom, Cond.instanceMethod yX0_copyFrom, Cond.selects RX0 yX0_copyFrom yX0_copyFrom, Cond.initialized RX0, Cond.code yX0_copyFrom cX0_copyFrom 3 none, Cond.fieldLink RX0 26 "AqueductTanks$Land" "day" "I"]
def wsL_sated_r2 : List Cond := [Cond.fieldLink RX0 19 "AqueductTanks$Land" "tankCount" "I", Cond.fieldLink RX0 23 "AqueductTanks$Land" "pipeCount" "I", Cond.fieldLink RX0 13 "AqueductTanks$Land" "tanks" "[[I", Cond.methodLink RX0 29 arraycopyName, Cond.native arraycopyName, Cond.static arraycopyName, Cond.initialized "java/lang/System", Cond.fieldLink RX0 16 "AqueductTanks$Land" "pipes" "[[I", Cond.methodLink RX1 93 yX0_goThroughDay, Cond.instanceMethod yX0_goThroughDay, Cond.selects RX0 yX0_goThroughDay yX0_goThroughDay, Cond.code yX0_goThroughDay cX0_goThroughDay 2 none, Cond.methodLink RX0 69 yX0_feed, Cond.static yX0_feed, Cond.code yX0_feed cX0_feed 1 none, Cond.methodLink RX0 83 yX0_takeInWater, Cond.static yX0_takeInWater, Cond.code yX0_takeInWater cX0_takeInWater 4 none, Cond.methodLink RX0 57 Lib.Math.max.name, Cond.static Lib.Math.max.name, Cond.initialized "java/lang/Math", Cond.code Lib.Math.max.name Lib.Math.max.code 2 (some .int), Cond.methodLink RX0 87 yX0_takeInMud, Cond.static yX0_takeInMud]
def wsL_sated_r3 : List Cond := [Cond.code yX0_takeInMud cX0_takeInMud 2 none, Cond.methodLink RX0 63 Lib.Math.min.name, Cond.static Lib.Math.min.name, Cond.code Lib.Math.min.name Lib.Math.min.code 2 (some .int), Cond.methodLink RX0 73 yX0_flowThrough, Cond.instanceMethod yX0_flowThrough, Cond.selects RX0 yX0_flowThrough yX0_flowThrough, Cond.code yX0_flowThrough cX0_flowThrough 7 none, Cond.methodLink RX0 35 yX0_whatCanFlow, Cond.instanceMethod yX0_whatCanFlow, Cond.selects RX0 yX0_whatCanFlow yX0_whatCanFlow, Cond.code yX0_whatCanFlow cX0_whatCanFlow 7 (some .int), Cond.methodLink RX0 53 yX0_head, Cond.static yX0_head, Cond.code yX0_head cX0_head 1 (some .int), Cond.methodLink RX0 90 yX0_wanderMud, Cond.static yX0_wanderMud, Cond.code yX0_wanderMud cX0_wanderMud 4 none, Cond.methodLink RX0 77 yX0_growCrusts, Cond.instanceMethod yX0_growCrusts, Cond.selects RX0 yX0_growCrusts yX0_growCrusts, Cond.code yX0_growCrusts cX0_growCrusts 3 none, Cond.methodLink RX0 80 yX0_drinkFrom, Cond.static yX0_drinkFrom]
def wsL_sated_r4 : List Cond := [Cond.code yX0_drinkFrom cX0_drinkFrom 3 none, Cond.methodLink RX1 96 yX0_isThirsty, Cond.instanceMethod yX0_isThirsty, Cond.selects RX0 yX0_isThirsty yX0_isThirsty, Cond.code yX0_isThirsty cX0_isThirsty 2 (some .boolean)]
def wsL_sated : List Cond := .codeWith yL_sated cL_sated 4 (some .int) [(0, 9, 12, 21)] :: ((wsL_sated_r1 ++ (wsL_sated_r2 ++ (wsL_sated_r3 ++ wsL_sated_r4))) ++ wsX10 ++ wsX00 ++ (vx_atS RX1 114 "java/lang/IndexOutOfBoundsException" ["java/lang/RuntimeException", "java/lang/Exception"]).filter goodWord)
def wsL_law0_r1 : List Cond := [Cond.classLink RL 8 RX1, Cond.instantiable RX1 2, Cond.initialized RX1, Cond.classLink RL 62 RX2, Cond.instantiable RX2 6, Cond.initialized RX2, Cond.arrayClass .long, Cond.methodLink RL 61 yX1_init, Cond.instanceMethod yX1_init, Cond.code yX1_init cX1_init 1 none, Cond.methodLink RX1 1 objectInit, Cond.instanceMethod objectInit, Cond.code objectInit ⟨#[0xb1]⟩ 1 none, Cond.classLink RX1 7 RX0, Cond.instantiable RX0 5, Cond.initialized RX0, Cond.fieldLink RX1 10 "AqueductTanks" "land" "LAqueductTanks$Land;", Cond.fieldLink RX1 16 "AqueductTanks" "trial" "LAqueductTanks$Land;", Cond.methodLink RX1 9 yX0_init, Cond.instanceMethod yX0_init, Cond.code yX0_init cX0_init 1 none, Cond.methodLink RX0 3 objectInit, Cond.classLink RX0 11 "[[I", Cond.arrayClass .int]
def wsL_law0_r2 : List Cond := [Cond.fieldLink RX0 13 "AqueductTanks$Land" "tanks" "[[I", Cond.fieldLink RX0 16 "AqueductTanks$Land" "pipes" "[[I", Cond.methodLink RL 64 yX2_init, Cond.instanceMethod yX2_init, Cond.code yX2_init cX2_init 1 none, Cond.methodLink RX2 1 objectInit, Cond.fieldLink RX2 9 "AqueductTanksModel" "land" "[I", Cond.fieldLink RX2 13 "AqueductTanksModel" "lines" "[I", Cond.fieldLink RX2 16 "AqueductTanksModel" "day" "[I", Cond.methodLink RL 65 yL_build, Cond.static yL_build, Cond.initialized RL, Cond.codeWith yL_build cL_build 6 (some .int) [(0, 12, 15, 13), (0, 12, 19, 15)], Cond.classLink RL 13 "java/lang/IllegalArgumentException", Cond.classLink RL 15 "java/lang/IllegalStateException", Cond.methodLink RL 7 yX1_build, Cond.instanceMethod yX1_build, Cond.selects RX1 yX1_build yX1_build, Cond.code yX1_build cX1_build 5 (some .int), Cond.classLink RX1 35 "java/lang/IllegalStateException", Cond.initialized "java/lang/IllegalStateException", Cond.methodLink RX1 19 yX1_isWithin, Cond.static yX1_isWithin, Cond.code yX1_isWithin cX1_isWithin 3 (some .boolean)]
def wsL_law0_r3 : List Cond := [Cond.methodLink RX1 23 yX1_needArgument, Cond.static yX1_needArgument, Cond.code yX1_needArgument cX1_needArgument 1 none, Cond.classLink RX1 115 "java/lang/IllegalArgumentException", Cond.initialized "java/lang/IllegalArgumentException", Cond.methodLink RX1 27 yX1_isSpringAndThirst, Cond.static yX1_isSpringAndThirst, Cond.code yX1_isSpringAndThirst cX1_isSpringAndThirst 2 (some .boolean), Cond.methodLink RX1 31 yX0_addTank, Cond.instanceMethod yX0_addTank, Cond.selects RX0 yX0_addTank yX0_addTank, Cond.code yX0_addTank cX0_addTank 5 (some .int), Cond.fieldLink RX0 19 "AqueductTanks$Land" "tankCount" "I", Cond.methodLink RL 70 yX2_build, Cond.instanceMethod yX2_build, Cond.selects RX2 yX2_build yX2_build, Cond.code yX2_build cX2_build 5 (some .int), Cond.fieldLink RX2 19 "AqueductTanksModel" "thrown" "I", Cond.fieldLink RX2 23 "AqueductTanksModel" "tanks" "I", Cond.methodLink RX2 37 arraycopyName, Cond.native arraycopyName, Cond.static arraycopyName, Cond.initialized "java/lang/System", Cond.methodLink RX2 26 yX2_isIn]
def wsL_law0_r4 : List Cond := [Cond.static yX2_isIn, Cond.code yX2_isIn cX2_isIn 3 (some .boolean), Cond.methodLink RX2 33 yX2_fail, Cond.instanceMethod yX2_fail, Cond.selects RX2 yX2_fail yX2_fail, Cond.code yX2_fail cX2_fail 2 (some .int), Cond.methodLink RL 71 yX2_thrown, Cond.instanceMethod yX2_thrown, Cond.selects RX2 yX2_thrown yX2_thrown, Cond.code yX2_thrown cX2_thrown 1 (some .int), Cond.methodLink RL 75 yL_lay, Cond.static yL_lay, Cond.codeWith yL_lay cL_lay 7 (some .int) [(0, 14, 17, 21), (0, 14, 21, 13), (0, 14, 25, 15)], Cond.classLink RL 21 "java/lang/IndexOutOfBoundsException", Cond.methodLink RL 17 yX1_lay, Cond.instanceMethod yX1_lay, Cond.selects RX1 yX1_lay yX1_lay, Cond.code yX1_lay cX1_lay 6 (some .int), Cond.methodLink RX1 42 yX1_needTank, Cond.instanceMethod yX1_needTank, Cond.selects RX1 yX1_needTank yX1_needTank, Cond.code yX1_needTank cX1_needTank 2 none, Cond.fieldLink RX1 107 "AqueductTanks$Land" "tankCount" "I", Cond.methodLink RX1 62 yX1_needIndex]
def wsL_law0_r5 : List Cond := [Cond.static yX1_needIndex, Cond.code yX1_needIndex cX1_needIndex 1 none, Cond.classLink RX1 110 "java/lang/IndexOutOfBoundsException", Cond.initialized "java/lang/IndexOutOfBoundsException", Cond.methodLink RX1 46 yX0_addPipe, Cond.instanceMethod yX0_addPipe, Cond.selects RX0 yX0_addPipe yX0_addPipe, Cond.code yX0_addPipe cX0_addPipe 6 (some .int), Cond.fieldLink RX0 23 "AqueductTanks$Land" "pipeCount" "I", Cond.methodLink RL 78 yX2_lay, Cond.instanceMethod yX2_lay, Cond.selects RX2 yX2_lay yX2_lay, Cond.code yX2_lay cX2_lay 6 (some .int), Cond.fieldLink RX2 30 "AqueductTanksModel" "pipes" "I", Cond.methodLink RX2 43 yX2_isTank, Cond.instanceMethod yX2_isTank, Cond.selects RX2 yX2_isTank yX2_isTank, Cond.code yX2_isTank cX2_isTank 2 (some .boolean), Cond.methodLink RL 79 yL_set, Cond.static yL_set, Cond.codeWith yL_set cL_set 6 (some .int) [(0, 12, 15, 21), (0, 12, 19, 13)], Cond.methodLink RL 23 yX1_set, Cond.instanceMethod yX1_set, Cond.selects RX1 yX1_set yX1_set]
def wsL_law0_r6 : List Cond := [Cond.code yX1_set cX1_set 6 (some .int), Cond.fieldLink RX1 52 "AqueductTanks$Land" "tanks" "[[I", Cond.methodLink RL 81 yX2_set, Cond.instanceMethod yX2_set, Cond.selects RX2 yX2_set yX2_set, Cond.code yX2_set cX2_set 5 (some .int), Cond.methodLink RX2 47 yX2_la, Cond.instanceMethod yX2_la, Cond.selects RX2 yX2_la yX2_la, Cond.code yX2_la cX2_la 3 (some .int), Cond.methodLink RX2 51 yX2_setTank, Cond.instanceMethod yX2_setTank, Cond.selects RX2 yX2_setTank yX2_setTank, Cond.code yX2_setTank cX2_setTank 4 none, Cond.methodLink RL 82 yL_flush, Cond.static yL_flush, Cond.codeWith yL_flush cL_flush 4 (some .int) [(0, 9, 12, 21)], Cond.methodLink RL 26 yX1_flush, Cond.instanceMethod yX1_flush, Cond.selects RX1 yX1_flush yX1_flush, Cond.code yX1_flush cX1_flush 4 (some .int), Cond.methodLink RL 85 yX2_flush, Cond.instanceMethod yX2_flush, Cond.selects RX2 yX2_flush yX2_flush]
def wsL_law0_r7 : List Cond := [Cond.code yX2_flush cX2_flush 3 (some .int), Cond.methodLink RL 86 yL_scrape, Cond.static yL_scrape, Cond.codeWith yL_scrape cL_scrape 4 (some .int) [(0, 9, 12, 21)], Cond.methodLink RL 30 yX1_scrape, Cond.instanceMethod yX1_scrape, Cond.selects RX1 yX1_scrape yX1_scrape, Cond.code yX1_scrape cX1_scrape 4 (some .int), Cond.fieldLink RX1 59 "AqueductTanks$Land" "pipes" "[[I", Cond.methodLink RX1 56 yX1_needPipe, Cond.instanceMethod yX1_needPipe, Cond.selects RX1 yX1_needPipe yX1_needPipe, Cond.code yX1_needPipe cX1_needPipe 2 none, Cond.fieldLink RX1 76 "AqueductTanks$Land" "pipeCount" "I", Cond.methodLink RL 88 yX2_scrape, Cond.instanceMethod yX2_scrape, Cond.selects RX2 yX2_scrape yX2_scrape, Cond.code yX2_scrape cX2_scrape 3 (some .int), Cond.methodLink RX2 55 yX2_isPipe, Cond.instanceMethod yX2_isPipe, Cond.selects RX2 yX2_isPipe yX2_isPipe, Cond.code yX2_isPipe cX2_isPipe 2 (some .boolean), Cond.methodLink RX2 58 yX2_li, Cond.instanceMethod yX2_li]
def wsL_law0_r8 : List Cond := [Cond.selects RX2 yX2_li yX2_li, Cond.code yX2_li cX2_li 3 (some .int), Cond.methodLink RX2 61 yX2_setPipe, Cond.instanceMethod yX2_setPipe, Cond.selects RX2 yX2_setPipe yX2_setPipe, Cond.code yX2_setPipe cX2_setPipe 4 none, Cond.methodLink RL 89 yL_steal, Cond.static yL_steal, Cond.codeWith yL_steal cL_steal 5 (some .int) [(0, 10, 13, 21), (0, 10, 17, 13)], Cond.methodLink RL 33 yX1_steal, Cond.instanceMethod yX1_steal, Cond.selects RX1 yX1_steal yX1_steal, Cond.code yX1_steal cX1_steal 5 (some .int), Cond.methodLink RL 92 yX2_steal, Cond.instanceMethod yX2_steal, Cond.selects RX2 yX2_steal yX2_steal, Cond.code yX2_steal cX2_steal 4 (some .int), Cond.methodLink RL 93 yL_tank, Cond.static yL_tank, Cond.codeWith yL_tank cL_tank 5 (some .int) [(0, 10, 13, 21)], Cond.methodLink RL 37 yX1_tank, Cond.instanceMethod yX1_tank, Cond.selects RX1 yX1_tank yX1_tank, Cond.code yX1_tank cX1_tank 3 (some .int)]
def wsL_law0_r9 : List Cond := [Cond.methodLink RL 95 yX2_tank, Cond.instanceMethod yX2_tank, Cond.selects RX2 yX2_tank yX2_tank, Cond.code yX2_tank cX2_tank 3 (some .int), Cond.methodLink RL 96 yL_pipe, Cond.static yL_pipe, Cond.codeWith yL_pipe cL_pipe 5 (some .int) [(0, 10, 13, 21)], Cond.methodLink RL 40 yX1_pipe, Cond.instanceMethod yX1_pipe, Cond.selects RX1 yX1_pipe yX1_pipe, Cond.code yX1_pipe cX1_pipe 3 (some .int), Cond.methodLink RX1 65 yX0_ofPipe, Cond.instanceMethod yX0_ofPipe, Cond.selects RX0 yX0_ofPipe yX0_ofPipe, Cond.code yX0_ofPipe cX0_ofPipe 3 (some .int), Cond.methodLink RX0 35 yX0_whatCanFlow, Cond.instanceMethod yX0_whatCanFlow, Cond.selects RX0 yX0_whatCanFlow yX0_whatCanFlow, Cond.code yX0_whatCanFlow cX0_whatCanFlow 7 (some .int), Cond.methodLink RX0 57 Lib.Math.max.name, Cond.static Lib.Math.max.name, Cond.initialized "java/lang/Math", Cond.code Lib.Math.max.name Lib.Math.max.code 2 (some .int), Cond.methodLink RX0 63 Lib.Math.min.name]
def wsL_law0_r10 : List Cond := [Cond.static Lib.Math.min.name, Cond.code Lib.Math.min.name Lib.Math.min.code 2 (some .int), Cond.methodLink RX0 53 yX0_head, Cond.static yX0_head, Cond.code yX0_head cX0_head 1 (some .int), Cond.methodLink RL 98 yX2_pipe, Cond.instanceMethod yX2_pipe, Cond.selects RX2 yX2_pipe yX2_pipe, Cond.code yX2_pipe cX2_pipe 3 (some .int), Cond.methodLink RX2 78 yX2_pipeTold, Cond.instanceMethod yX2_pipeTold, Cond.selects RX2 yX2_pipeTold yX2_pipeTold, Cond.code yX2_pipeTold cX2_pipeTold 3 (some .int), Cond.methodLink RX2 75 yX2_flows, Cond.instanceMethod yX2_flows, Cond.selects RX2 yX2_flows yX2_flows, Cond.code yX2_flows cX2_flows 3 (some .int), Cond.methodLink RX2 67 Lib.Math.max.name, Cond.methodLink RX2 72 Lib.Math.min.name, Cond.methodLink RX2 64 yX2_head, Cond.instanceMethod yX2_head, Cond.selects RX2 yX2_head yX2_head, Cond.code yX2_head cX2_head 2 (some .int), Cond.methodLink RL 99 yL_count]
def wsL_law0_r11 : List Cond := [Cond.static yL_count, Cond.codeWith yL_count cL_count 4 (some .int) [(0, 9, 12, 21)], Cond.methodLink RL 43 yX1_count, Cond.instanceMethod yX1_count, Cond.selects RX1 yX1_count yX1_count, Cond.code yX1_count cX1_count 2 (some .int), Cond.methodLink RX1 69 yX0_ofAll, Cond.instanceMethod yX0_ofAll, Cond.selects RX0 yX0_ofAll yX0_ofAll, Cond.code yX0_ofAll cX0_ofAll 2 (some .int), Cond.fieldLink RX0 26 "AqueductTanks$Land" "day" "I", Cond.methodLink RX0 39 yX0_sumOfTanks, Cond.instanceMethod yX0_sumOfTanks, Cond.selects RX0 yX0_sumOfTanks yX0_sumOfTanks, Cond.code yX0_sumOfTanks cX0_sumOfTanks 4 (some .int), Cond.methodLink RX0 42 yX0_sumOfPipes, Cond.instanceMethod yX0_sumOfPipes, Cond.selects RX0 yX0_sumOfPipes yX0_sumOfPipes, Cond.code yX0_sumOfPipes cX0_sumOfPipes 4 (some .int), Cond.methodLink RX0 45 yX0_thirstyTanks, Cond.instanceMethod yX0_thirstyTanks, Cond.selects RX0 yX0_thirstyTanks yX0_thirstyTanks, Cond.code yX0_thirstyTanks cX0_thirstyTanks 3 (some .int), Cond.methodLink RX0 49 yX0_isThirsty]
def wsL_law0_r12 : List Cond := [Cond.instanceMethod yX0_isThirsty, Cond.selects RX0 yX0_isThirsty yX0_isThirsty, Cond.code yX0_isThirsty cX0_isThirsty 2 (some .boolean), Cond.methodLink RL 101 yX2_count, Cond.instanceMethod yX2_count, Cond.selects RX2 yX2_count yX2_count, Cond.code yX2_count cX2_count 2 (some .int), Cond.methodLink RX2 87 yX2_counted, Cond.instanceMethod yX2_counted, Cond.selects RX2 yX2_counted yX2_counted, Cond.code yX2_counted cX2_counted 4 (some .int), Cond.methodLink RX2 81 yX2_all, Cond.instanceMethod yX2_all, Cond.selects RX2 yX2_all yX2_all, Cond.code yX2_all cX2_all 4 (some .int), Cond.methodLink RX2 84 yX2_allPipes, Cond.instanceMethod yX2_allPipes, Cond.selects RX2 yX2_allPipes yX2_allPipes, Cond.code yX2_allPipes cX2_allPipes 4 (some .int), Cond.methodLink RL 102 yL_reach, Cond.static yL_reach, Cond.codeWith yL_reach cL_reach 4 (some .int) [(0, 9, 12, 21)], Cond.methodLink RL 46 yX1_reach, Cond.instanceMethod yX1_reach]
def wsL_law0_r13 : List Cond := [Cond.selects RX1 yX1_reach yX1_reach, Cond.code yX1_reach cX1_reach 2 (some .int), Cond.methodLink RX1 73 yX0_reachedFrom, Cond.instanceMethod yX0_reachedFrom, Cond.selects RX0 yX0_reachedFrom yX0_reachedFrom, Cond.code yX0_reachedFrom cX0_reachedFrom 6 (some .int), Cond.methodLink RL 104 yX2_reach, Cond.instanceMethod yX2_reach, Cond.selects RX2 yX2_reach yX2_reach, Cond.code yX2_reach cX2_reach 5 (some .int), Cond.methodLink RL 105 yX1_suspect, Cond.instanceMethod yX1_suspect, Cond.selects RX1 yX1_suspect yX1_suspect, Cond.code yX1_suspect cX1_suspect 5 (some .int), Cond.methodLink RL 108 yX2_suspect, Cond.instanceMethod yX2_suspect, Cond.selects RX2 yX2_suspect yX2_suspect, Cond.code yX2_suspect cX2_suspect 3 (some .int), Cond.methodLink RL 109 yL_pass, Cond.static yL_pass, Cond.codeWith yL_pass cL_pass 4 (some .int) [(0, 9, 12, 13)], Cond.methodLink RL 49 yX1_pass, Cond.instanceMethod yX1_pass, Cond.selects RX1 yX1_pass yX1_pass]
def wsL_law0_r14 : List Cond := [Cond.code yX1_pass cX1_pass 2 (some .int), Cond.methodLink RX1 80 yX0_drunkIn, Cond.instanceMethod yX0_drunkIn, Cond.selects RX0 yX0_drunkIn yX0_drunkIn, Cond.code yX0_drunkIn cX0_drunkIn 4 (some .int), Cond.methodLink RX0 66 yX0_goThroughDay, Cond.instanceMethod yX0_goThroughDay, Cond.selects RX0 yX0_goThroughDay yX0_goThroughDay, Cond.code yX0_goThroughDay cX0_goThroughDay 2 none, Cond.methodLink RX0 69 yX0_feed, Cond.static yX0_feed, Cond.code yX0_feed cX0_feed 1 none, Cond.methodLink RX0 83 yX0_takeInWater, Cond.static yX0_takeInWater, Cond.code yX0_takeInWater cX0_takeInWater 4 none, Cond.methodLink RX0 87 yX0_takeInMud, Cond.static yX0_takeInMud, Cond.code yX0_takeInMud cX0_takeInMud 2 none, Cond.methodLink RX0 73 yX0_flowThrough, Cond.instanceMethod yX0_flowThrough, Cond.selects RX0 yX0_flowThrough yX0_flowThrough, Cond.code yX0_flowThrough cX0_flowThrough 7 none, Cond.methodLink RX0 90 yX0_wanderMud, Cond.static yX0_wanderMud]
def wsL_law0_r15 : List Cond := [Cond.code yX0_wanderMud cX0_wanderMud 4 none, Cond.methodLink RX0 77 yX0_growCrusts, Cond.instanceMethod yX0_growCrusts, Cond.selects RX0 yX0_growCrusts yX0_growCrusts, Cond.code yX0_growCrusts cX0_growCrusts 3 none, Cond.methodLink RX0 80 yX0_drinkFrom, Cond.static yX0_drinkFrom, Cond.code yX0_drinkFrom cX0_drinkFrom 3 none, Cond.methodLink RL 111 yX2_pass, Cond.instanceMethod yX2_pass, Cond.selects RX2 yX2_pass yX2_pass, Cond.code yX2_pass cX2_pass 3 (some .int), Cond.methodLink RX2 100 yX2_daysOn, Cond.instanceMethod yX2_daysOn, Cond.selects RX2 yX2_daysOn yX2_daysOn, Cond.code yX2_daysOn cX2_daysOn 3 none, Cond.methodLink RX2 97 yX2_dayOn, Cond.instanceMethod yX2_dayOn, Cond.selects RX2 yX2_dayOn yX2_dayOn, Cond.code yX2_dayOn cX2_dayOn 4 none, Cond.methodLink RX2 90 yX2_pour, Cond.instanceMethod yX2_pour, Cond.selects RX2 yX2_pour yX2_pour, Cond.code yX2_pour cX2_pour 5 none]
def wsL_law0_r16 : List Cond := [Cond.methodLink RX2 93 yX2_flow, Cond.instanceMethod yX2_flow, Cond.selects RX2 yX2_flow yX2_flow, Cond.code yX2_flow cX2_flow 6 none, Cond.methodLink RL 112 yL_foresee, Cond.static yL_foresee, Cond.codeWith yL_foresee cL_foresee 5 (some .int) [(0, 10, 13, 13), (0, 10, 17, 21)], Cond.methodLink RL 52 yX1_foresee, Cond.instanceMethod yX1_foresee, Cond.selects RX1 yX1_foresee yX1_foresee, Cond.code yX1_foresee cX1_foresee 4 (some .int), Cond.methodLink RX1 83 yX0_copyFrom, Cond.instanceMethod yX0_copyFrom, Cond.selects RX0 yX0_copyFrom yX0_copyFrom, Cond.code yX0_copyFrom cX0_copyFrom 3 none, Cond.methodLink RX0 29 arraycopyName, Cond.methodLink RX1 87 yX0_sumOfPipes, Cond.methodLink RX1 90 yX0_sumOfTanks, Cond.methodLink RL 114 yX2_foresee, Cond.instanceMethod yX2_foresee, Cond.selects RX2 yX2_foresee yX2_foresee, Cond.code yX2_foresee cX2_foresee 7 (some .int), Cond.methodLink RX2 108 yX2_kept, Cond.instanceMethod yX2_kept]
def wsL_law0_r17 : List Cond := [Cond.selects RX2 yX2_kept yX2_kept, Cond.code yX2_kept cX2_kept 1 (some (.array (.array .int))), Cond.classLink RX2 103 "[I", Cond.methodLink RX2 104 ⟨"[I", "clone", "()Ljava/lang/Object;"⟩, Cond.sameMethod "[I" "java/lang/Object" "clone" "()Ljava/lang/Object;", Cond.native ⟨"java/lang/Object", "clone", "()Ljava/lang/Object;"⟩, Cond.instanceMethod ⟨"java/lang/Object", "clone", "()Ljava/lang/Object;"⟩, Cond.selects "[I" ⟨"[I", "clone", "()Ljava/lang/Object;"⟩ ⟨"java/lang/Object", "clone", "()Ljava/lang/Object;"⟩, Cond.methodLink RX2 112 yX2_bringBack, Cond.instanceMethod yX2_bringBack, Cond.selects RX2 yX2_bringBack yX2_bringBack, Cond.code yX2_bringBack cX2_bringBack 2 none, Cond.methodLink RL 115 yL_advise, Cond.static yL_advise, Cond.codeWith yL_advise cL_advise 4 (some .int) [(0, 9, 12, 13)], Cond.methodLink RL 55 yX1_advise, Cond.instanceMethod yX1_advise, Cond.selects RX1 yX1_advise yX1_advise, Cond.code yX1_advise cX1_advise 6 (some .int), Cond.methodLink RL 117 yX2_advise, Cond.instanceMethod yX2_advise, Cond.selects RX2 yX2_advise yX2_advise, Cond.code yX2_advise cX2_advise 7 (some .int), Cond.methodLink RL 118 yL_sated]
def wsL_law0_r18 : List Cond := [Cond.static yL_sated, Cond.codeWith yL_sated cL_sated 4 (some .int) [(0, 9, 12, 21)], Cond.methodLink RL 58 yX1_sated, Cond.instanceMethod yX1_sated, Cond.selects RX1 yX1_sated yX1_sated, Cond.code yX1_sated cX1_sated 3 (some .int), Cond.methodLink RX1 93 yX0_goThroughDay, Cond.methodLink RX1 96 yX0_isThirsty, Cond.methodLink RL 120 yX2_sated, Cond.instanceMethod yX2_sated, Cond.selects RX2 yX2_sated yX2_sated, Cond.code yX2_sated cX2_sated 5 (some .int), Cond.methodLink RL 121 yX1_mean, Cond.instanceMethod yX1_mean, Cond.selects RX1 yX1_mean yX1_mean, Cond.code yX1_mean cX1_mean 1 (some .double), Cond.fieldLink RX1 100 "AqueductTanks$Land" "day" "I", Cond.methodLink RL 125 yX2_mean, Cond.instanceMethod yX2_mean, Cond.selects RX2 yX2_mean yX2_mean, Cond.code yX2_mean cX2_mean 1 (some .double), Cond.methodLink RL 126 yX1_digest, Cond.instanceMethod yX1_digest, Cond.selects RX1 yX1_digest yX1_digest]
def wsL_law0_r19 : List Cond := [Cond.code yX1_digest cX1_digest 5 (some .long), Cond.constantLong RX1 103 (1031), Cond.constantLong RX1 105 (31), Cond.methodLink RL 130 yX2_digest, Cond.instanceMethod yX2_digest, Cond.selects RX2 yX2_digest yX2_digest, Cond.code yX2_digest cX2_digest 5 (some .long), Cond.constantLong RX2 116 (1031), Cond.constantLong RX2 118 (31)]
def wsL_law0 : List Cond := (wsL_law0_r1 ++ (wsL_law0_r2 ++ (wsL_law0_r3 ++ (wsL_law0_r4 ++ (wsL_law0_r5 ++ (wsL_law0_r6 ++ (wsL_law0_r7 ++ (wsL_law0_r8 ++ (wsL_law0_r9 ++ (wsL_law0_r10 ++ (wsL_law0_r11 ++ (wsL_law0_r12 ++ (wsL_law0_r13 ++ (wsL_law0_r14 ++ (wsL_law0_r15 ++ (wsL_law0_r16 ++ (wsL_law0_r17 ++ (wsL_law0_r18 ++ wsL_law0_r19)))))))))))))))))) ++ wsX10 ++ wsX20 ++ wsX00 ++ ([] : List Cond)
abbrev vwCl : List vw_C := [(RX0, TX0, 5), (RX1, TX1, 2), (RX2, TX2, 6)]
end
section
/-! PART 02: the world of this claim: n cells at ad 0 .. ad (n-1), what each holds by ct; a state 'a' is what At says of ct -/
abbrev QZ : Type := va_G × ClassId × ClassId × ClassId × Nat × (Nat → Nat)
abbrev zG (z : QZ) : va_G := z.1
abbrev zI (z : QZ) : ClassId := z.2.1
abbrev zR (z : QZ) : ClassId := z.2.2.1
abbrev zL (z : QZ) : ClassId := z.2.2.2.1
abbrev zn (z : QZ) : Nat := z.2.2.2.2.1
abbrev za (z : QZ) : Nat → Nat := z.2.2.2.2.2
abbrev zT (z : QZ) : List (ClassId × FieldType) := [(zI z, .int), (zR z, .array .int), (zL z, .long)]
abbrev eA : String := "java/lang/IllegalArgumentException"
abbrev eS : String := "java/lang/IllegalStateException"
abbrev eB : String := "java/lang/IndexOutOfBoundsException"
/-- what the tables say of the throws: the texts, and which class is caught as which -/
def QE (U : State) : Prop := (∃ a, vk_R RX1 112 "there is no such number" a U) ∧ (∃ a, vk_R RX1 117 "an argument is out of its range" a U) ∧ (∃ a, vk_R RX1 37 "no more tanks can be built" a U) ∧ (∃ a, vk_R RX1 50 "no more pipes can be laid" a U) ∧
  (va_Nw (.castable eA eA) U ∧ va_Nw (.castable eS eS) U ∧ va_Nw (.castable eB eB) U) ∧ va_Nc eA eB U ∧ va_Nc eS eB U ∧ va_Nc eS eA U ∧ va_Nc eB eA U
/-- what the tables say: of the classes, of arrays of arrays, of clones, of the throws -/
def QK (z : QZ) (U : State) : Prop := va_K (zG z) vwCl (zT z) U ∧ va_Nw (.arrayOver (.array .int)) U ∧ va_Nw (.castable "[I" "java/lang/Cloneable") U ∧ QE U
theorem qao_warm {u U : State} (hvm : u.vm.Alike U.vm) (h : va_Nw (.arrayOver (.array .int)) u) : va_Nw (.arrayOver (.array .int)) U := by
  obtain ⟨comp, c, k, h1, h2, h3, h4, h5⟩ := arrayOverA_spec h
  obtain ⟨k', hk', he⟩ := hvm.2.2 _ _ h3
  have hi : (U.vm.classes.findIdx? fun (x : Class) => match x.kind with | .array component _ => component == comp | _ => false) = some c := by
    rw [hvm.findIdx?_eq _ (fun _ => rfl)]
    exact h2
  have hkind : k'.kind = .array comp (.array .int) := by rw [he]; exact h4
  have f1 : U.vm.findClass (FieldType.array .int).toString = some comp := by rw [hvm.findClass]; exact h1
  have f2 : U.vm.findClass ("[" ++ (FieldType.array .int).toString) = some c := by rw [hvm.findClass]; exact h5
  unfold va_Nw Cond.before Cond.holds
  simp only [Cond.value]
  rw [f1, Option.bind_some]
  refine (congrArg (fun o : Option Nat => (o.bind (fun c => (U.vm.classes[c]?).map fun (k : Class) => match k.kind with | .array _ ty => decide (ty = FieldType.array .int) && decide (U.vm.findClass ("[" ++ (FieldType.array .int).toString) = some c) | _ => false) == some true)) hi).trans ?_
  simp [hk', hkind, f2]
theorem QE.warm {s U : State} (hW : s.WarmedH U.vm) (h : QE s) : QE U := by
  obtain ⟨⟨a, h1⟩, ⟨b, h2⟩, ⟨c, h3⟩, ⟨d, h4⟩, ⟨k1, k2, k3⟩, n1, n2, n3, n4⟩ := h
  exact ⟨⟨a, vk_R.warm hW h1⟩, ⟨b, vk_R.warm hW h2⟩, ⟨c, vk_R.warm hW h3⟩, ⟨d, vk_R.warm hW h4⟩, ⟨va_Nw.warmC hW k1, va_Nw.warmC hW k2, va_Nw.warmC hW k3⟩, va_Nc.moved hW.alike n1, va_Nc.moved hW.alike n2, va_Nc.moved hW.alike n3, va_Nc.moved hW.alike n4⟩
theorem QE.same {u U : State} (hv : U.vm = u.vm) (h : QE u) : QE U := by
  obtain ⟨⟨a, h1⟩, ⟨b, h2⟩, ⟨c, h3⟩, ⟨d, h4⟩, ⟨k1, k2, k3⟩, n1, n2, n3, n4⟩ := h
  have hA : u.vm.Alike U.vm := by rw [hv]; exact Vm.Alike.refl _
  exact ⟨⟨a, vk_R.same hv h1⟩, ⟨b, vk_R.same hv h2⟩, ⟨c, vk_R.same hv h3⟩, ⟨d, vk_R.same hv h4⟩, ⟨va_Nw.same rfl hv.symm k1, va_Nw.same rfl hv.symm k2, va_Nw.same rfl hv.symm k3⟩, va_Nc.moved hA n1, va_Nc.moved hA n2, va_Nc.moved hA n3, va_Nc.moved hA n4⟩
theorem QK.warm {z : QZ} {s U : State} (hW : s.WarmedH U.vm) (h : QK z s) : QK z U := ⟨va_K.moved hW.alike h.1, qao_warm hW.alike h.2.1, va_Nw.warmC hW h.2.2.1, h.2.2.2.warm hW⟩
theorem QK.same {z : QZ} {u U : State} (hv : U.vm = u.vm) (h : QK z u) : QK z U := by
  have hA : u.vm.Alike U.vm := by rw [hv]; exact Vm.Alike.refl _
  exact ⟨va_K.moved hA h.1, qao_warm hA h.2.1, va_Nw.same rfl hv.symm h.2.2.1, h.2.2.2.same hv⟩
def wd (n : Nat) (ad : Nat → Nat) (ct : Nat → va_E) : va_W := (List.range n).map (fun k => (ad k, ct k))
theorem wd_len {n : Nat} {ad : Nat → Nat} {ct : Nat → va_E} : (wd n ad ct).length = n := by simp [wd]
theorem wd_get {n : Nat} {ad : Nat → Nat} {ct : Nat → va_E} {k : Nat} (h : k < n) : (wd n ad ct)[k]? = some (ad k, ct k) := by
  simp [wd, List.getElem?_map, List.getElem?_range h]
theorem wd_of {n : Nat} {ad : Nat → Nat} {ct : Nat → va_E} {k : Nat} {q : Nat × va_E} (h : (wd n ad ct)[k]? = some q) : k < n ∧ q = (ad k, ct k) := by
  have hk : k < n := by
    have := (List.getElem?_eq_some_iff.mp h).1
    rwa [wd_len] at this
  rw [wd_get hk] at h
  exact ⟨hk, (Option.some.inj h).symm⟩
theorem wd_set {n : Nat} {ad : Nat → Nat} {ct : Nat → va_E} {k : Nat} {e : va_E} : (wd n ad ct).set k (ad k, e) = wd n ad (va_up ct k e) := by
  apply List.ext_getElem?
  intro j
  by_cases hj : j < n
  · rw [wd_get hj]
    by_cases hk : k = j
    · subst hk
      rw [List.getElem?_set_self (by rw [wd_len]; exact hj), va_up_self]
    · rw [List.getElem?_set_ne hk, wd_get hj, va_up_ne _ _ (fun h => hk h.symm)]
  · rw [List.getElem?_eq_none (by rw [List.length_set, wd_len]; omega), List.getElem?_eq_none (by rw [wd_len]; omega)]
def qA (n : Nat) (ad : Nat → Nat) (sz : Nat) : Nat → Prop := fun q => (∃ k, k < n ∧ ad k = q) ∨ sz ≤ q
def qI (n : Nat) (ad : Nat → Nat) : Prop := ∀ i j, i < n → j < n → ad i = ad j → i = j
theorem qA_new {n : Nat} {ad : Nat → Nat} {sz q : Nat} (h : sz ≤ q) : qA n ad sz q := Or.inr h
theorem qA_sub {n : Nat} {ad : Nat → Nat} {sz sz2 : Nat} (h : sz ≤ sz2) {q : Nat} (hq : qA n ad sz2 q) : qA n ad sz q := by
  rcases hq with hq | hq
  · exact Or.inl hq
  · exact Or.inr (Nat.le_trans h hq)
theorem wd_D {n : Nat} {ad : Nat → Nat} {ct : Nat → va_E} {A : Nat → Prop} (hq : qI n ad) (hA : ∀ k, k < n → A (ad k)) : va_D A (wd n ad ct) := by
  refine ⟨fun i j p q hi hj h => ?_, fun k q hk => ?_⟩
  · obtain ⟨h1, rfl⟩ := wd_of hi
    obtain ⟨h2, rfl⟩ := wd_of hj
    exact hq i j h1 h2 h
  · obtain ⟨h1, rfl⟩ := wd_of hk
    exact hA k h1
theorem wd_DA {n : Nat} {ad : Nat → Nat} {ct : Nat → va_E} {sz : Nat} (hq : qI n ad) : va_D (qA n ad sz) (wd n ad ct) := wd_D hq (fun k hk => Or.inl ⟨k, hk, rfl⟩)
def Fr (lo hi : Nat) (c0 ct : Nat → va_E) : Prop := ∀ k, ¬ (lo ≤ k ∧ k < hi) → ct k = c0 k
theorem Fr.rf {lo hi : Nat} {c0 : Nat → va_E} : Fr lo hi c0 c0 := fun _ _ => rfl
theorem Fr.trans {lo hi : Nat} {c0 c1 c2 : Nat → va_E} (h1 : Fr lo hi c0 c1) (h2 : Fr lo hi c1 c2) : Fr lo hi c0 c2 := fun k hk => (h2 k hk).trans (h1 k hk)
theorem Fr.wider {lo hi lo2 hi2 : Nat} {c0 c1 : Nat → va_E} (h : Fr lo hi c0 c1) (h1 : lo2 ≤ lo) (h2 : hi ≤ hi2) : Fr lo2 hi2 c0 c1 := fun k hk => h k (fun q => hk ⟨Nat.le_trans h1 q.1, Nat.lt_of_lt_of_le q.2 h2⟩)
theorem Fr.up {lo hi : Nat} {c0 ct : Nat → va_E} (h : Fr lo hi c0 ct) {k : Nat} {e : va_E} (hk : lo ≤ k ∧ k < hi) : Fr lo hi c0 (va_up ct k e) := fun j hj => by
  rw [va_up_ne _ _ (fun q => hj (by rw [q]; exact hk))]
  exact h j hj
/-- the state 'a' in the heap H; since H0 nothing outside the world changed, since c0 nothing outside [lo, hi) -/
def GW (z : QZ) {α : Type} (At : α → (Nat → va_E) → Prop) (lo hi : Nat) (H0 : Heap) (c0 : Nat → va_E) (a : α) (H : Heap) (locs : List Loc) : Prop :=
  ∃ ct, va_P (zG z) vwCl (wd (zn z) (za z) ct) H ∧ va_S (qA (zn z) (za z) H0.size) H0 H locs ∧ At a ct ∧ Fr lo hi c0 ct ∧ hi ≤ zn z ∧ qI (zn z) (za z)
def Cx (p : Program) (s : State) (m : MethodId) (args : Array Value) (meth : Method) (c : Code) (cc : ByteArray) (nL : Nat) (ret : Option FieldType) (own : String) (ws : List Cond) : Prop :=
  p.tables.exec = Jvm.exec ∧ c.code = cc ∧ meth.sig.returnType = ret ∧ c.maxLocals = nL ∧ s.vm.findClass own = some m.cls ∧ (∀ w ∈ ws, w.before args s = true) ∧ meth.locks = false
/-- what a method is given: the heap's size, the world, the classes -/
def QPre (z : QZ) (ct : Nat → va_E) (sz : Nat) : State → Prop := fun U => U.heap.size = sz ∧ va_P (zG z) vwCl (wd (zn z) (za z) ct) U.heap ∧ QK z U
/-- what it leaves -/
def QJ (z : QZ) {α : Type} (At : α → (Nat → va_E) → Prop) (lo hi : Nat) (c0 : Nat → va_E) : α → State → Prop := fun u t => ∃ ct, va_P (zG z) vwCl (wd (zn z) (za z) ct) t.heap ∧ QK z t ∧ At u ct ∧ Fr lo hi c0 ct
def GI (l : Launch) (y : MethodName) (ws : List Cond) (rm : Room) (z : QZ) (av : List Value) (mc ms : Nat) {α : Type} (At : α → (Nat → va_E) → Prop) (lo hi : Nat) (a : α) (post : Int32 → α → Prop) : Prop :=
  ∀ ct sz, hi ≤ zn z → qI (zn z) (za z) → At a ct → Met l y ws rm (va_Pc av (QPre z ct sz)) (va_Qi post (QJ z At lo hi ct) (qA (zn z) (za z) sz)) mc ms (qA (zn z) (za z) sz)
def GV (l : Launch) (y : MethodName) (ws : List Cond) (rm : Room) (z : QZ) (av : List Value) (mc ms : Nat) {α : Type} (At : α → (Nat → va_E) → Prop) (lo hi : Nat) (a : α) (post : α → Prop) : Prop :=
  ∀ ct sz, hi ≤ zn z → qI (zn z) (za z) → At a ct → Met l y ws rm (va_Pc av (QPre z ct sz)) (va_Qv post (QJ z At lo hi ct) (qA (zn z) (za z) sz)) mc ms (qA (zn z) (za z) sz)
def GL (l : Launch) (y : MethodName) (ws : List Cond) (rm : Room) (z : QZ) (av : List Value) (mc ms : Nat) {α : Type} (At : α → (Nat → va_E) → Prop) (lo hi : Nat) (a : α) (post : Int64 → α → Prop) : Prop :=
  ∀ ct sz, hi ≤ zn z → qI (zn z) (za z) → At a ct → Met l y ws rm (va_Pc av (QPre z ct sz)) (va_Ql post (QJ z At lo hi ct) (qA (zn z) (za z) sz)) mc ms (qA (zn z) (za z) sz)
def GD (l : Launch) (y : MethodName) (ws : List Cond) (rm : Room) (z : QZ) (av : List Value) (mc ms : Nat) {α : Type} (At : α → (Nat → va_E) → Prop) (lo hi : Nat) (a : α) (post : UInt64 → α → Prop) : Prop :=
  ∀ ct sz, hi ≤ zn z → qI (zn z) (za z) → At a ct → Met l y ws rm (va_Pc av (QPre z ct sz)) (va_Qd post (QJ z At lo hi ct) (qA (zn z) (za z) sz)) mc ms (qA (zn z) (za z) sz)
/-- the entry of a plain method -/
theorem q_entry {l : Launch} {y : MethodName} {ws ws' : List Cond} {rm : Room} {z : QZ} {av : List Value} {mc ms : Nat} {ct : Nat → va_E} {sz : Nat} {Qc : Array Value → State → Outcome → State → Prop} {free : Addr → Prop} {cc : ByteArray} {maxL : Nat} {ret : Option FieldType} {α : Type} {At : α → (Nat → va_E) → Prop} {lo hi : Nat} {a : α}
    (hy : plainName y.cls = true) (hw : ws = Cond.code y cc maxL ret :: ws') (hlen : (lg_sl av).length ≤ maxL) (hn : hi ≤ zn z) (hq : qI (zn z) (za z)) (hat : At a ct)
    (body : ∀ p e s m below meth c ls, Cx p s m av.toArray meth c cc maxL ret y.cls ws → QK z s → sz = s.heap.size → GW z At lo hi s.heap ct a s.heap [] → lv_has ls maxL (lv_args 0 av) →
      W p l e rm s m av.toArray below meth c s.heap [] 0 0 (MQ below Qc av.toArray s mc ms free) (F0 m 0 ls [])) : Met l y ws rm (va_Pc av (QPre z ct sz)) Qc mc ms free := by
  refine Met.ofW (cc := cc) (maxL := maxL) (ret := ret) hy hw ?_
  intro p e s m args below meth c s₁ B hml hv
  obtain ⟨rfl, hsz, hP, hK⟩ := hv
  have hl := lv_entry av (n := maxL) hlen
  rw [lg_entry_eq]
  exact body p e s m below meth c _ ⟨B.exec, B.bytes, B.returns, hml, findClass_of_methodNamed B.named, atoms_spec (ws := ws) B.pre, B.notSynchronized⟩ hK hsz.symm ⟨ct, hP, va_S.rf, hat, Fr.rf, hn, hq⟩ hl
section QR
variable {p : Program} {l : Launch} {e : Env} {R : Room} {s : State} {m : MethodId} {args : Array Value} {below : List Frame} {meth : Method} {c : Code} {H : Heap} {locs : List Loc} {cells slots : Nat} {Q : State → Prop}
variable {cc : ByteArray} {nL : Nat} {ret : Option FieldType} {own : String} {ws : List Cond} {pc : Nat} {ls : Array Slot} {rest : List Value} {z : QZ} {α : Type} {At : α → (Nat → va_E) → Prop} {lo hi : Nat} {c0 : Nat → va_E} {a : α}
theorem G_iald (C0 : Cx p s m args meth c cc nL ret own ws) (hK : QK z s) (h : GW z At lo hi s.heap c0 a H locs) {k len : Nat} {f : Nat → Int32} (hk : k < hi) (hc : ∀ ct, At a ct → ct k = .inl (zI z, len, .inl f)) {i : Int32} {j : Nat} (hij : i = nI j) (hj : j < len) (hlen : len < 2147483648) (hdg : decode cc pc = .ok (.iaload, 1))
    (kk : W p l e R s m args below meth c H locs cells slots Q (F0 m (pc + 1) ls (.int (f j) :: rest))) : W p l e R s m args below meth c H locs cells slots Q (F0 m pc ls (.int i :: .ref (za z k) :: rest)) := by
  obtain ⟨ct, hP, hS, hA, hF, hn, hq⟩ := h
  subst hij
  have e1 : (nI j).toNatClampNeg = j := nI_clamp (by omega)
  refine va_iald C0.1 C0.2.1 hK.1 hP k 0 ((wd_get (Nat.lt_of_lt_of_le hk hn)).trans (by rw [hc ct hA])) rfl (vp_in_nI hj (by omega)) hdg ?_
  rw [e1]; exact kk
theorem G_iast (C0 : Cx p s m args meth c cc nL ret own ws) (hK : QK z s) (h : GW z At lo hi s.heap c0 a H locs) {k len : Nat} {f : Nat → Int32} (hk : lo ≤ k ∧ k < hi) (hc : ∀ ct, At a ct → ct k = .inl (zI z, len, .inl f)) {i x : Int32} {j : Nat} (hij : i = nI j) (hj : j < len) (hlen : len < 2147483648) {a' : α} (hu : ∀ ct, At a ct → At a' (va_up ct k (.inl (zI z, len, .inl (upd f j x))))) (hdg : decode cc pc = .ok (.iastore, 1))
    (kk : ∀ (H1 : Heap) (locs1 : List Loc), GW z At lo hi s.heap c0 a' H1 locs1 → W p l e R s m args below meth c H1 locs1 cells slots Q (F0 m (pc + 1) ls rest)) : W p l e R s m args below meth c H locs cells slots Q (F0 m pc ls (.int x :: .int i :: .ref (za z k) :: rest)) := by
  obtain ⟨ct, hP, hS, hA, hF, hn, hq⟩ := h
  subst hij
  have e1 : (nI j).toNatClampNeg = j := nI_clamp (by omega)
  refine va_iast C0.1 C0.2.1 hK.1 hP (wd_DA hq) hS k 0 ((wd_get (Nat.lt_of_lt_of_le hk.2 hn)).trans (by rw [hc ct hA])) rfl (vp_in_nI hj (by omega)) hdg (fun H1 locs1 hP1 hD1 hS1 => kk H1 locs1 ⟨_, ?_, hS1, hu ct hA, hF.up hk, hn, hq⟩)
  rw [e1, wd_set] at hP1; exact hP1
theorem G_last (C0 : Cx p s m args meth c cc nL ret own ws) (hK : QK z s) (h : GW z At lo hi s.heap c0 a H locs) {k len : Nat} {f : Nat → Int64} (hk : lo ≤ k ∧ k < hi) (hc : ∀ ct, At a ct → ct k = .inl (zL z, len, .inr (.inl f))) {i : Int32} {x : Int64} {j : Nat} (hij : i = nI j) (hj : j < len) (hlen : len < 2147483648) {a' : α} (hu : ∀ ct, At a ct → At a' (va_up ct k (.inl (zL z, len, .inr (.inl (vp_updL f j x)))))) (hdg : decode cc pc = .ok (.lastore, 1))
    (kk : ∀ (H1 : Heap) (locs1 : List Loc), GW z At lo hi s.heap c0 a' H1 locs1 → W p l e R s m args below meth c H1 locs1 cells slots Q (F0 m (pc + 1) ls rest)) : W p l e R s m args below meth c H locs cells slots Q (F0 m pc ls (.long x :: .int i :: .ref (za z k) :: rest)) := by
  obtain ⟨ct, hP, hS, hA, hF, hn, hq⟩ := h
  subst hij
  have e1 : (nI j).toNatClampNeg = j := nI_clamp (by omega)
  refine va_last C0.1 C0.2.1 hK.1 hP (wd_DA hq) hS k 2 ((wd_get (Nat.lt_of_lt_of_le hk.2 hn)).trans (by rw [hc ct hA])) rfl (vp_in_nI hj (by omega)) hdg (fun H1 locs1 hP1 hD1 hS1 => kk H1 locs1 ⟨_, ?_, hS1, hu ct hA, hF.up hk, hn, hq⟩)
  rw [e1, wd_set] at hP1; exact hP1
theorem G_lald (C0 : Cx p s m args meth c cc nL ret own ws) (hK : QK z s) (h : GW z At lo hi s.heap c0 a H locs) {k len : Nat} {f : Nat → Int64} (hk : k < hi) (hc : ∀ ct, At a ct → ct k = .inl (zL z, len, .inr (.inl f))) {i : Int32} {j : Nat} (hij : i = nI j) (hj : j < len) (hlen : len < 2147483648) (hdg : decode cc pc = .ok (.laload, 1))
    (kk : W p l e R s m args below meth c H locs cells slots Q (F0 m (pc + 1) ls (.long (f j) :: rest))) : W p l e R s m args below meth c H locs cells slots Q (F0 m pc ls (.int i :: .ref (za z k) :: rest)) := by
  obtain ⟨ct, hP, hS, hA, hF, hn, hq⟩ := h
  subst hij
  have e1 : (nI j).toNatClampNeg = j := nI_clamp (by omega)
  refine va_lald C0.1 C0.2.1 hK.1 hP k 2 ((wd_get (Nat.lt_of_lt_of_le hk hn)).trans (by rw [hc ct hA])) rfl (vp_in_nI hj (by omega)) hdg ?_
  rw [e1]; exact kk
theorem G_aald (C0 : Cx p s m args meth c cc nL ret own ws) (hK : QK z s) (h : GW z At lo hi s.heap c0 a H locs) {k len r : Nat} {f : Nat → Option Nat} (hk : k < hi) (hc : ∀ ct, At a ct → ct k = .inl (zR z, len, .inr (.inr (.inr (.inr f))))) {i : Int32} {j : Nat} (hij : i = nI j) (hj : j < len) (hlen : len < 2147483648) (hr : f j = some r) (hdg : decode cc pc = .ok (.aaload, 1))
    (kk : W p l e R s m args below meth c H locs cells slots Q (F0 m (pc + 1) ls (.ref r :: rest))) : W p l e R s m args below meth c H locs cells slots Q (F0 m pc ls (.int i :: .ref (za z k) :: rest)) := by
  obtain ⟨ct, hP, hS, hA, hF, hn, hq⟩ := h
  subst hij
  have e1 : (nI j).toNatClampNeg = j := nI_clamp (by omega)
  have hv : vp_in (nI j) len := vp_in_nI hj (by omega)
  have hp := hP k _ ((wd_get (Nat.lt_of_lt_of_le hk hn)).trans (by rw [hc ct hA]))
  have hlt : (nI j).toNatClampNeg < len := by rw [e1]; exact hj
  refine W.aald (v := .ref r) (ty := .array .int) C0.1 C0.2.1 hp ((hK.1.2 1 _ rfl).1 len (fun j => va_rf (f j))) rfl (fun q => by cases q) (by show ¬ (nI j < 0 ∨ (arrV _ _ _).slots.size ≤ _); rw [arrV_size]; exact hv) (by show (arrV _ _ _).slots[_]? = _; rw [arrV_read _ _ hlt, e1, hr]; rfl) rfl rfl hdg kk
theorem G_alen (C0 : Cx p s m args meth c cc nL ret own ws) (hK : QK z s) (h : GW z At lo hi s.heap c0 a H locs) {k : Nat} {x : vp_A} (hk : k < hi) (hc : ∀ ct, At a ct → ct k = .inl (zI z, x)) (hdg : decode cc pc = .ok (.arraylength, 1))
    (kk : W p l e R s m args below meth c H locs cells slots Q (F0 m (pc + 1) ls (.int (nI x.1) :: rest))) : W p l e R s m args below meth c H locs cells slots Q (F0 m pc ls (.ref (za z k) :: rest)) := by
  obtain ⟨ct, hP, hS, hA, hF, hn, hq⟩ := h
  exact va_alen C0.1 C0.2.1 hK.1 hP k 0 ((wd_get (Nat.lt_of_lt_of_le hk hn)).trans (by rw [hc ct hA])) rfl rfl hdg kk
theorem G_get (C0 : Cx p s m args meth c cc nL ret own ws) (hK : QK z s) (h : GW z At lo hi s.heap c0 a H locs) {C : String} {T : u_T} {N : Nat} (hin : ∀ w ∈ u_ws C T N, w ∈ ws) (ci : Nat) (hcl : vwCl[ci]? = some (C, T, N)) {k : Nat} {fs : List Value} (hk : k < hi) (hc : ∀ ct, At a ct → ct k = .inr (ci, fs)) (j : Nat) (hj : j < N) {index : Nat} (hlink : Cond.fieldLink own index (T j).1 (T j).2.1 (T j).2.2.1 ∈ ws) {v : Value} (hv : fs[j]? = some v) (hdg : decode cc pc = .ok (.getfield index, 3))
    (kk : W p l e R s m args below meth c H locs cells slots Q (F0 m (pc + 3) ls (v :: rest))) : W p l e R s m args below meth c H locs cells slots Q (F0 m pc ls (.ref (za z k) :: rest)) := by
  obtain ⟨ct, hP, hS, hA, hF, hn, hq⟩ := h
  exact va_get C0.1 C0.2.1 C0.2.2.2.2.2.1 hin C0.2.2.2.2.1 hK.1 hP k ((wd_get (Nat.lt_of_lt_of_le hk hn)).trans (by rw [hc ct hA])) hcl j hj (C0.2.2.2.2.2.1 _ hlink) (fun _ h9 => h9) hv hdg kk
theorem G_put (C0 : Cx p s m args meth c cc nL ret own ws) (hK : QK z s) (h : GW z At lo hi s.heap c0 a H locs) {C : String} {T : u_T} {N : Nat} (hin : ∀ w ∈ u_ws C T N, w ∈ ws) (ci : Nat) (hcl : vwCl[ci]? = some (C, T, N)) (ty0 : Nat → FieldType) (hty : ∀ k, k < N → parseFieldDescriptor (T k).2.2.1 = some (ty0 k)) (hnm : ∀ a, a < N → ∀ b, b < N → a ≠ b → (T a).2.1 ≠ (T b).2.1) {k : Nat} {fs : List Value} (hk : lo ≤ k ∧ k < hi) (hc : ∀ ct, At a ct → ct k = .inr (ci, fs)) (j : Nat) (hj : j < N) {index : Nat} (hlink : Cond.fieldLink own index (T j).1 (T j).2.1 (T j).2.2.1 ∈ ws) (hfin : (T j).2.2.2 = false) {x : Int32} (hd : parseFieldDescriptor (T j).2.2.1 = some .int) (hl : j < fs.length) {a' : α} (hu : ∀ ct, At a ct → At a' (va_up ct k (.inr (ci, fs.set j (.int x))))) (hdg : decode cc pc = .ok (.putfield index, 3))
    (kk : ∀ (H1 : Heap) (locs1 : List Loc), GW z At lo hi s.heap c0 a' H1 locs1 → W p l e R s m args below meth c H1 locs1 cells slots Q (F0 m (pc + 3) ls rest)) : W p l e R s m args below meth c H locs cells slots Q (F0 m pc ls (.int x :: .ref (za z k) :: rest)) := by
  obtain ⟨ct, hP, hS, hA, hF, hn, hq⟩ := h
  refine va_put C0.1 C0.2.1 C0.2.2.2.2.2.1 hin ty0 hty hnm C0.2.2.2.2.1 hK.1 hP (wd_DA hq) hS k ((wd_get (Nat.lt_of_lt_of_le hk.2 hn)).trans (by rw [hc ct hA])) hcl j hj (C0.2.2.2.2.2.1 _ hlink) (fun _ h9 => h9) hfin hd rfl rfl hl hdg (fun H1 locs1 hP1 hD1 hS1 => kk H1 locs1 ⟨_, ?_, hS1, hu ct hA, hF.up hk, hn, hq⟩)
  rw [wd_set] at hP1; exact hP1
/-- ends -/
theorem G_iret (C0 : Cx p s m args meth c cc nL (some .int) own ws) (hK : QK z s) (h : GW z At lo hi s.heap c0 a H locs) {r : Int32} {post : Int32 → α → Prop} {mc ms : Nat} (hp : post r a) (h1 : cells ≤ mc) (h2 : slots ≤ ms) (hdg : decode cc pc = .ok (.ireturn, 1)) :
    W p l e R s m args below meth c H locs cells slots (MQ below (va_Qi post (QJ z At lo hi c0) (qA (zn z) (za z) s.heap.size)) args s mc ms (qA (zn z) (za z) s.heap.size)) (F0 m pc ls [.int r]) := by
  obtain ⟨ct, hP, hS, hA, hF, hn, hq⟩ := h
  refine W.widen (k := mc) (n := ms) h1 h2 ?_
  exact W.iret C0.1 C0.2.1 C0.2.2.1 (fun t ht hW => ⟨⟨r, a, rfl, hp, ct, by rw [ht]; exact hP, QK.warm hW hK, hA, hF⟩, hS.F ht⟩) hS.2.2 hdg C0.2.2.2.2.2.2
theorem G_zret (C0 : Cx p s m args meth c cc nL (some .boolean) own ws) (hK : QK z s) (h : GW z At lo hi s.heap c0 a H locs) {r : Int32} {post : Int32 → α → Prop} {mc ms : Nat} (hp : post r a) (hb : r = 0 ∨ r = 1) (h1 : cells ≤ mc) (h2 : slots ≤ ms) (hdg : decode cc pc = .ok (.ireturn, 1)) :
    W p l e R s m args below meth c H locs cells slots (MQ below (va_Qi post (QJ z At lo hi c0) (qA (zn z) (za z) s.heap.size)) args s mc ms (qA (zn z) (za z) s.heap.size)) (F0 m pc ls [.int r]) := by
  obtain ⟨ct, hP, hS, hA, hF, hn, hq⟩ := h
  refine W.widen (k := mc) (n := ms) h1 h2 ?_
  exact W.zret C0.1 C0.2.1 C0.2.2.1 (by rcases hb with rfl | rfl <;> rfl) (fun t ht hW => ⟨⟨r, a, rfl, hp, ct, by rw [ht]; exact hP, QK.warm hW hK, hA, hF⟩, hS.F ht⟩) hS.2.2 hdg C0.2.2.2.2.2.2
theorem G_lret (C0 : Cx p s m args meth c cc nL (some .long) own ws) (hK : QK z s) (h : GW z At lo hi s.heap c0 a H locs) {r : Int64} {post : Int64 → α → Prop} {mc ms : Nat} (hp : post r a) (h1 : cells ≤ mc) (h2 : slots ≤ ms) (hdg : decode cc pc = .ok (.lreturn, 1)) :
    W p l e R s m args below meth c H locs cells slots (MQ below (va_Ql post (QJ z At lo hi c0) (qA (zn z) (za z) s.heap.size)) args s mc ms (qA (zn z) (za z) s.heap.size)) (F0 m pc ls [.long r]) := by
  obtain ⟨ct, hP, hS, hA, hF, hn, hq⟩ := h
  refine W.widen (k := mc) (n := ms) h1 h2 ?_
  exact W.lret C0.1 C0.2.1 C0.2.2.1 (fun t ht hW => ⟨⟨r, a, rfl, hp, ct, by rw [ht]; exact hP, QK.warm hW hK, hA, hF⟩, hS.F ht⟩) hS.2.2 hdg C0.2.2.2.2.2.2
theorem G_dret (C0 : Cx p s m args meth c cc nL (some .double) own ws) (hK : QK z s) (h : GW z At lo hi s.heap c0 a H locs) {r : UInt64} {post : UInt64 → α → Prop} {mc ms : Nat} (hp : post r a) (h1 : cells ≤ mc) (h2 : slots ≤ ms) (hdg : decode cc pc = .ok (.dreturn, 1)) :
    W p l e R s m args below meth c H locs cells slots (MQ below (va_Qd post (QJ z At lo hi c0) (qA (zn z) (za z) s.heap.size)) args s mc ms (qA (zn z) (za z) s.heap.size)) (F0 m pc ls [.double r]) := by
  obtain ⟨ct, hP, hS, hA, hF, hn, hq⟩ := h
  refine W.widen (k := mc) (n := ms) h1 h2 ?_
  exact W.dret C0.1 C0.2.1 C0.2.2.1 (fun t ht hW => ⟨⟨r, a, rfl, hp, ct, by rw [ht]; exact hP, QK.warm hW hK, hA, hF⟩, hS.F ht⟩) hS.2.2 hdg C0.2.2.2.2.2.2
theorem G_vret (C0 : Cx p s m args meth c cc nL none own ws) (hK : QK z s) (h : GW z At lo hi s.heap c0 a H locs) {post : α → Prop} {mc ms : Nat} (hp : post a) (h1 : cells ≤ mc) (h2 : slots ≤ ms) (hdg : decode cc pc = .ok (.return_, 1)) :
    W p l e R s m args below meth c H locs cells slots (MQ below (va_Qv post (QJ z At lo hi c0) (qA (zn z) (za z) s.heap.size)) args s mc ms (qA (zn z) (za z) s.heap.size)) (F0 m pc ls []) := by
  obtain ⟨ct, hP, hS, hA, hF, hn, hq⟩ := h
  refine W.widen (k := mc) (n := ms) h1 h2 ?_
  exact W.vret C0.1 C0.2.1 C0.2.2.1 (fun t ht hW => ⟨⟨a, rfl, hp, ct, by rw [ht]; exact hP, QK.warm hW hK, hA, hF⟩, hS.F ht⟩) hS.2.2 hdg C0.2.2.2.2.2.2
/-- the state behind a call, and what a callee is given -/
theorem q_blind {z : QZ} {ct : Nat → va_E} {sz : Nat} {av : List Value} : FrameBlind (va_Pc av (QPre z ct sz)) := fun a U g mk q => by
  obtain ⟨q0, q1, qP, qK⟩ := q
  exact ⟨q0, q1, qP, QK.same rfl qK⟩
theorem q_given {z : QZ} {ct : Nat → va_E} {av : List Value} (hK : QK z s) (hP : va_P (zG z) vwCl (wd (zn z) (za z) ct) H) : ∀ U : State, U.heap = H → s.WarmedH U.vm → va_Pc av (QPre z ct H.size) av.toArray U :=
  fun U hU hW => ⟨rfl, by rw [hU], by rw [hU]; exact hP, QK.warm hW hK⟩
theorem q_recv {z : QZ} {ct : Nat → va_E} (hK : QK z s) (hP : va_P (zG z) vwCl (wd (zn z) (za z) ct) H) {k ci : Nat} {q : vw_C} {fs : List Value} (hk : k < zn z) (hc : ct k = .inr (ci, fs)) (hcl : vwCl[ci]? = some q) : ∃ cell : Cell, H[za z k]? = some cell ∧ cell.vm.isStatics = false ∧ s.vm.findClass q.1 = some cell.cls :=
  va_recv hK.1 hP hcl ((wd_get hk).trans (by rw [hc]))
end QR
end
section
/-! PART 03: calls, and the two systems' states -/
section QC
variable {p : Program} {l : Launch} {e : Env} {R : Room} {s : State} {m : MethodId} {args : Array Value} {below : List Frame} {meth : Method} {c : Code} {H : Heap} {locs : List Loc} {cells slots : Nat} {Q : State → Prop}
variable {cc : ByteArray} {nL : Nat} {ret : Option FieldType} {own : String} {ws : List Cond} {pc : Nat} {ls : Array Slot} {st0 rest : List Value} {z : QZ} {α β : Type} {At : α → (Nat → va_E) → Prop} {At2 : β → (Nat → va_E) → Prop} {lo hi lo2 hi2 : Nat} {c0 : Nat → va_E} {a : α} {b0 : β}
variable {y : MethodName} {bytes : ByteArray} {maxL mc ms n index : Nat} {ret2 : Option FieldType} {ws2 : List Cond} {rm : Room} {C : String} {As : List Value}
theorem G_callVi (C0 : Cx p s m args meth c cc nL ret own ws) (hK : QK z s) (h : GW z At lo hi s.heap c0 a H locs) {k ci : Nat} {q : vw_C} {fs : List Value} {post : Int32 → β → Prop} (hM : GI l y ws2 rm z (.ref (za z k) :: As) mc ms At2 lo2 hi2 b0 post) (hin : ∀ ct, At a ct → At2 b0 ct) (g : β → α) (hout : ∀ ct ct2 u, At a ct → At2 u ct2 → Fr lo2 hi2 ct ct2 → At (g u) ct2) (hlo : lo ≤ lo2) (hhi : hi2 ≤ hi)
    (cw : CallW R s args own C index y bytes maxL ret2 ws2 rm mc ms n) (hk : k < hi) (hc : ∀ ct, At a ct → ct k = .inr (ci, fs)) (hcl : vwCl[ci]? = some q) (hC : q.1 = C) (hlen : As.length = n) (hsz : ls.size = nL) (hst : st0 = As.reverse ++ .ref (za z k) :: rest) (hroom : (rest.map fun v => v.category).sum ≤ 8) (hf : cells + mc ≤ R.cells ∧ slots + ms ≤ R.slots) (hdg : decode cc pc = .ok (.invokevirtual index, 3))
    (kk : ∀ (r : Int32) (u : β) (H1 : Heap) (locs1 : List Loc), post r u → GW z At lo hi s.heap c0 (g u) H1 locs1 → W p l e R s m args below meth c H1 locs1 (cells + mc) (slots + ms) Q (F0 m (pc + 3) ls (.int r :: rest))) : W p l e R s m args below meth c H locs cells slots Q (F0 m pc ls st0) := by
  obtain ⟨ct, hP, hS, hA, hF, hn, hq⟩ := h
  refine va_calli (va_runV (As := As) (rest := rest) ⟨C0.1, C0.2.1, C0.2.2.2.1, C0.2.2.2.2.1, C0.2.2.2.2.2.1⟩ (hM ct H.size (Nat.le_trans hhi hn) hq (hin ct hA)) cw ⟨q_blind, by rw [← hC]; exact q_recv hK hP (Nat.lt_of_lt_of_le hk hn) (hc ct hA) hcl, q_given hK hP⟩ rfl hlen hsz hst (lv_room hroom) hdg hf) hS (fun q _ h => qA_sub hS.1 h) (fun q h => qA_sub hS.1 h) (fun r u t H1 locs1 ht hvm hp hB hz1 hk1 hS1 => ?_)
  obtain ⟨ct2, hP1, hK1, hA1, hF1⟩ := hB
  rw [ht] at hP1
  exact kk r u H1 locs1 hp ⟨ct2, hP1, hS1, hout ct ct2 u hA hA1 hF1, hF.trans (hF1.wider hlo hhi), hn, hq⟩
theorem S_callVi (C0 : Cx p s m args meth c cc nL ret own ws) (hK : QK z s) (h : GW z At lo hi s.heap c0 a H locs) {k ci : Nat} {q : vw_C} {fs : List Value} {post : Int32 → α → Prop} (hM : GI l y ws2 rm z (.ref (za z k) :: As) mc ms At lo hi a post)
    (cw : CallW R s args own C index y bytes maxL ret2 ws2 rm mc ms n) (hk : k < hi) (hc : ∀ ct, At a ct → ct k = .inr (ci, fs)) (hcl : vwCl[ci]? = some q) (hC : q.1 = C) (hlen : As.length = n) (hsz : ls.size = nL) (hst : st0 = As.reverse ++ .ref (za z k) :: rest) (hroom : (rest.map fun v => v.category).sum ≤ 8) (hf : cells + mc ≤ R.cells ∧ slots + ms ≤ R.slots) (hdg : decode cc pc = .ok (.invokevirtual index, 3))
    (kk : ∀ (r : Int32) (u : α) (H1 : Heap) (locs1 : List Loc), post r u → GW z At lo hi s.heap c0 u H1 locs1 → W p l e R s m args below meth c H1 locs1 (cells + mc) (slots + ms) Q (F0 m (pc + 3) ls (.int r :: rest))) : W p l e R s m args below meth c H locs cells slots Q (F0 m pc ls st0) :=
  G_callVi C0 hK h hM (fun _ h => h) (fun u => u) (fun _ _ _ _ h _ => h) (Nat.le_refl _) (Nat.le_refl _) cw hk hc hcl hC hlen hsz hst hroom hf hdg kk
theorem G_callSi (C0 : Cx p s m args meth c cc nL ret own ws) (hK : QK z s) (h : GW z At lo hi s.heap c0 a H locs) {post : Int32 → β → Prop} (hM : GI l y ws2 rm z As mc ms At2 lo2 hi2 b0 post) (hin : ∀ ct, At a ct → At2 b0 ct) (g : β → α) (hout : ∀ ct ct2 u, At a ct → At2 u ct2 → Fr lo2 hi2 ct ct2 → At (g u) ct2) (hlo : lo ≤ lo2) (hhi : hi2 ≤ hi)
    (cw : CallB R s args own index y bytes maxL ret2 ws2 rm mc ms n ∧ (Cond.static y).before args s = true) (hlen : As.length = n) (hsz : ls.size = nL) (hst : st0 = As.reverse ++ rest) (hroom : (rest.map fun v => v.category).sum ≤ 8) (hf : cells + mc ≤ R.cells ∧ slots + ms ≤ R.slots) (hdg : decode cc pc = .ok (.invokestatic index, 3))
    (kk : ∀ (r : Int32) (u : β) (H1 : Heap) (locs1 : List Loc), post r u → GW z At lo hi s.heap c0 (g u) H1 locs1 → W p l e R s m args below meth c H1 locs1 (cells + mc) (slots + ms) Q (F0 m (pc + 3) ls (.int r :: rest))) : W p l e R s m args below meth c H locs cells slots Q (F0 m pc ls st0) := by
  obtain ⟨ct, hP, hS, hA, hF, hn, hq⟩ := h
  refine va_calli (va_runS (As := As) (rest := rest) ⟨C0.1, C0.2.1, C0.2.2.2.1, C0.2.2.2.2.1, C0.2.2.2.2.2.1⟩ (hM ct H.size (Nat.le_trans hhi hn) hq (hin ct hA)) cw ⟨q_blind, q_given hK hP⟩ rfl hlen hsz hst (lv_room hroom) hdg hf) hS (fun q _ h => qA_sub hS.1 h) (fun q h => qA_sub hS.1 h) (fun r u t H1 locs1 ht hvm hp hB hz1 hk1 hS1 => ?_)
  obtain ⟨ct2, hP1, hK1, hA1, hF1⟩ := hB
  rw [ht] at hP1
  exact kk r u H1 locs1 hp ⟨ct2, hP1, hS1, hout ct ct2 u hA hA1 hF1, hF.trans (hF1.wider hlo hhi), hn, hq⟩
theorem S_callSi (C0 : Cx p s m args meth c cc nL ret own ws) (hK : QK z s) (h : GW z At lo hi s.heap c0 a H locs) {post : Int32 → α → Prop} (hM : GI l y ws2 rm z As mc ms At lo hi a post)
    (cw : CallB R s args own index y bytes maxL ret2 ws2 rm mc ms n ∧ (Cond.static y).before args s = true) (hlen : As.length = n) (hsz : ls.size = nL) (hst : st0 = As.reverse ++ rest) (hroom : (rest.map fun v => v.category).sum ≤ 8) (hf : cells + mc ≤ R.cells ∧ slots + ms ≤ R.slots) (hdg : decode cc pc = .ok (.invokestatic index, 3))
    (kk : ∀ (r : Int32) (u : α) (H1 : Heap) (locs1 : List Loc), post r u → GW z At lo hi s.heap c0 u H1 locs1 → W p l e R s m args below meth c H1 locs1 (cells + mc) (slots + ms) Q (F0 m (pc + 3) ls (.int r :: rest))) : W p l e R s m args below meth c H locs cells slots Q (F0 m pc ls st0) :=
  G_callSi C0 hK h hM (fun _ h => h) (fun u => u) (fun _ _ _ _ h _ => h) (Nat.le_refl _) (Nat.le_refl _) cw hlen hsz hst hroom hf hdg kk
theorem G_callVv (C0 : Cx p s m args meth c cc nL ret own ws) (hK : QK z s) (h : GW z At lo hi s.heap c0 a H locs) {k ci : Nat} {q : vw_C} {fs : List Value} {post : β → Prop} (hM : GV l y ws2 rm z (.ref (za z k) :: As) mc ms At2 lo2 hi2 b0 post) (hin : ∀ ct, At a ct → At2 b0 ct) (g : β → α) (hout : ∀ ct ct2 u, At a ct → At2 u ct2 → Fr lo2 hi2 ct ct2 → At (g u) ct2) (hlo : lo ≤ lo2) (hhi : hi2 ≤ hi)
    (cw : CallW R s args own C index y bytes maxL ret2 ws2 rm mc ms n) (hk : k < hi) (hc : ∀ ct, At a ct → ct k = .inr (ci, fs)) (hcl : vwCl[ci]? = some q) (hC : q.1 = C) (hlen : As.length = n) (hsz : ls.size = nL) (hst : st0 = As.reverse ++ .ref (za z k) :: rest) (hroom : (rest.map fun v => v.category).sum ≤ 8) (hf : cells + mc ≤ R.cells ∧ slots + ms ≤ R.slots) (hdg : decode cc pc = .ok (.invokevirtual index, 3))
    (kk : ∀ (u : β) (H1 : Heap) (locs1 : List Loc), post u → GW z At lo hi s.heap c0 (g u) H1 locs1 → W p l e R s m args below meth c H1 locs1 (cells + mc) (slots + ms) Q (F0 m (pc + 3) ls (rest))) : W p l e R s m args below meth c H locs cells slots Q (F0 m pc ls st0) := by
  obtain ⟨ct, hP, hS, hA, hF, hn, hq⟩ := h
  refine va_callv (va_runV (As := As) (rest := rest) ⟨C0.1, C0.2.1, C0.2.2.2.1, C0.2.2.2.2.1, C0.2.2.2.2.2.1⟩ (hM ct H.size (Nat.le_trans hhi hn) hq (hin ct hA)) cw ⟨q_blind, by rw [← hC]; exact q_recv hK hP (Nat.lt_of_lt_of_le hk hn) (hc ct hA) hcl, q_given hK hP⟩ rfl hlen hsz hst (lv_room hroom) hdg hf) hS (fun q _ h => qA_sub hS.1 h) (fun q h => qA_sub hS.1 h) (fun u t H1 locs1 ht hvm hp hB hz1 hk1 hS1 => ?_)
  obtain ⟨ct2, hP1, hK1, hA1, hF1⟩ := hB
  rw [ht] at hP1
  exact kk u H1 locs1 hp ⟨ct2, hP1, hS1, hout ct ct2 u hA hA1 hF1, hF.trans (hF1.wider hlo hhi), hn, hq⟩
theorem S_callVv (C0 : Cx p s m args meth c cc nL ret own ws) (hK : QK z s) (h : GW z At lo hi s.heap c0 a H locs) {k ci : Nat} {q : vw_C} {fs : List Value} {post : α → Prop} (hM : GV l y ws2 rm z (.ref (za z k) :: As) mc ms At lo hi a post)
    (cw : CallW R s args own C index y bytes maxL ret2 ws2 rm mc ms n) (hk : k < hi) (hc : ∀ ct, At a ct → ct k = .inr (ci, fs)) (hcl : vwCl[ci]? = some q) (hC : q.1 = C) (hlen : As.length = n) (hsz : ls.size = nL) (hst : st0 = As.reverse ++ .ref (za z k) :: rest) (hroom : (rest.map fun v => v.category).sum ≤ 8) (hf : cells + mc ≤ R.cells ∧ slots + ms ≤ R.slots) (hdg : decode cc pc = .ok (.invokevirtual index, 3))
    (kk : ∀ (u : α) (H1 : Heap) (locs1 : List Loc), post u → GW z At lo hi s.heap c0 u H1 locs1 → W p l e R s m args below meth c H1 locs1 (cells + mc) (slots + ms) Q (F0 m (pc + 3) ls (rest))) : W p l e R s m args below meth c H locs cells slots Q (F0 m pc ls st0) :=
  G_callVv C0 hK h hM (fun _ h => h) (fun u => u) (fun _ _ _ _ h _ => h) (Nat.le_refl _) (Nat.le_refl _) cw hk hc hcl hC hlen hsz hst hroom hf hdg kk
theorem G_callSv (C0 : Cx p s m args meth c cc nL ret own ws) (hK : QK z s) (h : GW z At lo hi s.heap c0 a H locs) {post : β → Prop} (hM : GV l y ws2 rm z As mc ms At2 lo2 hi2 b0 post) (hin : ∀ ct, At a ct → At2 b0 ct) (g : β → α) (hout : ∀ ct ct2 u, At a ct → At2 u ct2 → Fr lo2 hi2 ct ct2 → At (g u) ct2) (hlo : lo ≤ lo2) (hhi : hi2 ≤ hi)
    (cw : CallB R s args own index y bytes maxL ret2 ws2 rm mc ms n ∧ (Cond.static y).before args s = true) (hlen : As.length = n) (hsz : ls.size = nL) (hst : st0 = As.reverse ++ rest) (hroom : (rest.map fun v => v.category).sum ≤ 8) (hf : cells + mc ≤ R.cells ∧ slots + ms ≤ R.slots) (hdg : decode cc pc = .ok (.invokestatic index, 3))
    (kk : ∀ (u : β) (H1 : Heap) (locs1 : List Loc), post u → GW z At lo hi s.heap c0 (g u) H1 locs1 → W p l e R s m args below meth c H1 locs1 (cells + mc) (slots + ms) Q (F0 m (pc + 3) ls (rest))) : W p l e R s m args below meth c H locs cells slots Q (F0 m pc ls st0) := by
  obtain ⟨ct, hP, hS, hA, hF, hn, hq⟩ := h
  refine va_callv (va_runS (As := As) (rest := rest) ⟨C0.1, C0.2.1, C0.2.2.2.1, C0.2.2.2.2.1, C0.2.2.2.2.2.1⟩ (hM ct H.size (Nat.le_trans hhi hn) hq (hin ct hA)) cw ⟨q_blind, q_given hK hP⟩ rfl hlen hsz hst (lv_room hroom) hdg hf) hS (fun q _ h => qA_sub hS.1 h) (fun q h => qA_sub hS.1 h) (fun u t H1 locs1 ht hvm hp hB hz1 hk1 hS1 => ?_)
  obtain ⟨ct2, hP1, hK1, hA1, hF1⟩ := hB
  rw [ht] at hP1
  exact kk u H1 locs1 hp ⟨ct2, hP1, hS1, hout ct ct2 u hA hA1 hF1, hF.trans (hF1.wider hlo hhi), hn, hq⟩
theorem S_callSv (C0 : Cx p s m args meth c cc nL ret own ws) (hK : QK z s) (h : GW z At lo hi s.heap c0 a H locs) {post : α → Prop} (hM : GV l y ws2 rm z As mc ms At lo hi a post)
    (cw : CallB R s args own index y bytes maxL ret2 ws2 rm mc ms n ∧ (Cond.static y).before args s = true) (hlen : As.length = n) (hsz : ls.size = nL) (hst : st0 = As.reverse ++ rest) (hroom : (rest.map fun v => v.category).sum ≤ 8) (hf : cells + mc ≤ R.cells ∧ slots + ms ≤ R.slots) (hdg : decode cc pc = .ok (.invokestatic index, 3))
    (kk : ∀ (u : α) (H1 : Heap) (locs1 : List Loc), post u → GW z At lo hi s.heap c0 u H1 locs1 → W p l e R s m args below meth c H1 locs1 (cells + mc) (slots + ms) Q (F0 m (pc + 3) ls (rest))) : W p l e R s m args below meth c H locs cells slots Q (F0 m pc ls st0) :=
  G_callSv C0 hK h hM (fun _ h => h) (fun u => u) (fun _ _ _ _ h _ => h) (Nat.le_refl _) (Nat.le_refl _) cw hlen hsz hst hroom hf hdg kk
theorem G_callVl (C0 : Cx p s m args meth c cc nL ret own ws) (hK : QK z s) (h : GW z At lo hi s.heap c0 a H locs) {k ci : Nat} {q : vw_C} {fs : List Value} {post : Int64 → β → Prop} (hM : GL l y ws2 rm z (.ref (za z k) :: As) mc ms At2 lo2 hi2 b0 post) (hin : ∀ ct, At a ct → At2 b0 ct) (g : β → α) (hout : ∀ ct ct2 u, At a ct → At2 u ct2 → Fr lo2 hi2 ct ct2 → At (g u) ct2) (hlo : lo ≤ lo2) (hhi : hi2 ≤ hi)
    (cw : CallW R s args own C index y bytes maxL ret2 ws2 rm mc ms n) (hk : k < hi) (hc : ∀ ct, At a ct → ct k = .inr (ci, fs)) (hcl : vwCl[ci]? = some q) (hC : q.1 = C) (hlen : As.length = n) (hsz : ls.size = nL) (hst : st0 = As.reverse ++ .ref (za z k) :: rest) (hroom : (rest.map fun v => v.category).sum ≤ 8) (hf : cells + mc ≤ R.cells ∧ slots + ms ≤ R.slots) (hdg : decode cc pc = .ok (.invokevirtual index, 3))
    (kk : ∀ (r : Int64) (u : β) (H1 : Heap) (locs1 : List Loc), post r u → GW z At lo hi s.heap c0 (g u) H1 locs1 → W p l e R s m args below meth c H1 locs1 (cells + mc) (slots + ms) Q (F0 m (pc + 3) ls (.long r :: rest))) : W p l e R s m args below meth c H locs cells slots Q (F0 m pc ls st0) := by
  obtain ⟨ct, hP, hS, hA, hF, hn, hq⟩ := h
  refine va_calll (va_runV (As := As) (rest := rest) ⟨C0.1, C0.2.1, C0.2.2.2.1, C0.2.2.2.2.1, C0.2.2.2.2.2.1⟩ (hM ct H.size (Nat.le_trans hhi hn) hq (hin ct hA)) cw ⟨q_blind, by rw [← hC]; exact q_recv hK hP (Nat.lt_of_lt_of_le hk hn) (hc ct hA) hcl, q_given hK hP⟩ rfl hlen hsz hst (lv_room hroom) hdg hf) hS (fun q _ h => qA_sub hS.1 h) (fun q h => qA_sub hS.1 h) (fun r u t H1 locs1 ht hvm hp hB hz1 hk1 hS1 => ?_)
  obtain ⟨ct2, hP1, hK1, hA1, hF1⟩ := hB
  rw [ht] at hP1
  exact kk r u H1 locs1 hp ⟨ct2, hP1, hS1, hout ct ct2 u hA hA1 hF1, hF.trans (hF1.wider hlo hhi), hn, hq⟩
theorem S_callVl (C0 : Cx p s m args meth c cc nL ret own ws) (hK : QK z s) (h : GW z At lo hi s.heap c0 a H locs) {k ci : Nat} {q : vw_C} {fs : List Value} {post : Int64 → α → Prop} (hM : GL l y ws2 rm z (.ref (za z k) :: As) mc ms At lo hi a post)
    (cw : CallW R s args own C index y bytes maxL ret2 ws2 rm mc ms n) (hk : k < hi) (hc : ∀ ct, At a ct → ct k = .inr (ci, fs)) (hcl : vwCl[ci]? = some q) (hC : q.1 = C) (hlen : As.length = n) (hsz : ls.size = nL) (hst : st0 = As.reverse ++ .ref (za z k) :: rest) (hroom : (rest.map fun v => v.category).sum ≤ 8) (hf : cells + mc ≤ R.cells ∧ slots + ms ≤ R.slots) (hdg : decode cc pc = .ok (.invokevirtual index, 3))
    (kk : ∀ (r : Int64) (u : α) (H1 : Heap) (locs1 : List Loc), post r u → GW z At lo hi s.heap c0 u H1 locs1 → W p l e R s m args below meth c H1 locs1 (cells + mc) (slots + ms) Q (F0 m (pc + 3) ls (.long r :: rest))) : W p l e R s m args below meth c H locs cells slots Q (F0 m pc ls st0) :=
  G_callVl C0 hK h hM (fun _ h => h) (fun u => u) (fun _ _ _ _ h _ => h) (Nat.le_refl _) (Nat.le_refl _) cw hk hc hcl hC hlen hsz hst hroom hf hdg kk
theorem G_callSl (C0 : Cx p s m args meth c cc nL ret own ws) (hK : QK z s) (h : GW z At lo hi s.heap c0 a H locs) {post : Int64 → β → Prop} (hM : GL l y ws2 rm z As mc ms At2 lo2 hi2 b0 post) (hin : ∀ ct, At a ct → At2 b0 ct) (g : β → α) (hout : ∀ ct ct2 u, At a ct → At2 u ct2 → Fr lo2 hi2 ct ct2 → At (g u) ct2) (hlo : lo ≤ lo2) (hhi : hi2 ≤ hi)
    (cw : CallB R s args own index y bytes maxL ret2 ws2 rm mc ms n ∧ (Cond.static y).before args s = true) (hlen : As.length = n) (hsz : ls.size = nL) (hst : st0 = As.reverse ++ rest) (hroom : (rest.map fun v => v.category).sum ≤ 8) (hf : cells + mc ≤ R.cells ∧ slots + ms ≤ R.slots) (hdg : decode cc pc = .ok (.invokestatic index, 3))
    (kk : ∀ (r : Int64) (u : β) (H1 : Heap) (locs1 : List Loc), post r u → GW z At lo hi s.heap c0 (g u) H1 locs1 → W p l e R s m args below meth c H1 locs1 (cells + mc) (slots + ms) Q (F0 m (pc + 3) ls (.long r :: rest))) : W p l e R s m args below meth c H locs cells slots Q (F0 m pc ls st0) := by
  obtain ⟨ct, hP, hS, hA, hF, hn, hq⟩ := h
  refine va_calll (va_runS (As := As) (rest := rest) ⟨C0.1, C0.2.1, C0.2.2.2.1, C0.2.2.2.2.1, C0.2.2.2.2.2.1⟩ (hM ct H.size (Nat.le_trans hhi hn) hq (hin ct hA)) cw ⟨q_blind, q_given hK hP⟩ rfl hlen hsz hst (lv_room hroom) hdg hf) hS (fun q _ h => qA_sub hS.1 h) (fun q h => qA_sub hS.1 h) (fun r u t H1 locs1 ht hvm hp hB hz1 hk1 hS1 => ?_)
  obtain ⟨ct2, hP1, hK1, hA1, hF1⟩ := hB
  rw [ht] at hP1
  exact kk r u H1 locs1 hp ⟨ct2, hP1, hS1, hout ct ct2 u hA hA1 hF1, hF.trans (hF1.wider hlo hhi), hn, hq⟩
theorem S_callSl (C0 : Cx p s m args meth c cc nL ret own ws) (hK : QK z s) (h : GW z At lo hi s.heap c0 a H locs) {post : Int64 → α → Prop} (hM : GL l y ws2 rm z As mc ms At lo hi a post)
    (cw : CallB R s args own index y bytes maxL ret2 ws2 rm mc ms n ∧ (Cond.static y).before args s = true) (hlen : As.length = n) (hsz : ls.size = nL) (hst : st0 = As.reverse ++ rest) (hroom : (rest.map fun v => v.category).sum ≤ 8) (hf : cells + mc ≤ R.cells ∧ slots + ms ≤ R.slots) (hdg : decode cc pc = .ok (.invokestatic index, 3))
    (kk : ∀ (r : Int64) (u : α) (H1 : Heap) (locs1 : List Loc), post r u → GW z At lo hi s.heap c0 u H1 locs1 → W p l e R s m args below meth c H1 locs1 (cells + mc) (slots + ms) Q (F0 m (pc + 3) ls (.long r :: rest))) : W p l e R s m args below meth c H locs cells slots Q (F0 m pc ls st0) :=
  G_callSl C0 hK h hM (fun _ h => h) (fun u => u) (fun _ _ _ _ h _ => h) (Nat.le_refl _) (Nat.le_refl _) cw hlen hsz hst hroom hf hdg kk
theorem G_callVd (C0 : Cx p s m args meth c cc nL ret own ws) (hK : QK z s) (h : GW z At lo hi s.heap c0 a H locs) {k ci : Nat} {q : vw_C} {fs : List Value} {post : UInt64 → β → Prop} (hM : GD l y ws2 rm z (.ref (za z k) :: As) mc ms At2 lo2 hi2 b0 post) (hin : ∀ ct, At a ct → At2 b0 ct) (g : β → α) (hout : ∀ ct ct2 u, At a ct → At2 u ct2 → Fr lo2 hi2 ct ct2 → At (g u) ct2) (hlo : lo ≤ lo2) (hhi : hi2 ≤ hi)
    (cw : CallW R s args own C index y bytes maxL ret2 ws2 rm mc ms n) (hk : k < hi) (hc : ∀ ct, At a ct → ct k = .inr (ci, fs)) (hcl : vwCl[ci]? = some q) (hC : q.1 = C) (hlen : As.length = n) (hsz : ls.size = nL) (hst : st0 = As.reverse ++ .ref (za z k) :: rest) (hroom : (rest.map fun v => v.category).sum ≤ 8) (hf : cells + mc ≤ R.cells ∧ slots + ms ≤ R.slots) (hdg : decode cc pc = .ok (.invokevirtual index, 3))
    (kk : ∀ (r : UInt64) (u : β) (H1 : Heap) (locs1 : List Loc), post r u → GW z At lo hi s.heap c0 (g u) H1 locs1 → W p l e R s m args below meth c H1 locs1 (cells + mc) (slots + ms) Q (F0 m (pc + 3) ls (.double r :: rest))) : W p l e R s m args below meth c H locs cells slots Q (F0 m pc ls st0) := by
  obtain ⟨ct, hP, hS, hA, hF, hn, hq⟩ := h
  refine va_calld (va_runV (As := As) (rest := rest) ⟨C0.1, C0.2.1, C0.2.2.2.1, C0.2.2.2.2.1, C0.2.2.2.2.2.1⟩ (hM ct H.size (Nat.le_trans hhi hn) hq (hin ct hA)) cw ⟨q_blind, by rw [← hC]; exact q_recv hK hP (Nat.lt_of_lt_of_le hk hn) (hc ct hA) hcl, q_given hK hP⟩ rfl hlen hsz hst (lv_room hroom) hdg hf) hS (fun q _ h => qA_sub hS.1 h) (fun q h => qA_sub hS.1 h) (fun r u t H1 locs1 ht hvm hp hB hz1 hk1 hS1 => ?_)
  obtain ⟨ct2, hP1, hK1, hA1, hF1⟩ := hB
  rw [ht] at hP1
  exact kk r u H1 locs1 hp ⟨ct2, hP1, hS1, hout ct ct2 u hA hA1 hF1, hF.trans (hF1.wider hlo hhi), hn, hq⟩
theorem S_callVd (C0 : Cx p s m args meth c cc nL ret own ws) (hK : QK z s) (h : GW z At lo hi s.heap c0 a H locs) {k ci : Nat} {q : vw_C} {fs : List Value} {post : UInt64 → α → Prop} (hM : GD l y ws2 rm z (.ref (za z k) :: As) mc ms At lo hi a post)
    (cw : CallW R s args own C index y bytes maxL ret2 ws2 rm mc ms n) (hk : k < hi) (hc : ∀ ct, At a ct → ct k = .inr (ci, fs)) (hcl : vwCl[ci]? = some q) (hC : q.1 = C) (hlen : As.length = n) (hsz : ls.size = nL) (hst : st0 = As.reverse ++ .ref (za z k) :: rest) (hroom : (rest.map fun v => v.category).sum ≤ 8) (hf : cells + mc ≤ R.cells ∧ slots + ms ≤ R.slots) (hdg : decode cc pc = .ok (.invokevirtual index, 3))
    (kk : ∀ (r : UInt64) (u : α) (H1 : Heap) (locs1 : List Loc), post r u → GW z At lo hi s.heap c0 u H1 locs1 → W p l e R s m args below meth c H1 locs1 (cells + mc) (slots + ms) Q (F0 m (pc + 3) ls (.double r :: rest))) : W p l e R s m args below meth c H locs cells slots Q (F0 m pc ls st0) :=
  G_callVd C0 hK h hM (fun _ h => h) (fun u => u) (fun _ _ _ _ h _ => h) (Nat.le_refl _) (Nat.le_refl _) cw hk hc hcl hC hlen hsz hst hroom hf hdg kk
theorem G_callSd (C0 : Cx p s m args meth c cc nL ret own ws) (hK : QK z s) (h : GW z At lo hi s.heap c0 a H locs) {post : UInt64 → β → Prop} (hM : GD l y ws2 rm z As mc ms At2 lo2 hi2 b0 post) (hin : ∀ ct, At a ct → At2 b0 ct) (g : β → α) (hout : ∀ ct ct2 u, At a ct → At2 u ct2 → Fr lo2 hi2 ct ct2 → At (g u) ct2) (hlo : lo ≤ lo2) (hhi : hi2 ≤ hi)
    (cw : CallB R s args own index y bytes maxL ret2 ws2 rm mc ms n ∧ (Cond.static y).before args s = true) (hlen : As.length = n) (hsz : ls.size = nL) (hst : st0 = As.reverse ++ rest) (hroom : (rest.map fun v => v.category).sum ≤ 8) (hf : cells + mc ≤ R.cells ∧ slots + ms ≤ R.slots) (hdg : decode cc pc = .ok (.invokestatic index, 3))
    (kk : ∀ (r : UInt64) (u : β) (H1 : Heap) (locs1 : List Loc), post r u → GW z At lo hi s.heap c0 (g u) H1 locs1 → W p l e R s m args below meth c H1 locs1 (cells + mc) (slots + ms) Q (F0 m (pc + 3) ls (.double r :: rest))) : W p l e R s m args below meth c H locs cells slots Q (F0 m pc ls st0) := by
  obtain ⟨ct, hP, hS, hA, hF, hn, hq⟩ := h
  refine va_calld (va_runS (As := As) (rest := rest) ⟨C0.1, C0.2.1, C0.2.2.2.1, C0.2.2.2.2.1, C0.2.2.2.2.2.1⟩ (hM ct H.size (Nat.le_trans hhi hn) hq (hin ct hA)) cw ⟨q_blind, q_given hK hP⟩ rfl hlen hsz hst (lv_room hroom) hdg hf) hS (fun q _ h => qA_sub hS.1 h) (fun q h => qA_sub hS.1 h) (fun r u t H1 locs1 ht hvm hp hB hz1 hk1 hS1 => ?_)
  obtain ⟨ct2, hP1, hK1, hA1, hF1⟩ := hB
  rw [ht] at hP1
  exact kk r u H1 locs1 hp ⟨ct2, hP1, hS1, hout ct ct2 u hA hA1 hF1, hF.trans (hF1.wider hlo hhi), hn, hq⟩
theorem S_callSd (C0 : Cx p s m args meth c cc nL ret own ws) (hK : QK z s) (h : GW z At lo hi s.heap c0 a H locs) {post : UInt64 → α → Prop} (hM : GD l y ws2 rm z As mc ms At lo hi a post)
    (cw : CallB R s args own index y bytes maxL ret2 ws2 rm mc ms n ∧ (Cond.static y).before args s = true) (hlen : As.length = n) (hsz : ls.size = nL) (hst : st0 = As.reverse ++ rest) (hroom : (rest.map fun v => v.category).sum ≤ 8) (hf : cells + mc ≤ R.cells ∧ slots + ms ≤ R.slots) (hdg : decode cc pc = .ok (.invokestatic index, 3))
    (kk : ∀ (r : UInt64) (u : α) (H1 : Heap) (locs1 : List Loc), post r u → GW z At lo hi s.heap c0 u H1 locs1 → W p l e R s m args below meth c H1 locs1 (cells + mc) (slots + ms) Q (F0 m (pc + 3) ls (.double r :: rest))) : W p l e R s m args below meth c H locs cells slots Q (F0 m pc ls st0) :=
  G_callSd C0 hK h hM (fun _ h => h) (fun u => u) (fun _ _ _ _ h _ => h) (Nat.le_refl _) (Nat.le_refl _) cw hlen hsz hst hroom hf hdg kk
end QC
abbrev QLs : Type := (Nat → Nat → Int32) × (Nat → Nat → Int32) × Nat × Nat × Int32
abbrev qT (S : QLs) : Nat → Nat → Int32 := S.1
abbrev qP (S : QLs) : Nat → Nat → Int32 := S.2.1
abbrev qt (S : QLs) : Nat := S.2.2.1
abbrev qp (S : QLs) : Nat := S.2.2.2.1
abbrev qD (S : QLs) : Int32 := S.2.2.2.2
def sT (S : QLs) (i : Nat) (r : Nat → Int32) : QLs := (va_up S.1 i r, S.2)
def sP (S : QLs) (i : Nat) (r : Nat → Int32) : QLs := (S.1, va_up S.2.1 i r, S.2.2)
def st_ (S : QLs) (n : Nat) : QLs := (S.1, S.2.1, n, S.2.2.2)
def sp_ (S : QLs) (n : Nat) : QLs := (S.1, S.2.1, S.2.2.1, n, S.2.2.2.2)
def sD (S : QLs) (d : Int32) : QLs := (S.1, S.2.1, S.2.2.1, S.2.2.2.1, d)
/-- a land at the place B: the object, the two outer arrays, ten rows of tanks, fourteen of pipes -/
def LandAt (z : QZ) (B : Nat) (S : QLs) (ct : Nat → va_E) : Prop :=
  ct B = .inr (0, [.ref (za z (B + 1)), .ref (za z (B + 2)), .int (nI (qt S)), .int (nI (qp S)), .int (qD S)]) ∧
  ct (B + 1) = .inl (zR z, 10, .inr (.inr (.inr (.inr (fun i => if i < 10 then some (za z (B + (3 + i))) else none))))) ∧
  ct (B + 2) = .inl (zR z, 14, .inr (.inr (.inr (.inr (fun i => if i < 14 then some (za z (B + (13 + i))) else none))))) ∧
  (∀ i, i < 10 → ct (B + (3 + i)) = .inl (zI z, 8, .inl (qT S i))) ∧ (∀ i, i < 14 → ct (B + (13 + i)) = .inl (zI z, 10, .inl (qP S i)))
theorem LandAt.off {z : QZ} {B : Nat} {S : QLs} {ct ct2 : Nat → va_E} (h : LandAt z B S ct) (hk : ∀ k, B ≤ k → k < B + 27 → ct2 k = ct k) : LandAt z B S ct2 := by
  obtain ⟨h1, h2, h3, h4, h5⟩ := h
  refine ⟨?_, ?_, ?_, fun i hi => ?_, fun i hi => ?_⟩
  · rw [hk _ (by omega) (by omega)]; exact h1
  · rw [hk _ (by omega) (by omega)]; exact h2
  · rw [hk _ (by omega) (by omega)]; exact h3
  · rw [hk _ (by omega) (by omega)]; exact h4 i hi
  · rw [hk _ (by omega) (by omega)]; exact h5 i hi
theorem LandAt.setT {z : QZ} {B : Nat} {S : QLs} {ct : Nat → va_E} (h : LandAt z B S ct) {i : Nat} (hi : i < 10) (r : Nat → Int32) : LandAt z B (sT S i r) (va_up ct (B + (3 + i)) (.inl (zI z, 8, .inl r))) := by
  obtain ⟨h1, h2, h3, h4, h5⟩ := h
  refine ⟨?_, ?_, ?_, fun j hj => ?_, fun j hj => ?_⟩
  · rw [va_up_ne _ _ (by omega)]; exact h1
  · rw [va_up_ne _ _ (by omega)]; exact h2
  · rw [va_up_ne _ _ (by omega)]; exact h3
  · by_cases e : j = i
    · subst e
      rw [va_up_self]; simp [sT, qT, va_up_self]
    · rw [va_up_ne _ _ (by omega), h4 j hj]; simp [sT, qT, va_up_ne _ _ e]
  · rw [va_up_ne _ _ (by omega)]; exact h5 j hj
theorem LandAt.setP {z : QZ} {B : Nat} {S : QLs} {ct : Nat → va_E} (h : LandAt z B S ct) {i : Nat} (hi : i < 14) (r : Nat → Int32) : LandAt z B (sP S i r) (va_up ct (B + (13 + i)) (.inl (zI z, 10, .inl r))) := by
  obtain ⟨h1, h2, h3, h4, h5⟩ := h
  refine ⟨?_, ?_, ?_, fun j hj => ?_, fun j hj => ?_⟩
  · rw [va_up_ne _ _ (by omega)]; exact h1
  · rw [va_up_ne _ _ (by omega)]; exact h2
  · rw [va_up_ne _ _ (by omega)]; exact h3
  · rw [va_up_ne _ _ (by omega)]; exact h4 j hj
  · by_cases e : j = i
    · subst e
      rw [va_up_self]; simp [sP, qP, va_up_self]
    · rw [va_up_ne _ _ (by omega), h5 j hj]; simp [sP, qP, va_up_ne _ _ e]
theorem LandAt.setO {z : QZ} {B : Nat} {S S2 : QLs} {ct : Nat → va_E} (h : LandAt z B S ct) (hT : qT S2 = qT S) (hP : qP S2 = qP S) : LandAt z B S2 (va_up ct B (.inr (0, [.ref (za z (B + 1)), .ref (za z (B + 2)), .int (nI (qt S2)), .int (nI (qp S2)), .int (qD S2)]))) := by
  obtain ⟨h1, h2, h3, h4, h5⟩ := h
  refine ⟨va_up_self _ _ _, ?_, ?_, fun j hj => ?_, fun j hj => ?_⟩
  · rw [va_up_ne _ _ (by omega)]; exact h2
  · rw [va_up_ne _ _ (by omega)]; exact h3
  · rw [va_up_ne _ _ (by omega), hT]; exact h4 j hj
  · rw [va_up_ne _ _ (by omega), hP]; exact h5 j hj
/-- the class: its object, and two lands -/
def XAt (z : QZ) (σ : Nat → QLs) (ct : Nat → va_E) : Prop := ct 0 = .inr (1, [.ref (za z (1 + 27 * 0)), .ref (za z (1 + 27 * 1))]) ∧ ∀ b, b < 2 → LandAt z (1 + 27 * b) (σ b) ct
theorem XAt.up {z : QZ} {σ : Nat → QLs} {ct : Nat → va_E} (h : XAt z σ ct) {b k : Nat} {e : va_E} {S : QLs} (hb : b < 2) (hk : 1 + 27 * b ≤ k ∧ k < 1 + 27 * b + 27) (hl : LandAt z (1 + 27 * b) S (va_up ct k e)) : XAt z (va_up σ b S) (va_up ct k e) := by
  refine ⟨by rw [va_up_ne _ _ (by omega)]; exact h.1, fun b2 hb2 => ?_⟩
  by_cases e2 : b2 = b
  · subst e2; rw [va_up_self]; exact hl
  · rw [va_up_ne _ _ e2]
    exact (h.2 b2 hb2).off (fun k2 h1 h2 => va_up_ne _ _ (by omega))
theorem XAt.T {z : QZ} {σ : Nat → QLs} {ct : Nat → va_E} (h : XAt z σ ct) {b i : Nat} (hb : b < 2) (hi : i < 10) (r : Nat → Int32) : XAt z (va_up σ b (sT (σ b) i r)) (va_up ct (1 + 27 * b + (3 + i)) (.inl (zI z, 8, .inl r))) := h.up hb (by omega) ((h.2 b hb).setT hi r)
theorem XAt.P {z : QZ} {σ : Nat → QLs} {ct : Nat → va_E} (h : XAt z σ ct) {b i : Nat} (hb : b < 2) (hi : i < 14) (r : Nat → Int32) : XAt z (va_up σ b (sP (σ b) i r)) (va_up ct (1 + 27 * b + (13 + i)) (.inl (zI z, 10, .inl r))) := h.up hb (by omega) ((h.2 b hb).setP hi r)
theorem XAt.O {z : QZ} {σ : Nat → QLs} {ct : Nat → va_E} (h : XAt z σ ct) {b : Nat} {S2 : QLs} (hb : b < 2) (hT : qT S2 = qT (σ b)) (hP : qP S2 = qP (σ b)) : XAt z (va_up σ b S2) (va_up ct (1 + 27 * b) (.inr (0, [.ref (za z (1 + 27 * b + 1)), .ref (za z (1 + 27 * b + 2)), .int (nI (qt S2)), .int (nI (qp S2)), .int (qD S2)]))) := h.up hb (by omega) ((h.2 b hb).setO hT hP)
/-- the reference: its object, tanks, pipes, the day -/
abbrev QMs : Type := Int32 × Nat × Nat × (Nat → Int32) × (Nat → Int32) × (Nat → Int32)
abbrev mH (M : QMs) : Int32 := M.1
abbrev mt_ (M : QMs) : Nat := M.2.1
abbrev mp_ (M : QMs) : Nat := M.2.2.1
abbrev mA (M : QMs) : Nat → Int32 := M.2.2.2.1
abbrev mB (M : QMs) : Nat → Int32 := M.2.2.2.2.1
abbrev mY (M : QMs) : Nat → Int32 := M.2.2.2.2.2
def uh (M : QMs) (x : Int32) : QMs := (x, M.2)
def ut (M : QMs) (n : Nat) : QMs := (M.1, n, M.2.2)
def up_ (M : QMs) (n : Nat) : QMs := (M.1, M.2.1, n, M.2.2.2)
def uA (M : QMs) (f : Nat → Int32) : QMs := (M.1, M.2.1, M.2.2.1, f, M.2.2.2.2)
def uB (M : QMs) (f : Nat → Int32) : QMs := (M.1, M.2.1, M.2.2.1, M.2.2.2.1, f, M.2.2.2.2.2)
def uY (M : QMs) (f : Nat → Int32) : QMs := (M.1, M.2.1, M.2.2.1, M.2.2.2.1, M.2.2.2.2.1, f)
abbrev mO (z : QZ) (M : QMs) : va_E := .inr (2, [.int (mH M), .int (nI (mt_ M)), .int (nI (mp_ M)), .ref (za z 56), .ref (za z 57), .ref (za z 58)])
def MAt (z : QZ) (M : QMs) (ct : Nat → va_E) : Prop := ct 55 = mO z M ∧ ct 56 = .inl (zI z, 80, .inl (mA M)) ∧ ct 57 = .inl (zI z, 126, .inl (mB M)) ∧ ct 58 = .inl (zI z, 1, .inl (mY M))
theorem MAt.off {z : QZ} {M : QMs} {ct ct2 : Nat → va_E} (h : MAt z M ct) (hk : ∀ k, 55 ≤ k → k < 59 → ct2 k = ct k) : MAt z M ct2 := by
  obtain ⟨h1, h2, h3, h4⟩ := h
  exact ⟨by rw [hk _ (by omega) (by omega)]; exact h1, by rw [hk _ (by omega) (by omega)]; exact h2, by rw [hk _ (by omega) (by omega)]; exact h3, by rw [hk _ (by omega) (by omega)]; exact h4⟩
theorem MAt.A {z : QZ} {M : QMs} {ct : Nat → va_E} (h : MAt z M ct) (f : Nat → Int32) : MAt z (uA M f) (va_up ct 56 (.inl (zI z, 80, .inl f))) := ⟨by rw [va_up_ne _ _ (by omega)]; exact h.1, va_up_self _ _ _, by rw [va_up_ne _ _ (by omega)]; exact h.2.2.1, by rw [va_up_ne _ _ (by omega)]; exact h.2.2.2⟩
theorem MAt.B {z : QZ} {M : QMs} {ct : Nat → va_E} (h : MAt z M ct) (f : Nat → Int32) : MAt z (uB M f) (va_up ct 57 (.inl (zI z, 126, .inl f))) := ⟨by rw [va_up_ne _ _ (by omega)]; exact h.1, by rw [va_up_ne _ _ (by omega)]; exact h.2.1, va_up_self _ _ _, by rw [va_up_ne _ _ (by omega)]; exact h.2.2.2⟩
theorem MAt.Y {z : QZ} {M : QMs} {ct : Nat → va_E} (h : MAt z M ct) (f : Nat → Int32) : MAt z (uY M f) (va_up ct 58 (.inl (zI z, 1, .inl f))) := ⟨by rw [va_up_ne _ _ (by omega)]; exact h.1, by rw [va_up_ne _ _ (by omega)]; exact h.2.1, by rw [va_up_ne _ _ (by omega)]; exact h.2.2.1, va_up_self _ _ _⟩
theorem MAt.h {z : QZ} {M : QMs} {ct : Nat → va_E} (h : MAt z M ct) (x : Int32) : MAt z (uh M x) (va_up ct 55 (mO z (uh M x))) := ⟨va_up_self _ _ _, by rw [va_up_ne _ _ (by omega)]; exact h.2.1, by rw [va_up_ne _ _ (by omega)]; exact h.2.2.1, by rw [va_up_ne _ _ (by omega)]; exact h.2.2.2⟩
theorem MAt.t {z : QZ} {M : QMs} {ct : Nat → va_E} (h : MAt z M ct) (n : Nat) : MAt z (ut M n) (va_up ct 55 (mO z (ut M n))) := ⟨va_up_self _ _ _, by rw [va_up_ne _ _ (by omega)]; exact h.2.1, by rw [va_up_ne _ _ (by omega)]; exact h.2.2.1, by rw [va_up_ne _ _ (by omega)]; exact h.2.2.2⟩
theorem MAt.p {z : QZ} {M : QMs} {ct : Nat → va_E} (h : MAt z M ct) (n : Nat) : MAt z (up_ M n) (va_up ct 55 (mO z (up_ M n))) := ⟨va_up_self _ _ _, by rw [va_up_ne _ _ (by omega)]; exact h.2.1, by rw [va_up_ne _ _ (by omega)]; exact h.2.2.1, by rw [va_up_ne _ _ (by omega)]; exact h.2.2.2⟩
section QX
variable {p : Program} {l : Launch} {e : Env} {R : Room} {s : State} {m : MethodId} {args : Array Value} {below : List Frame} {meth : Method} {c : Code} {H : Heap} {locs : List Loc} {cells slots : Nat} {Q : State → Prop}
variable {cc : ByteArray} {nL : Nat} {ret : Option FieldType} {own : String} {ws : List Cond} {pc : Nat} {ls : Array Slot} {rest : List Value} {z : QZ} {c0 : Nat → va_E} {σ : Nat → QLs} {M : QMs}
theorem X_ldT (C0 : Cx p s m args meth c cc nL ret own ws) (hK : QK z s) (h : GW z (XAt z) 0 55 s.heap c0 σ H locs) {b i k : Nat} (hb : b < 2) (hi : i < 10) {x : Int32} (hx : x = nI k) (hk : k < 8) (hdg : decode cc pc = .ok (.iaload, 1)) (kk : W p l e R s m args below meth c H locs cells slots Q (F0 m (pc + 1) ls (.int (qT (σ b) i k) :: rest))) : W p l e R s m args below meth c H locs cells slots Q (F0 m pc ls (.int x :: .ref (za z (1 + 27 * b + (3 + i))) :: rest)) :=
  G_iald C0 hK h (by omega) (fun ct hA => (hA.2 b hb).2.2.2.1 i hi) hx hk (by omega) hdg kk
theorem X_stT (C0 : Cx p s m args meth c cc nL ret own ws) (hK : QK z s) (h : GW z (XAt z) 0 55 s.heap c0 σ H locs) {b i k : Nat} (hb : b < 2) (hi : i < 10) {x v : Int32} (hx : x = nI k) (hk : k < 8) (hdg : decode cc pc = .ok (.iastore, 1)) (kk : ∀ (H1 : Heap) (locs1 : List Loc), GW z (XAt z) 0 55 s.heap c0 (va_up σ b (sT (σ b) i (upd (qT (σ b) i) k v))) H1 locs1 → W p l e R s m args below meth c H1 locs1 cells slots Q (F0 m (pc + 1) ls rest)) : W p l e R s m args below meth c H locs cells slots Q (F0 m pc ls (.int v :: .int x :: .ref (za z (1 + 27 * b + (3 + i))) :: rest)) :=
  G_iast C0 hK h (by omega) (fun ct hA => (hA.2 b hb).2.2.2.1 i hi) hx hk (by omega) (fun ct hA => hA.T hb hi _) hdg kk
theorem X_aT (C0 : Cx p s m args meth c cc nL ret own ws) (hK : QK z s) (h : GW z (XAt z) 0 55 s.heap c0 σ H locs) {b i : Nat} (hb : b < 2) {x : Int32} (hx : x = nI i) (hi : i < 10) (hdg : decode cc pc = .ok (.aaload, 1)) (kk : W p l e R s m args below meth c H locs cells slots Q (F0 m (pc + 1) ls (.ref (za z (1 + 27 * b + (3 + i))) :: rest))) : W p l e R s m args below meth c H locs cells slots Q (F0 m pc ls (.int x :: .ref (za z (1 + 27 * b + 1)) :: rest)) :=
  G_aald C0 hK h (by omega) (fun ct hA => (hA.2 b hb).2.1) hx hi (by omega) (if_pos hi) hdg kk
theorem X_ldP (C0 : Cx p s m args meth c cc nL ret own ws) (hK : QK z s) (h : GW z (XAt z) 0 55 s.heap c0 σ H locs) {b i k : Nat} (hb : b < 2) (hi : i < 14) {x : Int32} (hx : x = nI k) (hk : k < 10) (hdg : decode cc pc = .ok (.iaload, 1)) (kk : W p l e R s m args below meth c H locs cells slots Q (F0 m (pc + 1) ls (.int (qP (σ b) i k) :: rest))) : W p l e R s m args below meth c H locs cells slots Q (F0 m pc ls (.int x :: .ref (za z (1 + 27 * b + (13 + i))) :: rest)) :=
  G_iald C0 hK h (by omega) (fun ct hA => (hA.2 b hb).2.2.2.2 i hi) hx hk (by omega) hdg kk
theorem X_stP (C0 : Cx p s m args meth c cc nL ret own ws) (hK : QK z s) (h : GW z (XAt z) 0 55 s.heap c0 σ H locs) {b i k : Nat} (hb : b < 2) (hi : i < 14) {x v : Int32} (hx : x = nI k) (hk : k < 10) (hdg : decode cc pc = .ok (.iastore, 1)) (kk : ∀ (H1 : Heap) (locs1 : List Loc), GW z (XAt z) 0 55 s.heap c0 (va_up σ b (sP (σ b) i (upd (qP (σ b) i) k v))) H1 locs1 → W p l e R s m args below meth c H1 locs1 cells slots Q (F0 m (pc + 1) ls rest)) : W p l e R s m args below meth c H locs cells slots Q (F0 m pc ls (.int v :: .int x :: .ref (za z (1 + 27 * b + (13 + i))) :: rest)) :=
  G_iast C0 hK h (by omega) (fun ct hA => (hA.2 b hb).2.2.2.2 i hi) hx hk (by omega) (fun ct hA => hA.P hb hi _) hdg kk
theorem X_aP (C0 : Cx p s m args meth c cc nL ret own ws) (hK : QK z s) (h : GW z (XAt z) 0 55 s.heap c0 σ H locs) {b i : Nat} (hb : b < 2) {x : Int32} (hx : x = nI i) (hi : i < 14) (hdg : decode cc pc = .ok (.aaload, 1)) (kk : W p l e R s m args below meth c H locs cells slots Q (F0 m (pc + 1) ls (.ref (za z (1 + 27 * b + (13 + i))) :: rest))) : W p l e R s m args below meth c H locs cells slots Q (F0 m pc ls (.int x :: .ref (za z (1 + 27 * b + 2)) :: rest)) :=
  G_aald C0 hK h (by omega) (fun ct hA => (hA.2 b hb).2.2.1) hx hi (by omega) (if_pos hi) hdg kk
theorem X_gL (C0 : Cx p s m args meth c cc nL ret own ws) (hK : QK z s) (h : GW z (XAt z) 0 55 s.heap c0 σ H locs) {b : Nat} (hb : b < 2) (hin : ∀ w ∈ u_ws RX0 TX0 5, w ∈ ws) (j : Nat) (hj : j < 5) {index : Nat} (hlink : Cond.fieldLink own index (TX0 j).1 (TX0 j).2.1 (TX0 j).2.2.1 ∈ ws) {v : Value} (hv : [Value.ref (za z (1 + 27 * b + 1)), .ref (za z (1 + 27 * b + 2)), .int (nI (qt (σ b))), .int (nI (qp (σ b))), .int (qD (σ b))][j]? = some v) (hdg : decode cc pc = .ok (.getfield index, 3)) (kk : W p l e R s m args below meth c H locs cells slots Q (F0 m (pc + 3) ls (v :: rest))) : W p l e R s m args below meth c H locs cells slots Q (F0 m pc ls (.ref (za z (1 + 27 * b)) :: rest)) :=
  G_get C0 hK h hin 0 rfl (by omega) (fun ct hA => (hA.2 b hb).1) j hj hlink hv hdg kk
theorem X_gO (C0 : Cx p s m args meth c cc nL ret own ws) (hK : QK z s) (h : GW z (XAt z) 0 55 s.heap c0 σ H locs) (hin : ∀ w ∈ u_ws RX1 TX1 2, w ∈ ws) (j : Nat) (hj : j < 2) {index : Nat} (hlink : Cond.fieldLink own index (TX1 j).1 (TX1 j).2.1 (TX1 j).2.2.1 ∈ ws) (hdg : decode cc pc = .ok (.getfield index, 3)) (kk : W p l e R s m args below meth c H locs cells slots Q (F0 m (pc + 3) ls (.ref (za z (1 + 27 * j)) :: rest))) : W p l e R s m args below meth c H locs cells slots Q (F0 m pc ls (.ref (za z 0) :: rest)) :=
  G_get C0 hK h hin 1 rfl (by omega) (fun ct hA => hA.1) j hj hlink (by rcases (show j = 0 ∨ j = 1 by omega) with rfl | rfl <;> rfl) hdg kk
theorem X_pt (C0 : Cx p s m args meth c cc nL ret own ws) (hK : QK z s) (h : GW z (XAt z) 0 55 s.heap c0 σ H locs) {b : Nat} (hb : b < 2) (hin : ∀ w ∈ u_ws RX0 TX0 5, w ∈ ws) {index : Nat} (hlink : Cond.fieldLink own index (TX0 2).1 (TX0 2).2.1 (TX0 2).2.2.1 ∈ ws) {x : Int32} {n : Nat} (hx : x = nI n) (hdg : decode cc pc = .ok (.putfield index, 3)) (kk : ∀ (H1 : Heap) (locs1 : List Loc), GW z (XAt z) 0 55 s.heap c0 (va_up σ b (st_ (σ b) n)) H1 locs1 → W p l e R s m args below meth c H1 locs1 cells slots Q (F0 m (pc + 3) ls rest)) : W p l e R s m args below meth c H locs cells slots Q (F0 m pc ls (.int x :: .ref (za z (1 + 27 * b)) :: rest)) := by
  subst hx
  exact G_put C0 hK h hin 0 rfl tyX0 tyX0_ok nmX0 (by omega) (fun ct hA => (hA.2 b hb).1) 2 (by omega) hlink rfl rfl (show 2 < 5 by omega) (fun ct hA => hA.O (S2 := st_ (σ b) n) hb rfl rfl) hdg kk
theorem X_pp (C0 : Cx p s m args meth c cc nL ret own ws) (hK : QK z s) (h : GW z (XAt z) 0 55 s.heap c0 σ H locs) {b : Nat} (hb : b < 2) (hin : ∀ w ∈ u_ws RX0 TX0 5, w ∈ ws) {index : Nat} (hlink : Cond.fieldLink own index (TX0 3).1 (TX0 3).2.1 (TX0 3).2.2.1 ∈ ws) {x : Int32} {n : Nat} (hx : x = nI n) (hdg : decode cc pc = .ok (.putfield index, 3)) (kk : ∀ (H1 : Heap) (locs1 : List Loc), GW z (XAt z) 0 55 s.heap c0 (va_up σ b (sp_ (σ b) n)) H1 locs1 → W p l e R s m args below meth c H1 locs1 cells slots Q (F0 m (pc + 3) ls rest)) : W p l e R s m args below meth c H locs cells slots Q (F0 m pc ls (.int x :: .ref (za z (1 + 27 * b)) :: rest)) := by
  subst hx
  exact G_put C0 hK h hin 0 rfl tyX0 tyX0_ok nmX0 (by omega) (fun ct hA => (hA.2 b hb).1) 3 (by omega) hlink rfl rfl (show 3 < 5 by omega) (fun ct hA => hA.O (S2 := sp_ (σ b) n) hb rfl rfl) hdg kk
theorem X_pd (C0 : Cx p s m args meth c cc nL ret own ws) (hK : QK z s) (h : GW z (XAt z) 0 55 s.heap c0 σ H locs) {b : Nat} (hb : b < 2) (hin : ∀ w ∈ u_ws RX0 TX0 5, w ∈ ws) {index : Nat} (hlink : Cond.fieldLink own index (TX0 4).1 (TX0 4).2.1 (TX0 4).2.2.1 ∈ ws) {x : Int32} (hdg : decode cc pc = .ok (.putfield index, 3)) (kk : ∀ (H1 : Heap) (locs1 : List Loc), GW z (XAt z) 0 55 s.heap c0 (va_up σ b (sD (σ b) x)) H1 locs1 → W p l e R s m args below meth c H1 locs1 cells slots Q (F0 m (pc + 3) ls rest)) : W p l e R s m args below meth c H locs cells slots Q (F0 m pc ls (.int x :: .ref (za z (1 + 27 * b)) :: rest)) := by
  exact G_put C0 hK h hin 0 rfl tyX0 tyX0_ok nmX0 (by omega) (fun ct hA => (hA.2 b hb).1) 4 (by omega) hlink rfl rfl (show 4 < 5 by omega) (fun ct hA => hA.O (S2 := sD (σ b) x) hb rfl rfl) hdg kk
theorem M_ldA (C0 : Cx p s m args meth c cc nL ret own ws) (hK : QK z s) (h : GW z (MAt z) 55 59 s.heap c0 M H locs) {k : Nat} {x : Int32} (hx : x = nI k) (hk : k < 80) (hdg : decode cc pc = .ok (.iaload, 1)) (kk : W p l e R s m args below meth c H locs cells slots Q (F0 m (pc + 1) ls (.int (mA M k) :: rest))) : W p l e R s m args below meth c H locs cells slots Q (F0 m pc ls (.int x :: .ref (za z 56) :: rest)) :=
  G_iald C0 hK h (by omega) (fun ct hA => hA.2.1) hx hk (by omega) hdg kk
theorem M_stA (C0 : Cx p s m args meth c cc nL ret own ws) (hK : QK z s) (h : GW z (MAt z) 55 59 s.heap c0 M H locs) {k : Nat} {x v : Int32} (hx : x = nI k) (hk : k < 80) (hdg : decode cc pc = .ok (.iastore, 1)) (kk : ∀ (H1 : Heap) (locs1 : List Loc), GW z (MAt z) 55 59 s.heap c0 (uA M (upd (mA M) k v)) H1 locs1 → W p l e R s m args below meth c H1 locs1 cells slots Q (F0 m (pc + 1) ls rest)) : W p l e R s m args below meth c H locs cells slots Q (F0 m pc ls (.int v :: .int x :: .ref (za z 56) :: rest)) :=
  G_iast C0 hK h (by omega) (fun ct hA => hA.2.1) hx hk (by omega) (fun ct hA => hA.A _) hdg kk
theorem M_ldB (C0 : Cx p s m args meth c cc nL ret own ws) (hK : QK z s) (h : GW z (MAt z) 55 59 s.heap c0 M H locs) {k : Nat} {x : Int32} (hx : x = nI k) (hk : k < 126) (hdg : decode cc pc = .ok (.iaload, 1)) (kk : W p l e R s m args below meth c H locs cells slots Q (F0 m (pc + 1) ls (.int (mB M k) :: rest))) : W p l e R s m args below meth c H locs cells slots Q (F0 m pc ls (.int x :: .ref (za z 57) :: rest)) :=
  G_iald C0 hK h (by omega) (fun ct hA => hA.2.2.1) hx hk (by omega) hdg kk
theorem M_stB (C0 : Cx p s m args meth c cc nL ret own ws) (hK : QK z s) (h : GW z (MAt z) 55 59 s.heap c0 M H locs) {k : Nat} {x v : Int32} (hx : x = nI k) (hk : k < 126) (hdg : decode cc pc = .ok (.iastore, 1)) (kk : ∀ (H1 : Heap) (locs1 : List Loc), GW z (MAt z) 55 59 s.heap c0 (uB M (upd (mB M) k v)) H1 locs1 → W p l e R s m args below meth c H1 locs1 cells slots Q (F0 m (pc + 1) ls rest)) : W p l e R s m args below meth c H locs cells slots Q (F0 m pc ls (.int v :: .int x :: .ref (za z 57) :: rest)) :=
  G_iast C0 hK h (by omega) (fun ct hA => hA.2.2.1) hx hk (by omega) (fun ct hA => hA.B _) hdg kk
theorem M_ldY (C0 : Cx p s m args meth c cc nL ret own ws) (hK : QK z s) (h : GW z (MAt z) 55 59 s.heap c0 M H locs) {k : Nat} {x : Int32} (hx : x = nI k) (hk : k < 1) (hdg : decode cc pc = .ok (.iaload, 1)) (kk : W p l e R s m args below meth c H locs cells slots Q (F0 m (pc + 1) ls (.int (mY M k) :: rest))) : W p l e R s m args below meth c H locs cells slots Q (F0 m pc ls (.int x :: .ref (za z 58) :: rest)) :=
  G_iald C0 hK h (by omega) (fun ct hA => hA.2.2.2) hx hk (by omega) hdg kk
theorem M_stY (C0 : Cx p s m args meth c cc nL ret own ws) (hK : QK z s) (h : GW z (MAt z) 55 59 s.heap c0 M H locs) {k : Nat} {x v : Int32} (hx : x = nI k) (hk : k < 1) (hdg : decode cc pc = .ok (.iastore, 1)) (kk : ∀ (H1 : Heap) (locs1 : List Loc), GW z (MAt z) 55 59 s.heap c0 (uY M (upd (mY M) k v)) H1 locs1 → W p l e R s m args below meth c H1 locs1 cells slots Q (F0 m (pc + 1) ls rest)) : W p l e R s m args below meth c H locs cells slots Q (F0 m pc ls (.int v :: .int x :: .ref (za z 58) :: rest)) :=
  G_iast C0 hK h (by omega) (fun ct hA => hA.2.2.2) hx hk (by omega) (fun ct hA => hA.Y _) hdg kk
theorem M_g (C0 : Cx p s m args meth c cc nL ret own ws) (hK : QK z s) (h : GW z (MAt z) 55 59 s.heap c0 M H locs) (hin : ∀ w ∈ u_ws RX2 TX2 6, w ∈ ws) (j : Nat) (hj : j < 6) {index : Nat} (hlink : Cond.fieldLink own index (TX2 j).1 (TX2 j).2.1 (TX2 j).2.2.1 ∈ ws) {v : Value} (hv : [Value.int (mH M), .int (nI (mt_ M)), .int (nI (mp_ M)), .ref (za z 56), .ref (za z 57), .ref (za z 58)][j]? = some v) (hdg : decode cc pc = .ok (.getfield index, 3)) (kk : W p l e R s m args below meth c H locs cells slots Q (F0 m (pc + 3) ls (v :: rest))) : W p l e R s m args below meth c H locs cells slots Q (F0 m pc ls (.ref (za z 55) :: rest)) :=
  G_get C0 hK h hin 2 rfl (by omega) (fun ct hA => hA.1) j hj hlink hv hdg kk
theorem M_ph (C0 : Cx p s m args meth c cc nL ret own ws) (hK : QK z s) (h : GW z (MAt z) 55 59 s.heap c0 M H locs) (hin : ∀ w ∈ u_ws RX2 TX2 6, w ∈ ws) {index : Nat} (hlink : Cond.fieldLink own index (TX2 0).1 (TX2 0).2.1 (TX2 0).2.2.1 ∈ ws) {x : Int32} (hdg : decode cc pc = .ok (.putfield index, 3)) (kk : ∀ (H1 : Heap) (locs1 : List Loc), GW z (MAt z) 55 59 s.heap c0 (uh M x) H1 locs1 → W p l e R s m args below meth c H1 locs1 cells slots Q (F0 m (pc + 3) ls rest)) : W p l e R s m args below meth c H locs cells slots Q (F0 m pc ls (.int x :: .ref (za z 55) :: rest)) := by
  exact G_put C0 hK h hin 2 rfl tyX2 tyX2_ok nmX2 (by omega) (fun ct hA => hA.1) 0 (by omega) hlink rfl rfl (show 0 < 6 by omega) (fun ct hA => hA.h _) hdg kk
theorem M_pt (C0 : Cx p s m args meth c cc nL ret own ws) (hK : QK z s) (h : GW z (MAt z) 55 59 s.heap c0 M H locs) (hin : ∀ w ∈ u_ws RX2 TX2 6, w ∈ ws) {index : Nat} (hlink : Cond.fieldLink own index (TX2 1).1 (TX2 1).2.1 (TX2 1).2.2.1 ∈ ws) {x : Int32} {n : Nat} (hx : x = nI n) (hdg : decode cc pc = .ok (.putfield index, 3)) (kk : ∀ (H1 : Heap) (locs1 : List Loc), GW z (MAt z) 55 59 s.heap c0 (ut M n) H1 locs1 → W p l e R s m args below meth c H1 locs1 cells slots Q (F0 m (pc + 3) ls rest)) : W p l e R s m args below meth c H locs cells slots Q (F0 m pc ls (.int x :: .ref (za z 55) :: rest)) := by
  subst hx
  exact G_put C0 hK h hin 2 rfl tyX2 tyX2_ok nmX2 (by omega) (fun ct hA => hA.1) 1 (by omega) hlink rfl rfl (show 1 < 6 by omega) (fun ct hA => hA.t _) hdg kk
theorem M_pp (C0 : Cx p s m args meth c cc nL ret own ws) (hK : QK z s) (h : GW z (MAt z) 55 59 s.heap c0 M H locs) (hin : ∀ w ∈ u_ws RX2 TX2 6, w ∈ ws) {index : Nat} (hlink : Cond.fieldLink own index (TX2 2).1 (TX2 2).2.1 (TX2 2).2.2.1 ∈ ws) {x : Int32} {n : Nat} (hx : x = nI n) (hdg : decode cc pc = .ok (.putfield index, 3)) (kk : ∀ (H1 : Heap) (locs1 : List Loc), GW z (MAt z) 55 59 s.heap c0 (up_ M n) H1 locs1 → W p l e R s m args below meth c H1 locs1 cells slots Q (F0 m (pc + 3) ls rest)) : W p l e R s m args below meth c H locs cells slots Q (F0 m pc ls (.int x :: .ref (za z 55) :: rest)) := by
  subst hx
  exact G_put C0 hK h hin 2 rfl tyX2 tyX2_ok nmX2 (by omega) (fun ct hA => hA.1) 2 (by omega) hlink rfl rfl (show 2 < 6 by omega) (fun ct hA => hA.p _) hdg kk
end QX
end
section
theorem dX0_init_0 : decode cX0_init 0 = .ok (.aload_n 0, 1) := by decide +kernel
theorem dX0_init_1 : decode cX0_init 1 = .ok (.invokespecial 3, 3) := by decide +kernel
theorem dX0_init_4 : decode cX0_init 4 = .ok (.aload_n 0, 1) := by decide +kernel
theorem dX0_init_5 : decode cX0_init 5 = .ok (.bipush 10, 2) := by decide +kernel
theorem dX0_init_7 : decode cX0_init 7 = .ok (.bipush 8, 2) := by decide +kernel
theorem dX0_init_9 : decode cX0_init 9 = .ok (.multianewarray 11 2, 4) := by decide +kernel
theorem dX0_init_13 : decode cX0_init 13 = .ok (.putfield 13, 3) := by decide +kernel
theorem dX0_init_16 : decode cX0_init 16 = .ok (.aload_n 0, 1) := by decide +kernel
theorem dX0_init_17 : decode cX0_init 17 = .ok (.bipush 14, 2) := by decide +kernel
theorem dX0_init_19 : decode cX0_init 19 = .ok (.bipush 10, 2) := by decide +kernel
theorem dX0_init_21 : decode cX0_init 21 = .ok (.multianewarray 11 2, 4) := by decide +kernel
theorem dX0_init_25 : decode cX0_init 25 = .ok (.putfield 16, 3) := by decide +kernel
theorem dX0_init_28 : decode cX0_init 28 = .ok (.return_, 1) := by decide +kernel
theorem dX0_addTank_0 : decode cX0_addTank 0 = .ok (.aload_n 0, 1) := by decide +kernel
theorem dX0_addTank_1 : decode cX0_addTank 1 = .ok (.getfield 19, 3) := by decide +kernel
theorem dX0_addTank_4 : decode cX0_addTank 4 = .ok (.bipush 10, 2) := by decide +kernel
theorem dX0_addTank_6 : decode cX0_addTank 6 = .ok (.if_icmp .lt 5, 3) := by decide +kernel
theorem dX0_addTank_9 : decode cX0_addTank 9 = .ok (.iconst (-1), 1) := by decide +kernel
theorem dX0_addTank_10 : decode cX0_addTank 10 = .ok (.ireturn, 1) := by decide +kernel
theorem dX0_addTank_11 : decode cX0_addTank 11 = .ok (.aload_n 0, 1) := by decide +kernel
theorem dX0_addTank_12 : decode cX0_addTank 12 = .ok (.getfield 13, 3) := by decide +kernel
theorem dX0_addTank_15 : decode cX0_addTank 15 = .ok (.aload_n 0, 1) := by decide +kernel
theorem dX0_addTank_16 : decode cX0_addTank 16 = .ok (.getfield 19, 3) := by decide +kernel
theorem dX0_addTank_19 : decode cX0_addTank 19 = .ok (.aaload, 1) := by decide +kernel
theorem dX0_addTank_20 : decode cX0_addTank 20 = .ok (.astore 4, 2) := by decide +kernel
theorem dX0_addTank_22 : decode cX0_addTank 22 = .ok (.aload 4, 2) := by decide +kernel
theorem dX0_addTank_24 : decode cX0_addTank 24 = .ok (.iconst 0, 1) := by decide +kernel
theorem dX0_addTank_25 : decode cX0_addTank 25 = .ok (.iload_n 1, 1) := by decide +kernel
theorem dX0_addTank_26 : decode cX0_addTank 26 = .ok (.iastore, 1) := by decide +kernel
theorem dX0_addTank_27 : decode cX0_addTank 27 = .ok (.aload 4, 2) := by decide +kernel
theorem dX0_addTank_29 : decode cX0_addTank 29 = .ok (.iconst 1, 1) := by decide +kernel
theorem dX0_addTank_30 : decode cX0_addTank 30 = .ok (.iload_n 2, 1) := by decide +kernel
theorem dX0_addTank_31 : decode cX0_addTank 31 = .ok (.iastore, 1) := by decide +kernel
theorem dX0_addTank_32 : decode cX0_addTank 32 = .ok (.aload 4, 2) := by decide +kernel
theorem dX0_addTank_34 : decode cX0_addTank 34 = .ok (.iconst 2, 1) := by decide +kernel
theorem dX0_addTank_35 : decode cX0_addTank 35 = .ok (.iload_n 3, 1) := by decide +kernel
theorem dX0_addTank_36 : decode cX0_addTank 36 = .ok (.iastore, 1) := by decide +kernel
theorem dX0_addTank_37 : decode cX0_addTank 37 = .ok (.aload_n 0, 1) := by decide +kernel
theorem dX0_addTank_38 : decode cX0_addTank 38 = .ok (.dup, 1) := by decide +kernel
theorem dX0_addTank_39 : decode cX0_addTank 39 = .ok (.getfield 19, 3) := by decide +kernel
theorem dX0_addTank_42 : decode cX0_addTank 42 = .ok (.iconst 1, 1) := by decide +kernel
theorem dX0_addTank_43 : decode cX0_addTank 43 = .ok (.iadd, 1) := by decide +kernel
theorem dX0_addTank_44 : decode cX0_addTank 44 = .ok (.putfield 19, 3) := by decide +kernel
theorem dX0_addTank_47 : decode cX0_addTank 47 = .ok (.aload_n 0, 1) := by decide +kernel
theorem dX0_addTank_48 : decode cX0_addTank 48 = .ok (.getfield 19, 3) := by decide +kernel
theorem dX0_addTank_51 : decode cX0_addTank 51 = .ok (.iconst 1, 1) := by decide +kernel
theorem dX0_addTank_52 : decode cX0_addTank 52 = .ok (.isub, 1) := by decide +kernel
theorem dX0_addTank_53 : decode cX0_addTank 53 = .ok (.ireturn, 1) := by decide +kernel
theorem dX0_addPipe_0 : decode cX0_addPipe 0 = .ok (.aload_n 0, 1) := by decide +kernel
theorem dX0_addPipe_1 : decode cX0_addPipe 1 = .ok (.getfield 23, 3) := by decide +kernel
theorem dX0_addPipe_4 : decode cX0_addPipe 4 = .ok (.bipush 14, 2) := by decide +kernel
theorem dX0_addPipe_6 : decode cX0_addPipe 6 = .ok (.if_icmp .lt 5, 3) := by decide +kernel
theorem dX0_addPipe_9 : decode cX0_addPipe 9 = .ok (.iconst (-1), 1) := by decide +kernel
theorem dX0_addPipe_10 : decode cX0_addPipe 10 = .ok (.ireturn, 1) := by decide +kernel
theorem dX0_addPipe_11 : decode cX0_addPipe 11 = .ok (.aload_n 0, 1) := by decide +kernel
theorem dX0_addPipe_12 : decode cX0_addPipe 12 = .ok (.getfield 16, 3) := by decide +kernel
theorem dX0_addPipe_15 : decode cX0_addPipe 15 = .ok (.aload_n 0, 1) := by decide +kernel
theorem dX0_addPipe_16 : decode cX0_addPipe 16 = .ok (.getfield 23, 3) := by decide +kernel
theorem dX0_addPipe_19 : decode cX0_addPipe 19 = .ok (.aaload, 1) := by decide +kernel
theorem dX0_addPipe_20 : decode cX0_addPipe 20 = .ok (.astore 5, 2) := by decide +kernel
theorem dX0_addPipe_22 : decode cX0_addPipe 22 = .ok (.aload 5, 2) := by decide +kernel
theorem dX0_addPipe_24 : decode cX0_addPipe 24 = .ok (.iconst 0, 1) := by decide +kernel
theorem dX0_addPipe_25 : decode cX0_addPipe 25 = .ok (.iload_n 1, 1) := by decide +kernel
theorem dX0_addPipe_26 : decode cX0_addPipe 26 = .ok (.iastore, 1) := by decide +kernel
theorem dX0_addPipe_27 : decode cX0_addPipe 27 = .ok (.aload 5, 2) := by decide +kernel
theorem dX0_addPipe_29 : decode cX0_addPipe 29 = .ok (.iconst 1, 1) := by decide +kernel
theorem dX0_addPipe_30 : decode cX0_addPipe 30 = .ok (.iload_n 2, 1) := by decide +kernel
theorem dX0_addPipe_31 : decode cX0_addPipe 31 = .ok (.iastore, 1) := by decide +kernel
theorem dX0_addPipe_32 : decode cX0_addPipe 32 = .ok (.aload 5, 2) := by decide +kernel
theorem dX0_addPipe_34 : decode cX0_addPipe 34 = .ok (.iconst 2, 1) := by decide +kernel
theorem dX0_addPipe_35 : decode cX0_addPipe 35 = .ok (.iload_n 3, 1) := by decide +kernel
theorem dX0_addPipe_36 : decode cX0_addPipe 36 = .ok (.iastore, 1) := by decide +kernel
theorem dX0_addPipe_37 : decode cX0_addPipe 37 = .ok (.aload 5, 2) := by decide +kernel
theorem dX0_addPipe_39 : decode cX0_addPipe 39 = .ok (.iconst 3, 1) := by decide +kernel
theorem dX0_addPipe_40 : decode cX0_addPipe 40 = .ok (.iload 4, 2) := by decide +kernel
theorem dX0_addPipe_42 : decode cX0_addPipe 42 = .ok (.iastore, 1) := by decide +kernel
theorem dX0_addPipe_43 : decode cX0_addPipe 43 = .ok (.aload_n 0, 1) := by decide +kernel
theorem dX0_addPipe_44 : decode cX0_addPipe 44 = .ok (.dup, 1) := by decide +kernel
theorem dX0_addPipe_45 : decode cX0_addPipe 45 = .ok (.getfield 23, 3) := by decide +kernel
theorem dX0_addPipe_48 : decode cX0_addPipe 48 = .ok (.iconst 1, 1) := by decide +kernel
theorem dX0_addPipe_49 : decode cX0_addPipe 49 = .ok (.iadd, 1) := by decide +kernel
theorem dX0_addPipe_50 : decode cX0_addPipe 50 = .ok (.putfield 23, 3) := by decide +kernel
theorem dX0_addPipe_53 : decode cX0_addPipe 53 = .ok (.aload_n 0, 1) := by decide +kernel
theorem dX0_addPipe_54 : decode cX0_addPipe 54 = .ok (.getfield 23, 3) := by decide +kernel
theorem dX0_addPipe_57 : decode cX0_addPipe 57 = .ok (.iconst 1, 1) := by decide +kernel
theorem dX0_addPipe_58 : decode cX0_addPipe 58 = .ok (.isub, 1) := by decide +kernel
theorem dX0_addPipe_59 : decode cX0_addPipe 59 = .ok (.ireturn, 1) := by decide +kernel
theorem dX0_copyFrom_0 : decode cX0_copyFrom 0 = .ok (.aload_n 0, 1) := by decide +kernel
theorem dX0_copyFrom_1 : decode cX0_copyFrom 1 = .ok (.aload_n 1, 1) := by decide +kernel
theorem dX0_copyFrom_2 : decode cX0_copyFrom 2 = .ok (.getfield 26, 3) := by decide +kernel
theorem dX0_copyFrom_5 : decode cX0_copyFrom 5 = .ok (.putfield 26, 3) := by decide +kernel
theorem dX0_copyFrom_8 : decode cX0_copyFrom 8 = .ok (.aload_n 0, 1) := by decide +kernel
theorem dX0_copyFrom_9 : decode cX0_copyFrom 9 = .ok (.aload_n 1, 1) := by decide +kernel
theorem dX0_copyFrom_10 : decode cX0_copyFrom 10 = .ok (.getfield 19, 3) := by decide +kernel
theorem dX0_copyFrom_13 : decode cX0_copyFrom 13 = .ok (.putfield 19, 3) := by decide +kernel
theorem dX0_copyFrom_16 : decode cX0_copyFrom 16 = .ok (.aload_n 0, 1) := by decide +kernel
theorem dX0_copyFrom_17 : decode cX0_copyFrom 17 = .ok (.aload_n 1, 1) := by decide +kernel
theorem dX0_copyFrom_18 : decode cX0_copyFrom 18 = .ok (.getfield 23, 3) := by decide +kernel
theorem dX0_copyFrom_21 : decode cX0_copyFrom 21 = .ok (.putfield 23, 3) := by decide +kernel
theorem dX0_copyFrom_24 : decode cX0_copyFrom 24 = .ok (.iconst 0, 1) := by decide +kernel
theorem dX0_copyFrom_25 : decode cX0_copyFrom 25 = .ok (.istore_n 2, 1) := by decide +kernel
theorem dX0_copyFrom_26 : decode cX0_copyFrom 26 = .ok (.iload_n 2, 1) := by decide +kernel
theorem dX0_copyFrom_27 : decode cX0_copyFrom 27 = .ok (.aload_n 0, 1) := by decide +kernel
theorem dX0_copyFrom_28 : decode cX0_copyFrom 28 = .ok (.getfield 19, 3) := by decide +kernel
theorem dX0_copyFrom_31 : decode cX0_copyFrom 31 = .ok (.if_icmp .ge 28, 3) := by decide +kernel
theorem dX0_copyFrom_34 : decode cX0_copyFrom 34 = .ok (.aload_n 1, 1) := by decide +kernel
theorem dX0_copyFrom_35 : decode cX0_copyFrom 35 = .ok (.getfield 13, 3) := by decide +kernel
theorem dX0_copyFrom_38 : decode cX0_copyFrom 38 = .ok (.iload_n 2, 1) := by decide +kernel
theorem dX0_copyFrom_39 : decode cX0_copyFrom 39 = .ok (.aaload, 1) := by decide +kernel
theorem dX0_copyFrom_40 : decode cX0_copyFrom 40 = .ok (.iconst 0, 1) := by decide +kernel
theorem dX0_copyFrom_41 : decode cX0_copyFrom 41 = .ok (.aload_n 0, 1) := by decide +kernel
theorem dX0_copyFrom_42 : decode cX0_copyFrom 42 = .ok (.getfield 13, 3) := by decide +kernel
theorem dX0_copyFrom_45 : decode cX0_copyFrom 45 = .ok (.iload_n 2, 1) := by decide +kernel
theorem dX0_copyFrom_46 : decode cX0_copyFrom 46 = .ok (.aaload, 1) := by decide +kernel
theorem dX0_copyFrom_47 : decode cX0_copyFrom 47 = .ok (.iconst 0, 1) := by decide +kernel
theorem dX0_copyFrom_48 : decode cX0_copyFrom 48 = .ok (.bipush 8, 2) := by decide +kernel
theorem dX0_copyFrom_50 : decode cX0_copyFrom 50 = .ok (.invokestatic 29, 3) := by decide +kernel
theorem dX0_copyFrom_53 : decode cX0_copyFrom 53 = .ok (.iinc 2 1, 3) := by decide +kernel
theorem dX0_copyFrom_56 : decode cX0_copyFrom 56 = .ok (.goto (-30), 3) := by decide +kernel
theorem dX0_copyFrom_59 : decode cX0_copyFrom 59 = .ok (.iconst 0, 1) := by decide +kernel
theorem dX0_copyFrom_60 : decode cX0_copyFrom 60 = .ok (.istore_n 2, 1) := by decide +kernel
theorem dX0_copyFrom_61 : decode cX0_copyFrom 61 = .ok (.iload_n 2, 1) := by decide +kernel
theorem dX0_copyFrom_62 : decode cX0_copyFrom 62 = .ok (.aload_n 0, 1) := by decide +kernel
theorem dX0_copyFrom_63 : decode cX0_copyFrom 63 = .ok (.getfield 23, 3) := by decide +kernel
theorem dX0_copyFrom_66 : decode cX0_copyFrom 66 = .ok (.if_icmp .ge 28, 3) := by decide +kernel
theorem dX0_copyFrom_69 : decode cX0_copyFrom 69 = .ok (.aload_n 1, 1) := by decide +kernel
theorem dX0_copyFrom_70 : decode cX0_copyFrom 70 = .ok (.getfield 16, 3) := by decide +kernel
theorem dX0_copyFrom_73 : decode cX0_copyFrom 73 = .ok (.iload_n 2, 1) := by decide +kernel
theorem dX0_copyFrom_74 : decode cX0_copyFrom 74 = .ok (.aaload, 1) := by decide +kernel
theorem dX0_copyFrom_75 : decode cX0_copyFrom 75 = .ok (.iconst 0, 1) := by decide +kernel
theorem dX0_copyFrom_76 : decode cX0_copyFrom 76 = .ok (.aload_n 0, 1) := by decide +kernel
theorem dX0_copyFrom_77 : decode cX0_copyFrom 77 = .ok (.getfield 16, 3) := by decide +kernel
theorem dX0_copyFrom_80 : decode cX0_copyFrom 80 = .ok (.iload_n 2, 1) := by decide +kernel
theorem dX0_copyFrom_81 : decode cX0_copyFrom 81 = .ok (.aaload, 1) := by decide +kernel
theorem dX0_copyFrom_82 : decode cX0_copyFrom 82 = .ok (.iconst 0, 1) := by decide +kernel
theorem dX0_copyFrom_83 : decode cX0_copyFrom 83 = .ok (.bipush 10, 2) := by decide +kernel
theorem dX0_copyFrom_85 : decode cX0_copyFrom 85 = .ok (.invokestatic 29, 3) := by decide +kernel
theorem dX0_copyFrom_88 : decode cX0_copyFrom 88 = .ok (.iinc 2 1, 3) := by decide +kernel
theorem dX0_copyFrom_91 : decode cX0_copyFrom 91 = .ok (.goto (-30), 3) := by decide +kernel
theorem dX0_copyFrom_94 : decode cX0_copyFrom 94 = .ok (.return_, 1) := by decide +kernel
set_option maxRecDepth 20000 in
theorem ggX0_ofPipe_X0_whatCanFlow : GoodIn wsX0_ofPipe wsX0_whatCanFlow := goodIn_r _ [6, 1, 7, 8, 9, 10, 11, 12, 13, 14, 15, 16, 5, 17, 18, 19, 20, 21, 22] (by decide +kernel) (by decide +kernel)
set_option maxRecDepth 20000 in
theorem gX0_ofPipe_X0_whatCanFlow : GoodIn wsX0_ofPipe (wsV RX0 35 RX0 yX0_whatCanFlow wsX0_whatCanFlow) := goodIn_app (goodIn_of _ (by decide +kernel)) ggX0_ofPipe_X0_whatCanFlow
theorem dX0_ofPipe_0 : decode cX0_ofPipe 0 = .ok (.iload_n 2, 1) := by decide +kernel
theorem dX0_ofPipe_1 : decode cX0_ofPipe 1 = .ok (.bipush 8, 2) := by decide +kernel
theorem dX0_ofPipe_3 : decode cX0_ofPipe 3 = .ok (.if_icmp .ne 11, 3) := by decide +kernel
theorem dX0_ofPipe_6 : decode cX0_ofPipe 6 = .ok (.aload_n 0, 1) := by decide +kernel
theorem dX0_ofPipe_7 : decode cX0_ofPipe 7 = .ok (.iload_n 1, 1) := by decide +kernel
theorem dX0_ofPipe_8 : decode cX0_ofPipe 8 = .ok (.invokevirtual 35, 3) := by decide +kernel
theorem dX0_ofPipe_11 : decode cX0_ofPipe 11 = .ok (.goto 11, 3) := by decide +kernel
theorem dX0_ofPipe_14 : decode cX0_ofPipe 14 = .ok (.aload_n 0, 1) := by decide +kernel
theorem dX0_ofPipe_15 : decode cX0_ofPipe 15 = .ok (.getfield 16, 3) := by decide +kernel
theorem dX0_ofPipe_18 : decode cX0_ofPipe 18 = .ok (.iload_n 1, 1) := by decide +kernel
theorem dX0_ofPipe_19 : decode cX0_ofPipe 19 = .ok (.aaload, 1) := by decide +kernel
theorem dX0_ofPipe_20 : decode cX0_ofPipe 20 = .ok (.iload_n 2, 1) := by decide +kernel
theorem dX0_ofPipe_21 : decode cX0_ofPipe 21 = .ok (.iaload, 1) := by decide +kernel
theorem dX0_ofPipe_22 : decode cX0_ofPipe 22 = .ok (.ireturn, 1) := by decide +kernel
set_option maxRecDepth 20000 in
theorem ggX0_ofAll_X0_sumOfTanks : GoodIn wsX0_ofAll wsX0_sumOfTanks := goodIn_r _ [8, 2, 9, 23, 24, 25, 26, 27] (by decide +kernel) (by decide +kernel)
set_option maxRecDepth 20000 in
theorem gX0_ofAll_X0_sumOfTanks : GoodIn wsX0_ofAll (wsV RX0 39 RX0 yX0_sumOfTanks wsX0_sumOfTanks) := goodIn_app (goodIn_of _ (by decide +kernel)) ggX0_ofAll_X0_sumOfTanks
set_option maxRecDepth 20000 in
theorem ggX0_ofAll_X0_sumOfPipes : GoodIn wsX0_ofAll wsX0_sumOfPipes := goodIn_r _ [13, 3, 14, 23, 24, 25, 26, 27] (by decide +kernel) (by decide +kernel)
set_option maxRecDepth 20000 in
theorem gX0_ofAll_X0_sumOfPipes : GoodIn wsX0_ofAll (wsV RX0 42 RX0 yX0_sumOfPipes wsX0_sumOfPipes) := goodIn_app (goodIn_of _ (by decide +kernel)) ggX0_ofAll_X0_sumOfPipes
set_option maxRecDepth 20000 in
theorem ggX0_ofAll_X0_thirstyTanks : GoodIn wsX0_ofAll wsX0_thirstyTanks := goodIn_r _ [18, 2, 19, 20, 21, 7, 22, 9, 23, 24, 25, 26, 27] (by decide +kernel) (by decide +kernel)
set_option maxRecDepth 20000 in
theorem gX0_ofAll_X0_thirstyTanks : GoodIn wsX0_ofAll (wsV RX0 45 RX0 yX0_thirstyTanks wsX0_thirstyTanks) := goodIn_app (goodIn_of _ (by decide +kernel)) ggX0_ofAll_X0_thirstyTanks
theorem dX0_ofAll_0 : decode cX0_ofAll 0 = .ok (.iload_n 1, 1) := by decide +kernel
theorem dX0_ofAll_1 : decode cX0_ofAll 1 = .ok (.tableswitch 95 0 7 #[47, 52, 57, 62, 68, 74, 81, 88], 47) := by decide +kernel
theorem dX0_ofAll_48 : decode cX0_ofAll 48 = .ok (.aload_n 0, 1) := by decide +kernel
theorem dX0_ofAll_49 : decode cX0_ofAll 49 = .ok (.getfield 26, 3) := by decide +kernel
theorem dX0_ofAll_52 : decode cX0_ofAll 52 = .ok (.ireturn, 1) := by decide +kernel
theorem dX0_ofAll_53 : decode cX0_ofAll 53 = .ok (.aload_n 0, 1) := by decide +kernel
theorem dX0_ofAll_54 : decode cX0_ofAll 54 = .ok (.getfield 19, 3) := by decide +kernel
theorem dX0_ofAll_57 : decode cX0_ofAll 57 = .ok (.ireturn, 1) := by decide +kernel
theorem dX0_ofAll_58 : decode cX0_ofAll 58 = .ok (.aload_n 0, 1) := by decide +kernel
theorem dX0_ofAll_59 : decode cX0_ofAll 59 = .ok (.getfield 23, 3) := by decide +kernel
theorem dX0_ofAll_62 : decode cX0_ofAll 62 = .ok (.ireturn, 1) := by decide +kernel
theorem dX0_ofAll_63 : decode cX0_ofAll 63 = .ok (.aload_n 0, 1) := by decide +kernel
theorem dX0_ofAll_64 : decode cX0_ofAll 64 = .ok (.iconst 3, 1) := by decide +kernel
theorem dX0_ofAll_65 : decode cX0_ofAll 65 = .ok (.invokevirtual 39, 3) := by decide +kernel
theorem dX0_ofAll_68 : decode cX0_ofAll 68 = .ok (.ireturn, 1) := by decide +kernel
theorem dX0_ofAll_69 : decode cX0_ofAll 69 = .ok (.aload_n 0, 1) := by decide +kernel
theorem dX0_ofAll_70 : decode cX0_ofAll 70 = .ok (.iconst 4, 1) := by decide +kernel
theorem dX0_ofAll_71 : decode cX0_ofAll 71 = .ok (.invokevirtual 39, 3) := by decide +kernel
theorem dX0_ofAll_74 : decode cX0_ofAll 74 = .ok (.ireturn, 1) := by decide +kernel
theorem dX0_ofAll_75 : decode cX0_ofAll 75 = .ok (.aload_n 0, 1) := by decide +kernel
theorem dX0_ofAll_76 : decode cX0_ofAll 76 = .ok (.bipush 6, 2) := by decide +kernel
theorem dX0_ofAll_78 : decode cX0_ofAll 78 = .ok (.invokevirtual 39, 3) := by decide +kernel
theorem dX0_ofAll_81 : decode cX0_ofAll 81 = .ok (.ireturn, 1) := by decide +kernel
theorem dX0_ofAll_82 : decode cX0_ofAll 82 = .ok (.aload_n 0, 1) := by decide +kernel
theorem dX0_ofAll_83 : decode cX0_ofAll 83 = .ok (.bipush 7, 2) := by decide +kernel
theorem dX0_ofAll_85 : decode cX0_ofAll 85 = .ok (.invokevirtual 42, 3) := by decide +kernel
theorem dX0_ofAll_88 : decode cX0_ofAll 88 = .ok (.ireturn, 1) := by decide +kernel
theorem dX0_ofAll_89 : decode cX0_ofAll 89 = .ok (.aload_n 0, 1) := by decide +kernel
theorem dX0_ofAll_90 : decode cX0_ofAll 90 = .ok (.bipush 7, 2) := by decide +kernel
theorem dX0_ofAll_92 : decode cX0_ofAll 92 = .ok (.invokevirtual 39, 3) := by decide +kernel
theorem dX0_ofAll_95 : decode cX0_ofAll 95 = .ok (.ireturn, 1) := by decide +kernel
theorem dX0_ofAll_96 : decode cX0_ofAll 96 = .ok (.aload_n 0, 1) := by decide +kernel
theorem dX0_ofAll_97 : decode cX0_ofAll 97 = .ok (.invokevirtual 45, 3) := by decide +kernel
theorem dX0_ofAll_100 : decode cX0_ofAll 100 = .ok (.ireturn, 1) := by decide +kernel
theorem dX0_sumOfTanks_0 : decode cX0_sumOfTanks 0 = .ok (.iconst 0, 1) := by decide +kernel
theorem dX0_sumOfTanks_1 : decode cX0_sumOfTanks 1 = .ok (.istore_n 2, 1) := by decide +kernel
theorem dX0_sumOfTanks_2 : decode cX0_sumOfTanks 2 = .ok (.iconst 0, 1) := by decide +kernel
theorem dX0_sumOfTanks_3 : decode cX0_sumOfTanks 3 = .ok (.istore_n 3, 1) := by decide +kernel
theorem dX0_sumOfTanks_4 : decode cX0_sumOfTanks 4 = .ok (.iload_n 3, 1) := by decide +kernel
theorem dX0_sumOfTanks_5 : decode cX0_sumOfTanks 5 = .ok (.aload_n 0, 1) := by decide +kernel
theorem dX0_sumOfTanks_6 : decode cX0_sumOfTanks 6 = .ok (.getfield 19, 3) := by decide +kernel
theorem dX0_sumOfTanks_9 : decode cX0_sumOfTanks 9 = .ok (.if_icmp .ge 20, 3) := by decide +kernel
theorem dX0_sumOfTanks_12 : decode cX0_sumOfTanks 12 = .ok (.iload_n 2, 1) := by decide +kernel
theorem dX0_sumOfTanks_13 : decode cX0_sumOfTanks 13 = .ok (.aload_n 0, 1) := by decide +kernel
theorem dX0_sumOfTanks_14 : decode cX0_sumOfTanks 14 = .ok (.getfield 13, 3) := by decide +kernel
theorem dX0_sumOfTanks_17 : decode cX0_sumOfTanks 17 = .ok (.iload_n 3, 1) := by decide +kernel
theorem dX0_sumOfTanks_18 : decode cX0_sumOfTanks 18 = .ok (.aaload, 1) := by decide +kernel
theorem dX0_sumOfTanks_19 : decode cX0_sumOfTanks 19 = .ok (.iload_n 1, 1) := by decide +kernel
theorem dX0_sumOfTanks_20 : decode cX0_sumOfTanks 20 = .ok (.iaload, 1) := by decide +kernel
theorem dX0_sumOfTanks_21 : decode cX0_sumOfTanks 21 = .ok (.iadd, 1) := by decide +kernel
theorem dX0_sumOfTanks_22 : decode cX0_sumOfTanks 22 = .ok (.istore_n 2, 1) := by decide +kernel
theorem dX0_sumOfTanks_23 : decode cX0_sumOfTanks 23 = .ok (.iinc 3 1, 3) := by decide +kernel
theorem dX0_sumOfTanks_26 : decode cX0_sumOfTanks 26 = .ok (.goto (-22), 3) := by decide +kernel
theorem dX0_sumOfTanks_29 : decode cX0_sumOfTanks 29 = .ok (.iload_n 2, 1) := by decide +kernel
theorem dX0_sumOfTanks_30 : decode cX0_sumOfTanks 30 = .ok (.ireturn, 1) := by decide +kernel
theorem dX0_sumOfPipes_0 : decode cX0_sumOfPipes 0 = .ok (.iconst 0, 1) := by decide +kernel
theorem dX0_sumOfPipes_1 : decode cX0_sumOfPipes 1 = .ok (.istore_n 2, 1) := by decide +kernel
theorem dX0_sumOfPipes_2 : decode cX0_sumOfPipes 2 = .ok (.iconst 0, 1) := by decide +kernel
theorem dX0_sumOfPipes_3 : decode cX0_sumOfPipes 3 = .ok (.istore_n 3, 1) := by decide +kernel
theorem dX0_sumOfPipes_4 : decode cX0_sumOfPipes 4 = .ok (.iload_n 3, 1) := by decide +kernel
theorem dX0_sumOfPipes_5 : decode cX0_sumOfPipes 5 = .ok (.aload_n 0, 1) := by decide +kernel
theorem dX0_sumOfPipes_6 : decode cX0_sumOfPipes 6 = .ok (.getfield 23, 3) := by decide +kernel
theorem dX0_sumOfPipes_9 : decode cX0_sumOfPipes 9 = .ok (.if_icmp .ge 20, 3) := by decide +kernel
theorem dX0_sumOfPipes_12 : decode cX0_sumOfPipes 12 = .ok (.iload_n 2, 1) := by decide +kernel
theorem dX0_sumOfPipes_13 : decode cX0_sumOfPipes 13 = .ok (.aload_n 0, 1) := by decide +kernel
theorem dX0_sumOfPipes_14 : decode cX0_sumOfPipes 14 = .ok (.getfield 16, 3) := by decide +kernel
theorem dX0_sumOfPipes_17 : decode cX0_sumOfPipes 17 = .ok (.iload_n 3, 1) := by decide +kernel
theorem dX0_sumOfPipes_18 : decode cX0_sumOfPipes 18 = .ok (.aaload, 1) := by decide +kernel
theorem dX0_sumOfPipes_19 : decode cX0_sumOfPipes 19 = .ok (.iload_n 1, 1) := by decide +kernel
theorem dX0_sumOfPipes_20 : decode cX0_sumOfPipes 20 = .ok (.iaload, 1) := by decide +kernel
theorem dX0_sumOfPipes_21 : decode cX0_sumOfPipes 21 = .ok (.iadd, 1) := by decide +kernel
theorem dX0_sumOfPipes_22 : decode cX0_sumOfPipes 22 = .ok (.istore_n 2, 1) := by decide +kernel
theorem dX0_sumOfPipes_23 : decode cX0_sumOfPipes 23 = .ok (.iinc 3 1, 3) := by decide +kernel
theorem dX0_sumOfPipes_26 : decode cX0_sumOfPipes 26 = .ok (.goto (-22), 3) := by decide +kernel
theorem dX0_sumOfPipes_29 : decode cX0_sumOfPipes 29 = .ok (.iload_n 2, 1) := by decide +kernel
theorem dX0_sumOfPipes_30 : decode cX0_sumOfPipes 30 = .ok (.ireturn, 1) := by decide +kernel
theorem dX0_isThirsty_0 : decode cX0_isThirsty 0 = .ok (.aload_n 0, 1) := by decide +kernel
theorem dX0_isThirsty_1 : decode cX0_isThirsty 1 = .ok (.getfield 13, 3) := by decide +kernel
theorem dX0_isThirsty_4 : decode cX0_isThirsty 4 = .ok (.iload_n 1, 1) := by decide +kernel
theorem dX0_isThirsty_5 : decode cX0_isThirsty 5 = .ok (.aaload, 1) := by decide +kernel
theorem dX0_isThirsty_6 : decode cX0_isThirsty 6 = .ok (.iconst 5, 1) := by decide +kernel
theorem dX0_isThirsty_7 : decode cX0_isThirsty 7 = .ok (.iaload, 1) := by decide +kernel
theorem dX0_isThirsty_8 : decode cX0_isThirsty 8 = .ok (.aload_n 0, 1) := by decide +kernel
theorem dX0_isThirsty_9 : decode cX0_isThirsty 9 = .ok (.getfield 13, 3) := by decide +kernel
theorem dX0_isThirsty_12 : decode cX0_isThirsty 12 = .ok (.iload_n 1, 1) := by decide +kernel
theorem dX0_isThirsty_13 : decode cX0_isThirsty 13 = .ok (.aaload, 1) := by decide +kernel
theorem dX0_isThirsty_14 : decode cX0_isThirsty 14 = .ok (.iconst 2, 1) := by decide +kernel
theorem dX0_isThirsty_15 : decode cX0_isThirsty 15 = .ok (.iaload, 1) := by decide +kernel
theorem dX0_isThirsty_16 : decode cX0_isThirsty 16 = .ok (.if_icmp .ge 7, 3) := by decide +kernel
theorem dX0_isThirsty_19 : decode cX0_isThirsty 19 = .ok (.iconst 1, 1) := by decide +kernel
theorem dX0_isThirsty_20 : decode cX0_isThirsty 20 = .ok (.goto 4, 3) := by decide +kernel
theorem dX0_isThirsty_23 : decode cX0_isThirsty 23 = .ok (.iconst 0, 1) := by decide +kernel
theorem dX0_isThirsty_24 : decode cX0_isThirsty 24 = .ok (.ireturn, 1) := by decide +kernel
set_option maxRecDepth 20000 in
theorem ggX0_thirstyTanks_X0_isThirsty : GoodIn wsX0_thirstyTanks wsX0_isThirsty := goodIn_r _ [6, 7, 8, 9, 10, 11, 12] (by decide +kernel) (by decide +kernel)
set_option maxRecDepth 20000 in
theorem gX0_thirstyTanks_X0_isThirsty : GoodIn wsX0_thirstyTanks (wsV RX0 49 RX0 yX0_isThirsty wsX0_isThirsty) := goodIn_app (goodIn_of _ (by decide +kernel)) ggX0_thirstyTanks_X0_isThirsty
theorem dX0_thirstyTanks_0 : decode cX0_thirstyTanks 0 = .ok (.iconst 0, 1) := by decide +kernel
theorem dX0_thirstyTanks_1 : decode cX0_thirstyTanks 1 = .ok (.istore_n 1, 1) := by decide +kernel
theorem dX0_thirstyTanks_2 : decode cX0_thirstyTanks 2 = .ok (.iconst 0, 1) := by decide +kernel
theorem dX0_thirstyTanks_3 : decode cX0_thirstyTanks 3 = .ok (.istore_n 2, 1) := by decide +kernel
theorem dX0_thirstyTanks_4 : decode cX0_thirstyTanks 4 = .ok (.iload_n 2, 1) := by decide +kernel
theorem dX0_thirstyTanks_5 : decode cX0_thirstyTanks 5 = .ok (.aload_n 0, 1) := by decide +kernel
theorem dX0_thirstyTanks_6 : decode cX0_thirstyTanks 6 = .ok (.getfield 19, 3) := by decide +kernel
theorem dX0_thirstyTanks_9 : decode cX0_thirstyTanks 9 = .ok (.if_icmp .ge 20, 3) := by decide +kernel
theorem dX0_thirstyTanks_12 : decode cX0_thirstyTanks 12 = .ok (.aload_n 0, 1) := by decide +kernel
theorem dX0_thirstyTanks_13 : decode cX0_thirstyTanks 13 = .ok (.iload_n 2, 1) := by decide +kernel
theorem dX0_thirstyTanks_14 : decode cX0_thirstyTanks 14 = .ok (.invokevirtual 49, 3) := by decide +kernel
theorem dX0_thirstyTanks_17 : decode cX0_thirstyTanks 17 = .ok (.ifCond .eq 6, 3) := by decide +kernel
theorem dX0_thirstyTanks_20 : decode cX0_thirstyTanks 20 = .ok (.iinc 1 1, 3) := by decide +kernel
theorem dX0_thirstyTanks_23 : decode cX0_thirstyTanks 23 = .ok (.iinc 2 1, 3) := by decide +kernel
theorem dX0_thirstyTanks_26 : decode cX0_thirstyTanks 26 = .ok (.goto (-22), 3) := by decide +kernel
theorem dX0_thirstyTanks_29 : decode cX0_thirstyTanks 29 = .ok (.iload_n 1, 1) := by decide +kernel
theorem dX0_thirstyTanks_30 : decode cX0_thirstyTanks 30 = .ok (.ireturn, 1) := by decide +kernel
theorem dX0_reachedFrom_0 : decode cX0_reachedFrom 0 = .ok (.iconst 0, 1) := by decide +kernel
theorem dX0_reachedFrom_1 : decode cX0_reachedFrom 1 = .ok (.istore_n 2, 1) := by decide +kernel
theorem dX0_reachedFrom_2 : decode cX0_reachedFrom 2 = .ok (.iconst 0, 1) := by decide +kernel
theorem dX0_reachedFrom_3 : decode cX0_reachedFrom 3 = .ok (.istore_n 3, 1) := by decide +kernel
theorem dX0_reachedFrom_4 : decode cX0_reachedFrom 4 = .ok (.iload_n 3, 1) := by decide +kernel
theorem dX0_reachedFrom_5 : decode cX0_reachedFrom 5 = .ok (.aload_n 0, 1) := by decide +kernel
theorem dX0_reachedFrom_6 : decode cX0_reachedFrom 6 = .ok (.getfield 19, 3) := by decide +kernel
theorem dX0_reachedFrom_9 : decode cX0_reachedFrom 9 = .ok (.if_icmp .ge 67, 3) := by decide +kernel
theorem dX0_reachedFrom_12 : decode cX0_reachedFrom 12 = .ok (.iconst 0, 1) := by decide +kernel
theorem dX0_reachedFrom_13 : decode cX0_reachedFrom 13 = .ok (.istore 4, 2) := by decide +kernel
theorem dX0_reachedFrom_15 : decode cX0_reachedFrom 15 = .ok (.iload 4, 2) := by decide +kernel
theorem dX0_reachedFrom_17 : decode cX0_reachedFrom 17 = .ok (.aload_n 0, 1) := by decide +kernel
theorem dX0_reachedFrom_18 : decode cX0_reachedFrom 18 = .ok (.getfield 23, 3) := by decide +kernel
theorem dX0_reachedFrom_21 : decode cX0_reachedFrom 21 = .ok (.if_icmp .ge 49, 3) := by decide +kernel
theorem dX0_reachedFrom_24 : decode cX0_reachedFrom 24 = .ok (.aload_n 0, 1) := by decide +kernel
theorem dX0_reachedFrom_25 : decode cX0_reachedFrom 25 = .ok (.getfield 16, 3) := by decide +kernel
theorem dX0_reachedFrom_28 : decode cX0_reachedFrom 28 = .ok (.iload 4, 2) := by decide +kernel
theorem dX0_reachedFrom_30 : decode cX0_reachedFrom 30 = .ok (.aaload, 1) := by decide +kernel
theorem dX0_reachedFrom_31 : decode cX0_reachedFrom 31 = .ok (.iconst 0, 1) := by decide +kernel
theorem dX0_reachedFrom_32 : decode cX0_reachedFrom 32 = .ok (.iaload, 1) := by decide +kernel
theorem dX0_reachedFrom_33 : decode cX0_reachedFrom 33 = .ok (.istore 5, 2) := by decide +kernel
theorem dX0_reachedFrom_35 : decode cX0_reachedFrom 35 = .ok (.iload 5, 2) := by decide +kernel
theorem dX0_reachedFrom_37 : decode cX0_reachedFrom 37 = .ok (.iload_n 1, 1) := by decide +kernel
theorem dX0_reachedFrom_38 : decode cX0_reachedFrom 38 = .ok (.if_icmp .eq 12, 3) := by decide +kernel
theorem dX0_reachedFrom_41 : decode cX0_reachedFrom 41 = .ok (.iload_n 2, 1) := by decide +kernel
theorem dX0_reachedFrom_42 : decode cX0_reachedFrom 42 = .ok (.iconst 1, 1) := by decide +kernel
theorem dX0_reachedFrom_43 : decode cX0_reachedFrom 43 = .ok (.iload 5, 2) := by decide +kernel
theorem dX0_reachedFrom_45 : decode cX0_reachedFrom 45 = .ok (.ishl, 1) := by decide +kernel
theorem dX0_reachedFrom_46 : decode cX0_reachedFrom 46 = .ok (.iand, 1) := by decide +kernel
theorem dX0_reachedFrom_47 : decode cX0_reachedFrom 47 = .ok (.ifCond .eq 17, 3) := by decide +kernel
theorem dX0_reachedFrom_50 : decode cX0_reachedFrom 50 = .ok (.iload_n 2, 1) := by decide +kernel
theorem dX0_reachedFrom_51 : decode cX0_reachedFrom 51 = .ok (.iconst 1, 1) := by decide +kernel
theorem dX0_reachedFrom_52 : decode cX0_reachedFrom 52 = .ok (.aload_n 0, 1) := by decide +kernel
theorem dX0_reachedFrom_53 : decode cX0_reachedFrom 53 = .ok (.getfield 16, 3) := by decide +kernel
theorem dX0_reachedFrom_56 : decode cX0_reachedFrom 56 = .ok (.iload 4, 2) := by decide +kernel
theorem dX0_reachedFrom_58 : decode cX0_reachedFrom 58 = .ok (.aaload, 1) := by decide +kernel
theorem dX0_reachedFrom_59 : decode cX0_reachedFrom 59 = .ok (.iconst 1, 1) := by decide +kernel
theorem dX0_reachedFrom_60 : decode cX0_reachedFrom 60 = .ok (.iaload, 1) := by decide +kernel
theorem dX0_reachedFrom_61 : decode cX0_reachedFrom 61 = .ok (.ishl, 1) := by decide +kernel
theorem dX0_reachedFrom_62 : decode cX0_reachedFrom 62 = .ok (.ior, 1) := by decide +kernel
theorem dX0_reachedFrom_63 : decode cX0_reachedFrom 63 = .ok (.istore_n 2, 1) := by decide +kernel
theorem dX0_reachedFrom_64 : decode cX0_reachedFrom 64 = .ok (.iinc 4 1, 3) := by decide +kernel
theorem dX0_reachedFrom_67 : decode cX0_reachedFrom 67 = .ok (.goto (-52), 3) := by decide +kernel
theorem dX0_reachedFrom_70 : decode cX0_reachedFrom 70 = .ok (.iinc 3 1, 3) := by decide +kernel
theorem dX0_reachedFrom_73 : decode cX0_reachedFrom 73 = .ok (.goto (-69), 3) := by decide +kernel
theorem dX0_reachedFrom_76 : decode cX0_reachedFrom 76 = .ok (.iload_n 2, 1) := by decide +kernel
theorem dX0_reachedFrom_77 : decode cX0_reachedFrom 77 = .ok (.ireturn, 1) := by decide +kernel
set_option maxRecDepth 20000 in
theorem ggX0_whatCanFlow_X0_head : GoodIn wsX0_whatCanFlow wsX0_head := goodIn_r _ [13] (by decide +kernel) (by decide +kernel)
set_option maxRecDepth 20000 in
theorem gX0_whatCanFlow_X0_head : GoodIn wsX0_whatCanFlow (va_wsS RX0 53 yX0_head wsX0_head) := goodIn_app (goodIn_of _ (by decide +kernel)) ggX0_whatCanFlow_X0_head
theorem dX0_whatCanFlow_0 : decode cX0_whatCanFlow 0 = .ok (.aload_n 0, 1) := by decide +kernel
theorem dX0_whatCanFlow_1 : decode cX0_whatCanFlow 1 = .ok (.getfield 16, 3) := by decide +kernel
theorem dX0_whatCanFlow_4 : decode cX0_whatCanFlow 4 = .ok (.iload_n 1, 1) := by decide +kernel
theorem dX0_whatCanFlow_5 : decode cX0_whatCanFlow 5 = .ok (.aaload, 1) := by decide +kernel
theorem dX0_whatCanFlow_6 : decode cX0_whatCanFlow 6 = .ok (.astore_n 2, 1) := by decide +kernel
theorem dX0_whatCanFlow_7 : decode cX0_whatCanFlow 7 = .ok (.aload_n 0, 1) := by decide +kernel
theorem dX0_whatCanFlow_8 : decode cX0_whatCanFlow 8 = .ok (.getfield 13, 3) := by decide +kernel
theorem dX0_whatCanFlow_11 : decode cX0_whatCanFlow 11 = .ok (.aload_n 2, 1) := by decide +kernel
theorem dX0_whatCanFlow_12 : decode cX0_whatCanFlow 12 = .ok (.iconst 0, 1) := by decide +kernel
theorem dX0_whatCanFlow_13 : decode cX0_whatCanFlow 13 = .ok (.iaload, 1) := by decide +kernel
theorem dX0_whatCanFlow_14 : decode cX0_whatCanFlow 14 = .ok (.aaload, 1) := by decide +kernel
theorem dX0_whatCanFlow_15 : decode cX0_whatCanFlow 15 = .ok (.astore_n 3, 1) := by decide +kernel
theorem dX0_whatCanFlow_16 : decode cX0_whatCanFlow 16 = .ok (.aload_n 3, 1) := by decide +kernel
theorem dX0_whatCanFlow_17 : decode cX0_whatCanFlow 17 = .ok (.invokestatic 53, 3) := by decide +kernel
theorem dX0_whatCanFlow_20 : decode cX0_whatCanFlow 20 = .ok (.aload_n 0, 1) := by decide +kernel
theorem dX0_whatCanFlow_21 : decode cX0_whatCanFlow 21 = .ok (.getfield 13, 3) := by decide +kernel
theorem dX0_whatCanFlow_24 : decode cX0_whatCanFlow 24 = .ok (.aload_n 2, 1) := by decide +kernel
theorem dX0_whatCanFlow_25 : decode cX0_whatCanFlow 25 = .ok (.iconst 1, 1) := by decide +kernel
theorem dX0_whatCanFlow_26 : decode cX0_whatCanFlow 26 = .ok (.iaload, 1) := by decide +kernel
theorem dX0_whatCanFlow_27 : decode cX0_whatCanFlow 27 = .ok (.aaload, 1) := by decide +kernel
theorem dX0_whatCanFlow_28 : decode cX0_whatCanFlow 28 = .ok (.invokestatic 53, 3) := by decide +kernel
theorem dX0_whatCanFlow_31 : decode cX0_whatCanFlow 31 = .ok (.isub, 1) := by decide +kernel
theorem dX0_whatCanFlow_32 : decode cX0_whatCanFlow 32 = .ok (.istore 4, 2) := by decide +kernel
theorem dX0_whatCanFlow_34 : decode cX0_whatCanFlow 34 = .ok (.iload 4, 2) := by decide +kernel
theorem dX0_whatCanFlow_36 : decode cX0_whatCanFlow 36 = .ok (.ifCond .le 11, 3) := by decide +kernel
theorem dX0_whatCanFlow_39 : decode cX0_whatCanFlow 39 = .ok (.iload 4, 2) := by decide +kernel
theorem dX0_whatCanFlow_41 : decode cX0_whatCanFlow 41 = .ok (.aload_n 2, 1) := by decide +kernel
theorem dX0_whatCanFlow_42 : decode cX0_whatCanFlow 42 = .ok (.iconst 3, 1) := by decide +kernel
theorem dX0_whatCanFlow_43 : decode cX0_whatCanFlow 43 = .ok (.iaload, 1) := by decide +kernel
theorem dX0_whatCanFlow_44 : decode cX0_whatCanFlow 44 = .ok (.if_icmp .ge 5, 3) := by decide +kernel
theorem dX0_whatCanFlow_47 : decode cX0_whatCanFlow 47 = .ok (.iconst 0, 1) := by decide +kernel
theorem dX0_whatCanFlow_48 : decode cX0_whatCanFlow 48 = .ok (.ireturn, 1) := by decide +kernel
theorem dX0_whatCanFlow_49 : decode cX0_whatCanFlow 49 = .ok (.iconst 0, 1) := by decide +kernel
theorem dX0_whatCanFlow_50 : decode cX0_whatCanFlow 50 = .ok (.aload_n 2, 1) := by decide +kernel
theorem dX0_whatCanFlow_51 : decode cX0_whatCanFlow 51 = .ok (.iconst 2, 1) := by decide +kernel
theorem dX0_whatCanFlow_52 : decode cX0_whatCanFlow 52 = .ok (.iaload, 1) := by decide +kernel
theorem dX0_whatCanFlow_53 : decode cX0_whatCanFlow 53 = .ok (.aload_n 2, 1) := by decide +kernel
theorem dX0_whatCanFlow_54 : decode cX0_whatCanFlow 54 = .ok (.iconst 4, 1) := by decide +kernel
theorem dX0_whatCanFlow_55 : decode cX0_whatCanFlow 55 = .ok (.iaload, 1) := by decide +kernel
theorem dX0_whatCanFlow_56 : decode cX0_whatCanFlow 56 = .ok (.isub, 1) := by decide +kernel
theorem dX0_whatCanFlow_57 : decode cX0_whatCanFlow 57 = .ok (.invokestatic 57, 3) := by decide +kernel
theorem dX0_whatCanFlow_60 : decode cX0_whatCanFlow 60 = .ok (.istore 5, 2) := by decide +kernel
theorem dX0_whatCanFlow_62 : decode cX0_whatCanFlow 62 = .ok (.iload 4, 2) := by decide +kernel
theorem dX0_whatCanFlow_64 : decode cX0_whatCanFlow 64 = .ok (.bipush 10, 2) := by decide +kernel
theorem dX0_whatCanFlow_66 : decode cX0_whatCanFlow 66 = .ok (.idiv, 1) := by decide +kernel
theorem dX0_whatCanFlow_67 : decode cX0_whatCanFlow 67 = .ok (.iconst 1, 1) := by decide +kernel
theorem dX0_whatCanFlow_68 : decode cX0_whatCanFlow 68 = .ok (.iadd, 1) := by decide +kernel
theorem dX0_whatCanFlow_69 : decode cX0_whatCanFlow 69 = .ok (.istore 6, 2) := by decide +kernel
theorem dX0_whatCanFlow_71 : decode cX0_whatCanFlow 71 = .ok (.iload 5, 2) := by decide +kernel
theorem dX0_whatCanFlow_73 : decode cX0_whatCanFlow 73 = .ok (.iload 6, 2) := by decide +kernel
theorem dX0_whatCanFlow_75 : decode cX0_whatCanFlow 75 = .ok (.invokestatic 63, 3) := by decide +kernel
theorem dX0_whatCanFlow_78 : decode cX0_whatCanFlow 78 = .ok (.aload_n 3, 1) := by decide +kernel
theorem dX0_whatCanFlow_79 : decode cX0_whatCanFlow 79 = .ok (.iconst 3, 1) := by decide +kernel
theorem dX0_whatCanFlow_80 : decode cX0_whatCanFlow 80 = .ok (.iaload, 1) := by decide +kernel
theorem dX0_whatCanFlow_81 : decode cX0_whatCanFlow 81 = .ok (.invokestatic 63, 3) := by decide +kernel
theorem dX0_whatCanFlow_84 : decode cX0_whatCanFlow 84 = .ok (.ireturn, 1) := by decide +kernel
theorem dX0_head_0 : decode cX0_head 0 = .ok (.bipush 10, 2) := by decide +kernel
theorem dX0_head_2 : decode cX0_head 2 = .ok (.aload_n 0, 1) := by decide +kernel
theorem dX0_head_3 : decode cX0_head 3 = .ok (.iconst 0, 1) := by decide +kernel
theorem dX0_head_4 : decode cX0_head 4 = .ok (.iaload, 1) := by decide +kernel
theorem dX0_head_5 : decode cX0_head 5 = .ok (.imul, 1) := by decide +kernel
theorem dX0_head_6 : decode cX0_head 6 = .ok (.aload_n 0, 1) := by decide +kernel
theorem dX0_head_7 : decode cX0_head 7 = .ok (.iconst 3, 1) := by decide +kernel
theorem dX0_head_8 : decode cX0_head 8 = .ok (.iaload, 1) := by decide +kernel
theorem dX0_head_9 : decode cX0_head 9 = .ok (.iadd, 1) := by decide +kernel
theorem dX0_head_10 : decode cX0_head 10 = .ok (.ireturn, 1) := by decide +kernel
set_option maxRecDepth 20000 in
theorem ggX0_drunkIn_X0_sumOfTanks : GoodIn wsX0_drunkIn wsX0_sumOfTanks := goodIn_r _ [5, 6, 7, 52, 53, 54, 55, 56] (by decide +kernel) (by decide +kernel)
set_option maxRecDepth 20000 in
theorem gX0_drunkIn_X0_sumOfTanks : GoodIn wsX0_drunkIn (wsV RX0 39 RX0 yX0_sumOfTanks wsX0_sumOfTanks) := goodIn_app (goodIn_of _ (by decide +kernel)) ggX0_drunkIn_X0_sumOfTanks
set_option maxRecDepth 20000 in
theorem ggX0_drunkIn_X0_goThroughDay : GoodIn wsX0_drunkIn wsX0_goThroughDay := goodIn_r _ [11, 6, 7, 12, 13, 14, 15, 4, 16, 17, 18, 19, 20, 21, 22, 23, 24, 25, 26, 27, 28, 29, 30, 31, 32, 33, 34, 35, 36, 37, 38, 39, 40, 41, 42, 43, 44, 45, 46, 47, 48, 49, 50, 51, 52, 53, 54, 55, 56] (by decide +kernel) (by decide +kernel)
set_option maxRecDepth 20000 in
theorem gX0_drunkIn_X0_goThroughDay : GoodIn wsX0_drunkIn (wsV RX0 66 RX0 yX0_goThroughDay wsX0_goThroughDay) := goodIn_app (goodIn_of _ (by decide +kernel)) ggX0_drunkIn_X0_goThroughDay
theorem dX0_drunkIn_0 : decode cX0_drunkIn 0 = .ok (.aload_n 0, 1) := by decide +kernel
theorem dX0_drunkIn_1 : decode cX0_drunkIn 1 = .ok (.bipush 6, 2) := by decide +kernel
theorem dX0_drunkIn_3 : decode cX0_drunkIn 3 = .ok (.invokevirtual 39, 3) := by decide +kernel
theorem dX0_drunkIn_6 : decode cX0_drunkIn 6 = .ok (.istore_n 2, 1) := by decide +kernel
theorem dX0_drunkIn_7 : decode cX0_drunkIn 7 = .ok (.iconst 0, 1) := by decide +kernel
theorem dX0_drunkIn_8 : decode cX0_drunkIn 8 = .ok (.istore_n 3, 1) := by decide +kernel
theorem dX0_drunkIn_9 : decode cX0_drunkIn 9 = .ok (.iload_n 3, 1) := by decide +kernel
theorem dX0_drunkIn_10 : decode cX0_drunkIn 10 = .ok (.iload_n 1, 1) := by decide +kernel
theorem dX0_drunkIn_11 : decode cX0_drunkIn 11 = .ok (.if_icmp .ge 13, 3) := by decide +kernel
theorem dX0_drunkIn_14 : decode cX0_drunkIn 14 = .ok (.aload_n 0, 1) := by decide +kernel
theorem dX0_drunkIn_15 : decode cX0_drunkIn 15 = .ok (.invokevirtual 66, 3) := by decide +kernel
theorem dX0_drunkIn_18 : decode cX0_drunkIn 18 = .ok (.iinc 3 1, 3) := by decide +kernel
theorem dX0_drunkIn_21 : decode cX0_drunkIn 21 = .ok (.goto (-12), 3) := by decide +kernel
theorem dX0_drunkIn_24 : decode cX0_drunkIn 24 = .ok (.aload_n 0, 1) := by decide +kernel
theorem dX0_drunkIn_25 : decode cX0_drunkIn 25 = .ok (.bipush 6, 2) := by decide +kernel
theorem dX0_drunkIn_27 : decode cX0_drunkIn 27 = .ok (.invokevirtual 39, 3) := by decide +kernel
theorem dX0_drunkIn_30 : decode cX0_drunkIn 30 = .ok (.iload_n 2, 1) := by decide +kernel
theorem dX0_drunkIn_31 : decode cX0_drunkIn 31 = .ok (.isub, 1) := by decide +kernel
theorem dX0_drunkIn_32 : decode cX0_drunkIn 32 = .ok (.ireturn, 1) := by decide +kernel
set_option maxRecDepth 20000 in
theorem ggX0_goThroughDay_X0_feed : GoodIn wsX0_goThroughDay wsX0_feed := goodIn_r _ [8, 9, 10, 7, 11, 12, 13, 14, 15, 16, 17, 18, 19, 20, 21] (by decide +kernel) (by decide +kernel)
set_option maxRecDepth 20000 in
theorem gX0_goThroughDay_X0_feed : GoodIn wsX0_goThroughDay (va_wsS RX0 69 yX0_feed wsX0_feed) := goodIn_app (goodIn_of _ (by decide +kernel)) ggX0_goThroughDay_X0_feed
set_option maxRecDepth 20000 in
theorem ggX0_goThroughDay_X0_flowThrough : GoodIn wsX0_goThroughDay wsX0_flowThrough := goodIn_r _ [25, 26, 2, 19, 20, 14, 21, 27, 28, 29, 7, 30, 12, 13, 15, 31, 32, 33, 34, 35, 36, 16, 17, 18, 9, 10, 11, 44, 45, 46, 47, 48] (by decide +kernel) (by decide +kernel)
set_option maxRecDepth 20000 in
theorem gX0_goThroughDay_X0_flowThrough : GoodIn wsX0_goThroughDay (wsV RX0 73 RX0 yX0_flowThrough wsX0_flowThrough) := goodIn_app (goodIn_of _ (by decide +kernel)) ggX0_goThroughDay_X0_flowThrough
set_option maxRecDepth 20000 in
theorem ggX0_goThroughDay_X0_growCrusts : GoodIn wsX0_goThroughDay wsX0_growCrusts := goodIn_r _ [40, 3, 26, 19, 20, 14, 21, 44, 45, 46, 47, 48] (by decide +kernel) (by decide +kernel)
set_option maxRecDepth 20000 in
theorem gX0_goThroughDay_X0_growCrusts : GoodIn wsX0_goThroughDay (wsV RX0 77 RX0 yX0_growCrusts wsX0_growCrusts) := goodIn_app (goodIn_of _ (by decide +kernel)) ggX0_goThroughDay_X0_growCrusts
set_option maxRecDepth 20000 in
theorem ggX0_goThroughDay_X0_drinkFrom : GoodIn wsX0_goThroughDay wsX0_drinkFrom := goodIn_r _ [43, 19, 20, 14, 21] (by decide +kernel) (by decide +kernel)
set_option maxRecDepth 20000 in
theorem gX0_goThroughDay_X0_drinkFrom : GoodIn wsX0_goThroughDay (va_wsS RX0 80 yX0_drinkFrom wsX0_drinkFrom) := goodIn_app (goodIn_of _ (by decide +kernel)) ggX0_goThroughDay_X0_drinkFrom
theorem dX0_goThroughDay_0 : decode cX0_goThroughDay 0 = .ok (.iconst 0, 1) := by decide +kernel
theorem dX0_goThroughDay_1 : decode cX0_goThroughDay 1 = .ok (.istore_n 1, 1) := by decide +kernel
theorem dX0_goThroughDay_2 : decode cX0_goThroughDay 2 = .ok (.iload_n 1, 1) := by decide +kernel
theorem dX0_goThroughDay_3 : decode cX0_goThroughDay 3 = .ok (.aload_n 0, 1) := by decide +kernel
theorem dX0_goThroughDay_4 : decode cX0_goThroughDay 4 = .ok (.getfield 19, 3) := by decide +kernel
theorem dX0_goThroughDay_7 : decode cX0_goThroughDay 7 = .ok (.if_icmp .ge 18, 3) := by decide +kernel
theorem dX0_goThroughDay_10 : decode cX0_goThroughDay 10 = .ok (.aload_n 0, 1) := by decide +kernel
theorem dX0_goThroughDay_11 : decode cX0_goThroughDay 11 = .ok (.getfield 13, 3) := by decide +kernel
theorem dX0_goThroughDay_14 : decode cX0_goThroughDay 14 = .ok (.iload_n 1, 1) := by decide +kernel
theorem dX0_goThroughDay_15 : decode cX0_goThroughDay 15 = .ok (.aaload, 1) := by decide +kernel
theorem dX0_goThroughDay_16 : decode cX0_goThroughDay 16 = .ok (.invokestatic 69, 3) := by decide +kernel
theorem dX0_goThroughDay_19 : decode cX0_goThroughDay 19 = .ok (.iinc 1 1, 3) := by decide +kernel
theorem dX0_goThroughDay_22 : decode cX0_goThroughDay 22 = .ok (.goto (-20), 3) := by decide +kernel
theorem dX0_goThroughDay_25 : decode cX0_goThroughDay 25 = .ok (.iconst 0, 1) := by decide +kernel
theorem dX0_goThroughDay_26 : decode cX0_goThroughDay 26 = .ok (.istore_n 1, 1) := by decide +kernel
theorem dX0_goThroughDay_27 : decode cX0_goThroughDay 27 = .ok (.iload_n 1, 1) := by decide +kernel
theorem dX0_goThroughDay_28 : decode cX0_goThroughDay 28 = .ok (.aload_n 0, 1) := by decide +kernel
theorem dX0_goThroughDay_29 : decode cX0_goThroughDay 29 = .ok (.getfield 23, 3) := by decide +kernel
theorem dX0_goThroughDay_32 : decode cX0_goThroughDay 32 = .ok (.if_icmp .ge 14, 3) := by decide +kernel
theorem dX0_goThroughDay_35 : decode cX0_goThroughDay 35 = .ok (.aload_n 0, 1) := by decide +kernel
theorem dX0_goThroughDay_36 : decode cX0_goThroughDay 36 = .ok (.iload_n 1, 1) := by decide +kernel
theorem dX0_goThroughDay_37 : decode cX0_goThroughDay 37 = .ok (.invokevirtual 73, 3) := by decide +kernel
theorem dX0_goThroughDay_40 : decode cX0_goThroughDay 40 = .ok (.iinc 1 1, 3) := by decide +kernel
theorem dX0_goThroughDay_43 : decode cX0_goThroughDay 43 = .ok (.goto (-16), 3) := by decide +kernel
theorem dX0_goThroughDay_46 : decode cX0_goThroughDay 46 = .ok (.aload_n 0, 1) := by decide +kernel
theorem dX0_goThroughDay_47 : decode cX0_goThroughDay 47 = .ok (.getfield 26, 3) := by decide +kernel
theorem dX0_goThroughDay_50 : decode cX0_goThroughDay 50 = .ok (.iconst 4, 1) := by decide +kernel
theorem dX0_goThroughDay_51 : decode cX0_goThroughDay 51 = .ok (.irem, 1) := by decide +kernel
theorem dX0_goThroughDay_52 : decode cX0_goThroughDay 52 = .ok (.ifCond .ne 7, 3) := by decide +kernel
theorem dX0_goThroughDay_55 : decode cX0_goThroughDay 55 = .ok (.aload_n 0, 1) := by decide +kernel
theorem dX0_goThroughDay_56 : decode cX0_goThroughDay 56 = .ok (.invokevirtual 77, 3) := by decide +kernel
theorem dX0_goThroughDay_59 : decode cX0_goThroughDay 59 = .ok (.iconst 0, 1) := by decide +kernel
theorem dX0_goThroughDay_60 : decode cX0_goThroughDay 60 = .ok (.istore_n 1, 1) := by decide +kernel
theorem dX0_goThroughDay_61 : decode cX0_goThroughDay 61 = .ok (.iload_n 1, 1) := by decide +kernel
theorem dX0_goThroughDay_62 : decode cX0_goThroughDay 62 = .ok (.aload_n 0, 1) := by decide +kernel
theorem dX0_goThroughDay_63 : decode cX0_goThroughDay 63 = .ok (.getfield 19, 3) := by decide +kernel
theorem dX0_goThroughDay_66 : decode cX0_goThroughDay 66 = .ok (.if_icmp .ge 18, 3) := by decide +kernel
theorem dX0_goThroughDay_69 : decode cX0_goThroughDay 69 = .ok (.aload_n 0, 1) := by decide +kernel
theorem dX0_goThroughDay_70 : decode cX0_goThroughDay 70 = .ok (.getfield 13, 3) := by decide +kernel
theorem dX0_goThroughDay_73 : decode cX0_goThroughDay 73 = .ok (.iload_n 1, 1) := by decide +kernel
theorem dX0_goThroughDay_74 : decode cX0_goThroughDay 74 = .ok (.aaload, 1) := by decide +kernel
theorem dX0_goThroughDay_75 : decode cX0_goThroughDay 75 = .ok (.invokestatic 80, 3) := by decide +kernel
theorem dX0_goThroughDay_78 : decode cX0_goThroughDay 78 = .ok (.iinc 1 1, 3) := by decide +kernel
theorem dX0_goThroughDay_81 : decode cX0_goThroughDay 81 = .ok (.goto (-20), 3) := by decide +kernel
theorem dX0_goThroughDay_84 : decode cX0_goThroughDay 84 = .ok (.aload_n 0, 1) := by decide +kernel
theorem dX0_goThroughDay_85 : decode cX0_goThroughDay 85 = .ok (.dup, 1) := by decide +kernel
theorem dX0_goThroughDay_86 : decode cX0_goThroughDay 86 = .ok (.getfield 26, 3) := by decide +kernel
theorem dX0_goThroughDay_89 : decode cX0_goThroughDay 89 = .ok (.iconst 1, 1) := by decide +kernel
theorem dX0_goThroughDay_90 : decode cX0_goThroughDay 90 = .ok (.iadd, 1) := by decide +kernel
theorem dX0_goThroughDay_91 : decode cX0_goThroughDay 91 = .ok (.putfield 26, 3) := by decide +kernel
theorem dX0_goThroughDay_94 : decode cX0_goThroughDay 94 = .ok (.return_, 1) := by decide +kernel
set_option maxRecDepth 20000 in
theorem ggX0_feed_X0_takeInWater : GoodIn wsX0_feed wsX0_takeInWater := goodIn_r _ [4, 5, 6, 7, 8] (by decide +kernel) (by decide +kernel)
set_option maxRecDepth 20000 in
theorem gX0_feed_X0_takeInWater : GoodIn wsX0_feed (va_wsS RX0 83 yX0_takeInWater wsX0_takeInWater) := goodIn_app (goodIn_of _ (by decide +kernel)) ggX0_feed_X0_takeInWater
set_option maxRecDepth 20000 in
theorem ggX0_feed_X0_takeInMud : GoodIn wsX0_feed wsX0_takeInMud := goodIn_r _ [11, 12, 13, 7, 14] (by decide +kernel) (by decide +kernel)
set_option maxRecDepth 20000 in
theorem gX0_feed_X0_takeInMud : GoodIn wsX0_feed (va_wsS RX0 87 yX0_takeInMud wsX0_takeInMud) := goodIn_app (goodIn_of _ (by decide +kernel)) ggX0_feed_X0_takeInMud
theorem dX0_feed_0 : decode cX0_feed 0 = .ok (.aload_n 0, 1) := by decide +kernel
theorem dX0_feed_1 : decode cX0_feed 1 = .ok (.aload_n 0, 1) := by decide +kernel
theorem dX0_feed_2 : decode cX0_feed 2 = .ok (.iconst 1, 1) := by decide +kernel
theorem dX0_feed_3 : decode cX0_feed 3 = .ok (.iaload, 1) := by decide +kernel
theorem dX0_feed_4 : decode cX0_feed 4 = .ok (.invokestatic 83, 3) := by decide +kernel
theorem dX0_feed_7 : decode cX0_feed 7 = .ok (.aload_n 0, 1) := by decide +kernel
theorem dX0_feed_8 : decode cX0_feed 8 = .ok (.aload_n 0, 1) := by decide +kernel
theorem dX0_feed_9 : decode cX0_feed 9 = .ok (.iconst 1, 1) := by decide +kernel
theorem dX0_feed_10 : decode cX0_feed 10 = .ok (.iaload, 1) := by decide +kernel
theorem dX0_feed_11 : decode cX0_feed 11 = .ok (.iconst 4, 1) := by decide +kernel
theorem dX0_feed_12 : decode cX0_feed 12 = .ok (.idiv, 1) := by decide +kernel
theorem dX0_feed_13 : decode cX0_feed 13 = .ok (.invokestatic 87, 3) := by decide +kernel
theorem dX0_feed_16 : decode cX0_feed 16 = .ok (.return_, 1) := by decide +kernel
set_option maxRecDepth 20000 in
theorem ggX0_flowThrough_X0_whatCanFlow : GoodIn wsX0_flowThrough wsX0_whatCanFlow := goodIn_r _ [11, 1, 2, 12, 13, 5, 14, 3, 4, 6, 15, 16, 10, 17, 27, 28, 29, 30, 31] (by decide +kernel) (by decide +kernel)
set_option maxRecDepth 20000 in
theorem gX0_flowThrough_X0_whatCanFlow : GoodIn wsX0_flowThrough (wsV RX0 35 RX0 yX0_whatCanFlow wsX0_whatCanFlow) := goodIn_app (goodIn_of _ (by decide +kernel)) ggX0_flowThrough_X0_whatCanFlow
set_option maxRecDepth 20000 in
theorem ggX0_flowThrough_X0_wanderMud : GoodIn wsX0_flowThrough wsX0_wanderMud := goodIn_r _ [20, 21, 22, 10, 23, 3, 4, 5, 6] (by decide +kernel) (by decide +kernel)
set_option maxRecDepth 20000 in
theorem gX0_flowThrough_X0_wanderMud : GoodIn wsX0_flowThrough (va_wsS RX0 90 yX0_wanderMud wsX0_wanderMud) := goodIn_app (goodIn_of _ (by decide +kernel)) ggX0_flowThrough_X0_wanderMud
set_option maxRecDepth 20000 in
theorem ggX0_flowThrough_X0_takeInWater : GoodIn wsX0_flowThrough wsX0_takeInWater := goodIn_r _ [26, 12, 13, 5, 14] (by decide +kernel) (by decide +kernel)
set_option maxRecDepth 20000 in
theorem gX0_flowThrough_X0_takeInWater : GoodIn wsX0_flowThrough (va_wsS RX0 83 yX0_takeInWater wsX0_takeInWater) := goodIn_app (goodIn_of _ (by decide +kernel)) ggX0_flowThrough_X0_takeInWater
theorem dX0_flowThrough_0 : decode cX0_flowThrough 0 = .ok (.aload_n 0, 1) := by decide +kernel
theorem dX0_flowThrough_1 : decode cX0_flowThrough 1 = .ok (.getfield 16, 3) := by decide +kernel
theorem dX0_flowThrough_4 : decode cX0_flowThrough 4 = .ok (.iload_n 1, 1) := by decide +kernel
theorem dX0_flowThrough_5 : decode cX0_flowThrough 5 = .ok (.aaload, 1) := by decide +kernel
theorem dX0_flowThrough_6 : decode cX0_flowThrough 6 = .ok (.astore_n 2, 1) := by decide +kernel
theorem dX0_flowThrough_7 : decode cX0_flowThrough 7 = .ok (.aload_n 0, 1) := by decide +kernel
theorem dX0_flowThrough_8 : decode cX0_flowThrough 8 = .ok (.getfield 13, 3) := by decide +kernel
theorem dX0_flowThrough_11 : decode cX0_flowThrough 11 = .ok (.aload_n 2, 1) := by decide +kernel
theorem dX0_flowThrough_12 : decode cX0_flowThrough 12 = .ok (.iconst 0, 1) := by decide +kernel
theorem dX0_flowThrough_13 : decode cX0_flowThrough 13 = .ok (.iaload, 1) := by decide +kernel
theorem dX0_flowThrough_14 : decode cX0_flowThrough 14 = .ok (.aaload, 1) := by decide +kernel
theorem dX0_flowThrough_15 : decode cX0_flowThrough 15 = .ok (.astore_n 3, 1) := by decide +kernel
theorem dX0_flowThrough_16 : decode cX0_flowThrough 16 = .ok (.aload_n 0, 1) := by decide +kernel
theorem dX0_flowThrough_17 : decode cX0_flowThrough 17 = .ok (.getfield 13, 3) := by decide +kernel
theorem dX0_flowThrough_20 : decode cX0_flowThrough 20 = .ok (.aload_n 2, 1) := by decide +kernel
theorem dX0_flowThrough_21 : decode cX0_flowThrough 21 = .ok (.iconst 1, 1) := by decide +kernel
theorem dX0_flowThrough_22 : decode cX0_flowThrough 22 = .ok (.iaload, 1) := by decide +kernel
theorem dX0_flowThrough_23 : decode cX0_flowThrough 23 = .ok (.aaload, 1) := by decide +kernel
theorem dX0_flowThrough_24 : decode cX0_flowThrough 24 = .ok (.astore 4, 2) := by decide +kernel
theorem dX0_flowThrough_26 : decode cX0_flowThrough 26 = .ok (.aload_n 0, 1) := by decide +kernel
theorem dX0_flowThrough_27 : decode cX0_flowThrough 27 = .ok (.iload_n 1, 1) := by decide +kernel
theorem dX0_flowThrough_28 : decode cX0_flowThrough 28 = .ok (.invokevirtual 35, 3) := by decide +kernel
theorem dX0_flowThrough_31 : decode cX0_flowThrough 31 = .ok (.istore 5, 2) := by decide +kernel
theorem dX0_flowThrough_33 : decode cX0_flowThrough 33 = .ok (.aload_n 2, 1) := by decide +kernel
theorem dX0_flowThrough_34 : decode cX0_flowThrough 34 = .ok (.bipush 9, 2) := by decide +kernel
theorem dX0_flowThrough_36 : decode cX0_flowThrough 36 = .ok (.iaload, 1) := by decide +kernel
theorem dX0_flowThrough_37 : decode cX0_flowThrough 37 = .ok (.iload 5, 2) := by decide +kernel
theorem dX0_flowThrough_39 : decode cX0_flowThrough 39 = .ok (.invokestatic 63, 3) := by decide +kernel
theorem dX0_flowThrough_42 : decode cX0_flowThrough 42 = .ok (.istore 6, 2) := by decide +kernel
theorem dX0_flowThrough_44 : decode cX0_flowThrough 44 = .ok (.aload_n 3, 1) := by decide +kernel
theorem dX0_flowThrough_45 : decode cX0_flowThrough 45 = .ok (.aload 4, 2) := by decide +kernel
theorem dX0_flowThrough_47 : decode cX0_flowThrough 47 = .ok (.iload 5, 2) := by decide +kernel
theorem dX0_flowThrough_49 : decode cX0_flowThrough 49 = .ok (.invokestatic 90, 3) := by decide +kernel
theorem dX0_flowThrough_52 : decode cX0_flowThrough 52 = .ok (.aload_n 3, 1) := by decide +kernel
theorem dX0_flowThrough_53 : decode cX0_flowThrough 53 = .ok (.iconst 3, 1) := by decide +kernel
theorem dX0_flowThrough_54 : decode cX0_flowThrough 54 = .ok (.dup2, 1) := by decide +kernel
theorem dX0_flowThrough_55 : decode cX0_flowThrough 55 = .ok (.iaload, 1) := by decide +kernel
theorem dX0_flowThrough_56 : decode cX0_flowThrough 56 = .ok (.iload 5, 2) := by decide +kernel
theorem dX0_flowThrough_58 : decode cX0_flowThrough 58 = .ok (.isub, 1) := by decide +kernel
theorem dX0_flowThrough_59 : decode cX0_flowThrough 59 = .ok (.iastore, 1) := by decide +kernel
theorem dX0_flowThrough_60 : decode cX0_flowThrough 60 = .ok (.aload 4, 2) := by decide +kernel
theorem dX0_flowThrough_62 : decode cX0_flowThrough 62 = .ok (.iload 5, 2) := by decide +kernel
theorem dX0_flowThrough_64 : decode cX0_flowThrough 64 = .ok (.iload 6, 2) := by decide +kernel
theorem dX0_flowThrough_66 : decode cX0_flowThrough 66 = .ok (.isub, 1) := by decide +kernel
theorem dX0_flowThrough_67 : decode cX0_flowThrough 67 = .ok (.invokestatic 83, 3) := by decide +kernel
theorem dX0_flowThrough_70 : decode cX0_flowThrough 70 = .ok (.aload_n 2, 1) := by decide +kernel
theorem dX0_flowThrough_71 : decode cX0_flowThrough 71 = .ok (.iconst 5, 1) := by decide +kernel
theorem dX0_flowThrough_72 : decode cX0_flowThrough 72 = .ok (.iload 5, 2) := by decide +kernel
theorem dX0_flowThrough_74 : decode cX0_flowThrough 74 = .ok (.iastore, 1) := by decide +kernel
theorem dX0_flowThrough_75 : decode cX0_flowThrough 75 = .ok (.aload_n 2, 1) := by decide +kernel
theorem dX0_flowThrough_76 : decode cX0_flowThrough 76 = .ok (.bipush 6, 2) := by decide +kernel
theorem dX0_flowThrough_78 : decode cX0_flowThrough 78 = .ok (.iload 6, 2) := by decide +kernel
theorem dX0_flowThrough_80 : decode cX0_flowThrough 80 = .ok (.iastore, 1) := by decide +kernel
theorem dX0_flowThrough_81 : decode cX0_flowThrough 81 = .ok (.aload_n 2, 1) := by decide +kernel
theorem dX0_flowThrough_82 : decode cX0_flowThrough 82 = .ok (.bipush 7, 2) := by decide +kernel
theorem dX0_flowThrough_84 : decode cX0_flowThrough 84 = .ok (.dup2, 1) := by decide +kernel
theorem dX0_flowThrough_85 : decode cX0_flowThrough 85 = .ok (.iaload, 1) := by decide +kernel
theorem dX0_flowThrough_86 : decode cX0_flowThrough 86 = .ok (.iload 6, 2) := by decide +kernel
theorem dX0_flowThrough_88 : decode cX0_flowThrough 88 = .ok (.iadd, 1) := by decide +kernel
theorem dX0_flowThrough_89 : decode cX0_flowThrough 89 = .ok (.iastore, 1) := by decide +kernel
theorem dX0_flowThrough_90 : decode cX0_flowThrough 90 = .ok (.return_, 1) := by decide +kernel
set_option maxRecDepth 20000 in
theorem ggX0_wanderMud_X0_takeInMud : GoodIn wsX0_wanderMud wsX0_takeInMud := goodIn_r _ [4, 5, 6, 7, 8] (by decide +kernel) (by decide +kernel)
set_option maxRecDepth 20000 in
theorem gX0_wanderMud_X0_takeInMud : GoodIn wsX0_wanderMud (va_wsS RX0 87 yX0_takeInMud wsX0_takeInMud) := goodIn_app (goodIn_of _ (by decide +kernel)) ggX0_wanderMud_X0_takeInMud
theorem dX0_wanderMud_0 : decode cX0_wanderMud 0 = .ok (.aload_n 0, 1) := by decide +kernel
theorem dX0_wanderMud_1 : decode cX0_wanderMud 1 = .ok (.iconst 3, 1) := by decide +kernel
theorem dX0_wanderMud_2 : decode cX0_wanderMud 2 = .ok (.iaload, 1) := by decide +kernel
theorem dX0_wanderMud_3 : decode cX0_wanderMud 3 = .ok (.ifCond .gt 4, 3) := by decide +kernel
theorem dX0_wanderMud_6 : decode cX0_wanderMud 6 = .ok (.return_, 1) := by decide +kernel
theorem dX0_wanderMud_7 : decode cX0_wanderMud 7 = .ok (.aload_n 0, 1) := by decide +kernel
theorem dX0_wanderMud_8 : decode cX0_wanderMud 8 = .ok (.iconst 4, 1) := by decide +kernel
theorem dX0_wanderMud_9 : decode cX0_wanderMud 9 = .ok (.iaload, 1) := by decide +kernel
theorem dX0_wanderMud_10 : decode cX0_wanderMud 10 = .ok (.iload_n 2, 1) := by decide +kernel
theorem dX0_wanderMud_11 : decode cX0_wanderMud 11 = .ok (.imul, 1) := by decide +kernel
theorem dX0_wanderMud_12 : decode cX0_wanderMud 12 = .ok (.aload_n 0, 1) := by decide +kernel
theorem dX0_wanderMud_13 : decode cX0_wanderMud 13 = .ok (.iconst 3, 1) := by decide +kernel
theorem dX0_wanderMud_14 : decode cX0_wanderMud 14 = .ok (.iaload, 1) := by decide +kernel
theorem dX0_wanderMud_15 : decode cX0_wanderMud 15 = .ok (.idiv, 1) := by decide +kernel
theorem dX0_wanderMud_16 : decode cX0_wanderMud 16 = .ok (.istore_n 3, 1) := by decide +kernel
theorem dX0_wanderMud_17 : decode cX0_wanderMud 17 = .ok (.aload_n 0, 1) := by decide +kernel
theorem dX0_wanderMud_18 : decode cX0_wanderMud 18 = .ok (.iconst 4, 1) := by decide +kernel
theorem dX0_wanderMud_19 : decode cX0_wanderMud 19 = .ok (.dup2, 1) := by decide +kernel
theorem dX0_wanderMud_20 : decode cX0_wanderMud 20 = .ok (.iaload, 1) := by decide +kernel
theorem dX0_wanderMud_21 : decode cX0_wanderMud 21 = .ok (.iload_n 3, 1) := by decide +kernel
theorem dX0_wanderMud_22 : decode cX0_wanderMud 22 = .ok (.isub, 1) := by decide +kernel
theorem dX0_wanderMud_23 : decode cX0_wanderMud 23 = .ok (.iastore, 1) := by decide +kernel
theorem dX0_wanderMud_24 : decode cX0_wanderMud 24 = .ok (.aload_n 1, 1) := by decide +kernel
theorem dX0_wanderMud_25 : decode cX0_wanderMud 25 = .ok (.iload_n 3, 1) := by decide +kernel
theorem dX0_wanderMud_26 : decode cX0_wanderMud 26 = .ok (.invokestatic 87, 3) := by decide +kernel
theorem dX0_wanderMud_29 : decode cX0_wanderMud 29 = .ok (.return_, 1) := by decide +kernel
theorem dX0_takeInWater_0 : decode cX0_takeInWater 0 = .ok (.aload_n 0, 1) := by decide +kernel
theorem dX0_takeInWater_1 : decode cX0_takeInWater 1 = .ok (.iconst 3, 1) := by decide +kernel
theorem dX0_takeInWater_2 : decode cX0_takeInWater 2 = .ok (.iaload, 1) := by decide +kernel
theorem dX0_takeInWater_3 : decode cX0_takeInWater 3 = .ok (.iload_n 1, 1) := by decide +kernel
theorem dX0_takeInWater_4 : decode cX0_takeInWater 4 = .ok (.iadd, 1) := by decide +kernel
theorem dX0_takeInWater_5 : decode cX0_takeInWater 5 = .ok (.istore_n 2, 1) := by decide +kernel
theorem dX0_takeInWater_6 : decode cX0_takeInWater 6 = .ok (.iconst 0, 1) := by decide +kernel
theorem dX0_takeInWater_7 : decode cX0_takeInWater 7 = .ok (.iload_n 2, 1) := by decide +kernel
theorem dX0_takeInWater_8 : decode cX0_takeInWater 8 = .ok (.sipush 200, 3) := by decide +kernel
theorem dX0_takeInWater_11 : decode cX0_takeInWater 11 = .ok (.isub, 1) := by decide +kernel
theorem dX0_takeInWater_12 : decode cX0_takeInWater 12 = .ok (.invokestatic 57, 3) := by decide +kernel
theorem dX0_takeInWater_15 : decode cX0_takeInWater 15 = .ok (.istore_n 3, 1) := by decide +kernel
theorem dX0_takeInWater_16 : decode cX0_takeInWater 16 = .ok (.aload_n 0, 1) := by decide +kernel
theorem dX0_takeInWater_17 : decode cX0_takeInWater 17 = .ok (.iconst 3, 1) := by decide +kernel
theorem dX0_takeInWater_18 : decode cX0_takeInWater 18 = .ok (.iload_n 2, 1) := by decide +kernel
theorem dX0_takeInWater_19 : decode cX0_takeInWater 19 = .ok (.iload_n 3, 1) := by decide +kernel
theorem dX0_takeInWater_20 : decode cX0_takeInWater 20 = .ok (.isub, 1) := by decide +kernel
theorem dX0_takeInWater_21 : decode cX0_takeInWater 21 = .ok (.iastore, 1) := by decide +kernel
theorem dX0_takeInWater_22 : decode cX0_takeInWater 22 = .ok (.aload_n 0, 1) := by decide +kernel
theorem dX0_takeInWater_23 : decode cX0_takeInWater 23 = .ok (.bipush 7, 2) := by decide +kernel
theorem dX0_takeInWater_25 : decode cX0_takeInWater 25 = .ok (.dup2, 1) := by decide +kernel
theorem dX0_takeInWater_26 : decode cX0_takeInWater 26 = .ok (.iaload, 1) := by decide +kernel
theorem dX0_takeInWater_27 : decode cX0_takeInWater 27 = .ok (.iload_n 3, 1) := by decide +kernel
theorem dX0_takeInWater_28 : decode cX0_takeInWater 28 = .ok (.iadd, 1) := by decide +kernel
theorem dX0_takeInWater_29 : decode cX0_takeInWater 29 = .ok (.iastore, 1) := by decide +kernel
theorem dX0_takeInWater_30 : decode cX0_takeInWater 30 = .ok (.return_, 1) := by decide +kernel
theorem dX0_takeInMud_0 : decode cX0_takeInMud 0 = .ok (.aload_n 0, 1) := by decide +kernel
theorem dX0_takeInMud_1 : decode cX0_takeInMud 1 = .ok (.iconst 4, 1) := by decide +kernel
theorem dX0_takeInMud_2 : decode cX0_takeInMud 2 = .ok (.bipush 99, 2) := by decide +kernel
theorem dX0_takeInMud_4 : decode cX0_takeInMud 4 = .ok (.aload_n 0, 1) := by decide +kernel
theorem dX0_takeInMud_5 : decode cX0_takeInMud 5 = .ok (.iconst 4, 1) := by decide +kernel
theorem dX0_takeInMud_6 : decode cX0_takeInMud 6 = .ok (.iaload, 1) := by decide +kernel
theorem dX0_takeInMud_7 : decode cX0_takeInMud 7 = .ok (.iload_n 1, 1) := by decide +kernel
theorem dX0_takeInMud_8 : decode cX0_takeInMud 8 = .ok (.iadd, 1) := by decide +kernel
theorem dX0_takeInMud_9 : decode cX0_takeInMud 9 = .ok (.invokestatic 63, 3) := by decide +kernel
theorem dX0_takeInMud_12 : decode cX0_takeInMud 12 = .ok (.iastore, 1) := by decide +kernel
theorem dX0_takeInMud_13 : decode cX0_takeInMud 13 = .ok (.return_, 1) := by decide +kernel
theorem dX0_growCrusts_0 : decode cX0_growCrusts 0 = .ok (.iconst 0, 1) := by decide +kernel
theorem dX0_growCrusts_1 : decode cX0_growCrusts 1 = .ok (.istore_n 1, 1) := by decide +kernel
theorem dX0_growCrusts_2 : decode cX0_growCrusts 2 = .ok (.iload_n 1, 1) := by decide +kernel
theorem dX0_growCrusts_3 : decode cX0_growCrusts 3 = .ok (.aload_n 0, 1) := by decide +kernel
theorem dX0_growCrusts_4 : decode cX0_growCrusts 4 = .ok (.getfield 23, 3) := by decide +kernel
theorem dX0_growCrusts_7 : decode cX0_growCrusts 7 = .ok (.if_icmp .ge 35, 3) := by decide +kernel
theorem dX0_growCrusts_10 : decode cX0_growCrusts 10 = .ok (.aload_n 0, 1) := by decide +kernel
theorem dX0_growCrusts_11 : decode cX0_growCrusts 11 = .ok (.getfield 16, 3) := by decide +kernel
theorem dX0_growCrusts_14 : decode cX0_growCrusts 14 = .ok (.iload_n 1, 1) := by decide +kernel
theorem dX0_growCrusts_15 : decode cX0_growCrusts 15 = .ok (.aaload, 1) := by decide +kernel
theorem dX0_growCrusts_16 : decode cX0_growCrusts 16 = .ok (.astore_n 2, 1) := by decide +kernel
theorem dX0_growCrusts_17 : decode cX0_growCrusts 17 = .ok (.aload_n 2, 1) := by decide +kernel
theorem dX0_growCrusts_18 : decode cX0_growCrusts 18 = .ok (.iconst 5, 1) := by decide +kernel
theorem dX0_growCrusts_19 : decode cX0_growCrusts 19 = .ok (.iaload, 1) := by decide +kernel
theorem dX0_growCrusts_20 : decode cX0_growCrusts 20 = .ok (.ifCond .le 16, 3) := by decide +kernel
theorem dX0_growCrusts_23 : decode cX0_growCrusts 23 = .ok (.aload_n 2, 1) := by decide +kernel
theorem dX0_growCrusts_24 : decode cX0_growCrusts 24 = .ok (.iconst 4, 1) := by decide +kernel
theorem dX0_growCrusts_25 : decode cX0_growCrusts 25 = .ok (.bipush 20, 2) := by decide +kernel
theorem dX0_growCrusts_27 : decode cX0_growCrusts 27 = .ok (.aload_n 2, 1) := by decide +kernel
theorem dX0_growCrusts_28 : decode cX0_growCrusts 28 = .ok (.iconst 4, 1) := by decide +kernel
theorem dX0_growCrusts_29 : decode cX0_growCrusts 29 = .ok (.iaload, 1) := by decide +kernel
theorem dX0_growCrusts_30 : decode cX0_growCrusts 30 = .ok (.iconst 1, 1) := by decide +kernel
theorem dX0_growCrusts_31 : decode cX0_growCrusts 31 = .ok (.iadd, 1) := by decide +kernel
theorem dX0_growCrusts_32 : decode cX0_growCrusts 32 = .ok (.invokestatic 63, 3) := by decide +kernel
theorem dX0_growCrusts_35 : decode cX0_growCrusts 35 = .ok (.iastore, 1) := by decide +kernel
theorem dX0_growCrusts_36 : decode cX0_growCrusts 36 = .ok (.iinc 1 1, 3) := by decide +kernel
theorem dX0_growCrusts_39 : decode cX0_growCrusts 39 = .ok (.goto (-37), 3) := by decide +kernel
theorem dX0_growCrusts_42 : decode cX0_growCrusts 42 = .ok (.return_, 1) := by decide +kernel
theorem dX0_drinkFrom_0 : decode cX0_drinkFrom 0 = .ok (.aload_n 0, 1) := by decide +kernel
theorem dX0_drinkFrom_1 : decode cX0_drinkFrom 1 = .ok (.iconst 4, 1) := by decide +kernel
theorem dX0_drinkFrom_2 : decode cX0_drinkFrom 2 = .ok (.iaload, 1) := by decide +kernel
theorem dX0_drinkFrom_3 : decode cX0_drinkFrom 3 = .ok (.bipush 50, 2) := by decide +kernel
theorem dX0_drinkFrom_5 : decode cX0_drinkFrom 5 = .ok (.if_icmp .lt 11, 3) := by decide +kernel
theorem dX0_drinkFrom_8 : decode cX0_drinkFrom 8 = .ok (.aload_n 0, 1) := by decide +kernel
theorem dX0_drinkFrom_9 : decode cX0_drinkFrom 9 = .ok (.iconst 2, 1) := by decide +kernel
theorem dX0_drinkFrom_10 : decode cX0_drinkFrom 10 = .ok (.iaload, 1) := by decide +kernel
theorem dX0_drinkFrom_11 : decode cX0_drinkFrom 11 = .ok (.iconst 2, 1) := by decide +kernel
theorem dX0_drinkFrom_12 : decode cX0_drinkFrom 12 = .ok (.idiv, 1) := by decide +kernel
theorem dX0_drinkFrom_13 : decode cX0_drinkFrom 13 = .ok (.goto 6, 3) := by decide +kernel
theorem dX0_drinkFrom_16 : decode cX0_drinkFrom 16 = .ok (.aload_n 0, 1) := by decide +kernel
theorem dX0_drinkFrom_17 : decode cX0_drinkFrom 17 = .ok (.iconst 2, 1) := by decide +kernel
theorem dX0_drinkFrom_18 : decode cX0_drinkFrom 18 = .ok (.iaload, 1) := by decide +kernel
theorem dX0_drinkFrom_19 : decode cX0_drinkFrom 19 = .ok (.istore_n 1, 1) := by decide +kernel
theorem dX0_drinkFrom_20 : decode cX0_drinkFrom 20 = .ok (.iload_n 1, 1) := by decide +kernel
theorem dX0_drinkFrom_21 : decode cX0_drinkFrom 21 = .ok (.aload_n 0, 1) := by decide +kernel
theorem dX0_drinkFrom_22 : decode cX0_drinkFrom 22 = .ok (.iconst 3, 1) := by decide +kernel
theorem dX0_drinkFrom_23 : decode cX0_drinkFrom 23 = .ok (.iaload, 1) := by decide +kernel
theorem dX0_drinkFrom_24 : decode cX0_drinkFrom 24 = .ok (.invokestatic 63, 3) := by decide +kernel
theorem dX0_drinkFrom_27 : decode cX0_drinkFrom 27 = .ok (.istore_n 2, 1) := by decide +kernel
theorem dX0_drinkFrom_28 : decode cX0_drinkFrom 28 = .ok (.aload_n 0, 1) := by decide +kernel
theorem dX0_drinkFrom_29 : decode cX0_drinkFrom 29 = .ok (.iconst 3, 1) := by decide +kernel
theorem dX0_drinkFrom_30 : decode cX0_drinkFrom 30 = .ok (.dup2, 1) := by decide +kernel
theorem dX0_drinkFrom_31 : decode cX0_drinkFrom 31 = .ok (.iaload, 1) := by decide +kernel
theorem dX0_drinkFrom_32 : decode cX0_drinkFrom 32 = .ok (.iload_n 2, 1) := by decide +kernel
theorem dX0_drinkFrom_33 : decode cX0_drinkFrom 33 = .ok (.isub, 1) := by decide +kernel
theorem dX0_drinkFrom_34 : decode cX0_drinkFrom 34 = .ok (.iastore, 1) := by decide +kernel
theorem dX0_drinkFrom_35 : decode cX0_drinkFrom 35 = .ok (.aload_n 0, 1) := by decide +kernel
theorem dX0_drinkFrom_36 : decode cX0_drinkFrom 36 = .ok (.iconst 5, 1) := by decide +kernel
theorem dX0_drinkFrom_37 : decode cX0_drinkFrom 37 = .ok (.iload_n 2, 1) := by decide +kernel
theorem dX0_drinkFrom_38 : decode cX0_drinkFrom 38 = .ok (.iastore, 1) := by decide +kernel
theorem dX0_drinkFrom_39 : decode cX0_drinkFrom 39 = .ok (.aload_n 0, 1) := by decide +kernel
theorem dX0_drinkFrom_40 : decode cX0_drinkFrom 40 = .ok (.bipush 6, 2) := by decide +kernel
theorem dX0_drinkFrom_42 : decode cX0_drinkFrom 42 = .ok (.dup2, 1) := by decide +kernel
theorem dX0_drinkFrom_43 : decode cX0_drinkFrom 43 = .ok (.iaload, 1) := by decide +kernel
theorem dX0_drinkFrom_44 : decode cX0_drinkFrom 44 = .ok (.iload_n 2, 1) := by decide +kernel
theorem dX0_drinkFrom_45 : decode cX0_drinkFrom 45 = .ok (.iadd, 1) := by decide +kernel
theorem dX0_drinkFrom_46 : decode cX0_drinkFrom 46 = .ok (.iastore, 1) := by decide +kernel
theorem dX0_drinkFrom_47 : decode cX0_drinkFrom 47 = .ok (.return_, 1) := by decide +kernel
set_option maxRecDepth 20000 in
theorem ggX1_init_X0_init : GoodIn wsX1_init wsX0_init := goodIn_r _ [11, 12, 2, 3, 13, 14, 15, 16, 17, 18, 19, 20, 21] (by decide +kernel) (by decide +kernel)
set_option maxRecDepth 20000 in
theorem gX1_init_X0_init : GoodIn wsX1_init (wsX0_init) := ggX1_init_X0_init
end
section
/-! PART 06: rows over one land's state S, the other kept; the reference's rows with a name for the new state -/
abbrev qmax (x y : Int32) : Int32 := if x < y then y else x
abbrev qmin (x y : Int32) : Int32 := if y < x then y else x
abbrev EV (z : QZ) {α : Type} (At : α → (Nat → va_E) → Prop) (lo hi : Nat) (ct : Nat → va_E) (s : State) (below : List Frame) (av : List Value) (mc ms : Nat) (post : α → Prop) : State → Prop := MQ below (va_Qv post (QJ z At lo hi ct) (qA (zn z) (za z) s.heap.size)) av.toArray s mc ms (qA (zn z) (za z) s.heap.size)
abbrev EI (z : QZ) {α : Type} (At : α → (Nat → va_E) → Prop) (lo hi : Nat) (ct : Nat → va_E) (s : State) (below : List Frame) (av : List Value) (mc ms : Nat) (post : Int32 → α → Prop) : State → Prop := MQ below (va_Qi post (QJ z At lo hi ct) (qA (zn z) (za z) s.heap.size)) av.toArray s mc ms (qA (zn z) (za z) s.heap.size)
abbrev EL (z : QZ) {α : Type} (At : α → (Nat → va_E) → Prop) (lo hi : Nat) (ct : Nat → va_E) (s : State) (below : List Frame) (av : List Value) (mc ms : Nat) (post : Int64 → α → Prop) : State → Prop := MQ below (va_Ql post (QJ z At lo hi ct) (qA (zn z) (za z) s.heap.size)) av.toArray s mc ms (qA (zn z) (za z) s.heap.size)
section QL
variable {p : Program} {l : Launch} {e : Env} {R : Room} {s : State} {m : MethodId} {args : Array Value} {below : List Frame} {meth : Method} {c : Code} {H : Heap} {locs : List Loc} {cells slots : Nat} {Q : State → Prop}
variable {cc : ByteArray} {nL : Nat} {ret : Option FieldType} {own : String} {ws : List Cond} {pc : Nat} {ls : Array Slot} {rest : List Value} {z : QZ} {c0 : Nat → va_E} {σ : Nat → QLs} {b : Nat} {S : QLs} {M : QMs}
theorem L_ldT (C0 : Cx p s m args meth c cc nL ret own ws) (hK : QK z s) (h : GW z (XAt z) 0 55 s.heap c0 (va_up σ b S) H locs) {i k : Nat} (hb : b < 2) (hi : i < 10) {x : Int32} (hx : x = nI k) (hk : k < 8) (hdg : decode cc pc = .ok (.iaload, 1)) (kk : W p l e R s m args below meth c H locs cells slots Q (F0 m (pc + 1) ls (.int (qT S i k) :: rest))) : W p l e R s m args below meth c H locs cells slots Q (F0 m pc ls (.int x :: .ref (za z (1 + 27 * b + (3 + i))) :: rest)) := by
  refine X_ldT C0 hK h hb hi hx hk hdg ?_
  rw [va_up_self]; exact kk
theorem L_stT (C0 : Cx p s m args meth c cc nL ret own ws) (hK : QK z s) (h : GW z (XAt z) 0 55 s.heap c0 (va_up σ b S) H locs) {i k : Nat} (hb : b < 2) (hi : i < 10) {x v : Int32} (hx : x = nI k) (hk : k < 8) (hdg : decode cc pc = .ok (.iastore, 1)) (kk : ∀ (H1 : Heap) (locs1 : List Loc) (S1 : QLs), S1 = sT S i (upd (qT S i) k v) → GW z (XAt z) 0 55 s.heap c0 (va_up σ b S1) H1 locs1 → W p l e R s m args below meth c H1 locs1 cells slots Q (F0 m (pc + 1) ls rest)) : W p l e R s m args below meth c H locs cells slots Q (F0 m pc ls (.int v :: .int x :: .ref (za z (1 + 27 * b + (3 + i))) :: rest)) := by
  refine X_stT C0 hK h hb hi hx hk hdg (fun H1 locs1 h1 => kk H1 locs1 _ rfl ?_)
  rw [va_up_self, bx_uu] at h1; exact h1
theorem L_ldP (C0 : Cx p s m args meth c cc nL ret own ws) (hK : QK z s) (h : GW z (XAt z) 0 55 s.heap c0 (va_up σ b S) H locs) {i k : Nat} (hb : b < 2) (hi : i < 14) {x : Int32} (hx : x = nI k) (hk : k < 10) (hdg : decode cc pc = .ok (.iaload, 1)) (kk : W p l e R s m args below meth c H locs cells slots Q (F0 m (pc + 1) ls (.int (qP S i k) :: rest))) : W p l e R s m args below meth c H locs cells slots Q (F0 m pc ls (.int x :: .ref (za z (1 + 27 * b + (13 + i))) :: rest)) := by
  refine X_ldP C0 hK h hb hi hx hk hdg ?_
  rw [va_up_self]; exact kk
theorem L_stP (C0 : Cx p s m args meth c cc nL ret own ws) (hK : QK z s) (h : GW z (XAt z) 0 55 s.heap c0 (va_up σ b S) H locs) {i k : Nat} (hb : b < 2) (hi : i < 14) {x v : Int32} (hx : x = nI k) (hk : k < 10) (hdg : decode cc pc = .ok (.iastore, 1)) (kk : ∀ (H1 : Heap) (locs1 : List Loc) (S1 : QLs), S1 = sP S i (upd (qP S i) k v) → GW z (XAt z) 0 55 s.heap c0 (va_up σ b S1) H1 locs1 → W p l e R s m args below meth c H1 locs1 cells slots Q (F0 m (pc + 1) ls rest)) : W p l e R s m args below meth c H locs cells slots Q (F0 m pc ls (.int v :: .int x :: .ref (za z (1 + 27 * b + (13 + i))) :: rest)) := by
  refine X_stP C0 hK h hb hi hx hk hdg (fun H1 locs1 h1 => kk H1 locs1 _ rfl ?_)
  rw [va_up_self, bx_uu] at h1; exact h1
theorem L_gL (C0 : Cx p s m args meth c cc nL ret own ws) (hK : QK z s) (h : GW z (XAt z) 0 55 s.heap c0 (va_up σ b S) H locs) (hb : b < 2) (hin : ∀ w ∈ u_ws RX0 TX0 5, w ∈ ws) (j : Nat) (hj : j < 5) {index : Nat} (hlink : Cond.fieldLink own index (TX0 j).1 (TX0 j).2.1 (TX0 j).2.2.1 ∈ ws) {v : Value} (hv : [Value.ref (za z (1 + 27 * b + 1)), .ref (za z (1 + 27 * b + 2)), .int (nI (qt S)), .int (nI (qp S)), .int (qD S)][j]? = some v) (hdg : decode cc pc = .ok (.getfield index, 3)) (kk : W p l e R s m args below meth c H locs cells slots Q (F0 m (pc + 3) ls (v :: rest))) : W p l e R s m args below meth c H locs cells slots Q (F0 m pc ls (.ref (za z (1 + 27 * b)) :: rest)) :=
  X_gL C0 hK h hb hin j hj hlink (by rw [va_up_self]; exact hv) hdg kk
theorem L_pt (C0 : Cx p s m args meth c cc nL ret own ws) (hK : QK z s) (h : GW z (XAt z) 0 55 s.heap c0 (va_up σ b S) H locs) (hb : b < 2) (hin : ∀ w ∈ u_ws RX0 TX0 5, w ∈ ws) {index : Nat} (hlink : Cond.fieldLink own index (TX0 2).1 (TX0 2).2.1 (TX0 2).2.2.1 ∈ ws) {x : Int32} {n : Nat} (hx : x = nI n) (hdg : decode cc pc = .ok (.putfield index, 3)) (kk : ∀ (H1 : Heap) (locs1 : List Loc) (S1 : QLs), S1 = st_ S n → GW z (XAt z) 0 55 s.heap c0 (va_up σ b S1) H1 locs1 → W p l e R s m args below meth c H1 locs1 cells slots Q (F0 m (pc + 3) ls rest)) : W p l e R s m args below meth c H locs cells slots Q (F0 m pc ls (.int x :: .ref (za z (1 + 27 * b)) :: rest)) := by
  refine X_pt C0 hK h hb hin hlink hx hdg (fun H1 locs1 h1 => kk H1 locs1 _ rfl ?_)
  rw [va_up_self, bx_uu] at h1; exact h1
theorem L_pp (C0 : Cx p s m args meth c cc nL ret own ws) (hK : QK z s) (h : GW z (XAt z) 0 55 s.heap c0 (va_up σ b S) H locs) (hb : b < 2) (hin : ∀ w ∈ u_ws RX0 TX0 5, w ∈ ws) {index : Nat} (hlink : Cond.fieldLink own index (TX0 3).1 (TX0 3).2.1 (TX0 3).2.2.1 ∈ ws) {x : Int32} {n : Nat} (hx : x = nI n) (hdg : decode cc pc = .ok (.putfield index, 3)) (kk : ∀ (H1 : Heap) (locs1 : List Loc) (S1 : QLs), S1 = sp_ S n → GW z (XAt z) 0 55 s.heap c0 (va_up σ b S1) H1 locs1 → W p l e R s m args below meth c H1 locs1 cells slots Q (F0 m (pc + 3) ls rest)) : W p l e R s m args below meth c H locs cells slots Q (F0 m pc ls (.int x :: .ref (za z (1 + 27 * b)) :: rest)) := by
  refine X_pp C0 hK h hb hin hlink hx hdg (fun H1 locs1 h1 => kk H1 locs1 _ rfl ?_)
  rw [va_up_self, bx_uu] at h1; exact h1
theorem L_pd (C0 : Cx p s m args meth c cc nL ret own ws) (hK : QK z s) (h : GW z (XAt z) 0 55 s.heap c0 (va_up σ b S) H locs) (hb : b < 2) (hin : ∀ w ∈ u_ws RX0 TX0 5, w ∈ ws) {index : Nat} (hlink : Cond.fieldLink own index (TX0 4).1 (TX0 4).2.1 (TX0 4).2.2.1 ∈ ws) {x : Int32} (hdg : decode cc pc = .ok (.putfield index, 3)) (kk : ∀ (H1 : Heap) (locs1 : List Loc) (S1 : QLs), S1 = sD S x → GW z (XAt z) 0 55 s.heap c0 (va_up σ b S1) H1 locs1 → W p l e R s m args below meth c H1 locs1 cells slots Q (F0 m (pc + 3) ls rest)) : W p l e R s m args below meth c H locs cells slots Q (F0 m pc ls (.int x :: .ref (za z (1 + 27 * b)) :: rest)) := by
  refine X_pd C0 hK h hb hin hlink hdg (fun H1 locs1 h1 => kk H1 locs1 _ rfl ?_)
  rw [va_up_self, bx_uu] at h1; exact h1
theorem N_stA (C0 : Cx p s m args meth c cc nL ret own ws) (hK : QK z s) (h : GW z (MAt z) 55 59 s.heap c0 M H locs) {k : Nat} {x v : Int32} (hx : x = nI k) (hk : k < 80) (hdg : decode cc pc = .ok (.iastore, 1)) (kk : ∀ (H1 : Heap) (locs1 : List Loc) (M1 : QMs), M1 = uA M (upd (mA M) k v) → GW z (MAt z) 55 59 s.heap c0 M1 H1 locs1 → W p l e R s m args below meth c H1 locs1 cells slots Q (F0 m (pc + 1) ls rest)) : W p l e R s m args below meth c H locs cells slots Q (F0 m pc ls (.int v :: .int x :: .ref (za z 56) :: rest)) :=
  M_stA C0 hK h hx hk hdg (fun H1 locs1 h1 => kk H1 locs1 _ rfl h1)
theorem N_stB (C0 : Cx p s m args meth c cc nL ret own ws) (hK : QK z s) (h : GW z (MAt z) 55 59 s.heap c0 M H locs) {k : Nat} {x v : Int32} (hx : x = nI k) (hk : k < 126) (hdg : decode cc pc = .ok (.iastore, 1)) (kk : ∀ (H1 : Heap) (locs1 : List Loc) (M1 : QMs), M1 = uB M (upd (mB M) k v) → GW z (MAt z) 55 59 s.heap c0 M1 H1 locs1 → W p l e R s m args below meth c H1 locs1 cells slots Q (F0 m (pc + 1) ls rest)) : W p l e R s m args below meth c H locs cells slots Q (F0 m pc ls (.int v :: .int x :: .ref (za z 57) :: rest)) :=
  M_stB C0 hK h hx hk hdg (fun H1 locs1 h1 => kk H1 locs1 _ rfl h1)
theorem N_stY (C0 : Cx p s m args meth c cc nL ret own ws) (hK : QK z s) (h : GW z (MAt z) 55 59 s.heap c0 M H locs) {k : Nat} {x v : Int32} (hx : x = nI k) (hk : k < 1) (hdg : decode cc pc = .ok (.iastore, 1)) (kk : ∀ (H1 : Heap) (locs1 : List Loc) (M1 : QMs), M1 = uY M (upd (mY M) k v) → GW z (MAt z) 55 59 s.heap c0 M1 H1 locs1 → W p l e R s m args below meth c H1 locs1 cells slots Q (F0 m (pc + 1) ls rest)) : W p l e R s m args below meth c H locs cells slots Q (F0 m pc ls (.int v :: .int x :: .ref (za z 58) :: rest)) :=
  M_stY C0 hK h hx hk hdg (fun H1 locs1 h1 => kk H1 locs1 _ rfl h1)
theorem N_ph (C0 : Cx p s m args meth c cc nL ret own ws) (hK : QK z s) (h : GW z (MAt z) 55 59 s.heap c0 M H locs) (hin : ∀ w ∈ u_ws RX2 TX2 6, w ∈ ws) {index : Nat} (hlink : Cond.fieldLink own index (TX2 0).1 (TX2 0).2.1 (TX2 0).2.2.1 ∈ ws) {x : Int32} (hdg : decode cc pc = .ok (.putfield index, 3)) (kk : ∀ (H1 : Heap) (locs1 : List Loc) (M1 : QMs), M1 = uh M x → GW z (MAt z) 55 59 s.heap c0 M1 H1 locs1 → W p l e R s m args below meth c H1 locs1 cells slots Q (F0 m (pc + 3) ls rest)) : W p l e R s m args below meth c H locs cells slots Q (F0 m pc ls (.int x :: .ref (za z 55) :: rest)) :=
  M_ph C0 hK h hin hlink hdg (fun H1 locs1 h1 => kk H1 locs1 _ rfl h1)
theorem N_pt (C0 : Cx p s m args meth c cc nL ret own ws) (hK : QK z s) (h : GW z (MAt z) 55 59 s.heap c0 M H locs) (hin : ∀ w ∈ u_ws RX2 TX2 6, w ∈ ws) {index : Nat} (hlink : Cond.fieldLink own index (TX2 1).1 (TX2 1).2.1 (TX2 1).2.2.1 ∈ ws) {x : Int32} {n : Nat} (hx : x = nI n) (hdg : decode cc pc = .ok (.putfield index, 3)) (kk : ∀ (H1 : Heap) (locs1 : List Loc) (M1 : QMs), M1 = ut M n → GW z (MAt z) 55 59 s.heap c0 M1 H1 locs1 → W p l e R s m args below meth c H1 locs1 cells slots Q (F0 m (pc + 3) ls rest)) : W p l e R s m args below meth c H locs cells slots Q (F0 m pc ls (.int x :: .ref (za z 55) :: rest)) :=
  M_pt C0 hK h hin hlink hx hdg (fun H1 locs1 h1 => kk H1 locs1 _ rfl h1)
theorem N_pp (C0 : Cx p s m args meth c cc nL ret own ws) (hK : QK z s) (h : GW z (MAt z) 55 59 s.heap c0 M H locs) (hin : ∀ w ∈ u_ws RX2 TX2 6, w ∈ ws) {index : Nat} (hlink : Cond.fieldLink own index (TX2 2).1 (TX2 2).2.1 (TX2 2).2.2.1 ∈ ws) {x : Int32} {n : Nat} (hx : x = nI n) (hdg : decode cc pc = .ok (.putfield index, 3)) (kk : ∀ (H1 : Heap) (locs1 : List Loc) (M1 : QMs), M1 = up_ M n → GW z (MAt z) 55 59 s.heap c0 M1 H1 locs1 → W p l e R s m args below meth c H1 locs1 cells slots Q (F0 m (pc + 3) ls rest)) : W p l e R s m args below meth c H locs cells slots Q (F0 m pc ls (.int x :: .ref (za z 55) :: rest)) :=
  M_pp C0 hK h hin hlink hx hdg (fun H1 locs1 h1 => kk H1 locs1 _ rfl h1)
theorem G_mmax (C0 : Cx p s m args meth c cc nL ret own ws) (hsz : ls.size = nL) {index : Nat} (h1 : Cond.methodLink own index Lib.Math.max.name ∈ ws) (h2 : Cond.static Lib.Math.max.name ∈ ws) (h3 : Cond.initialized "java/lang/Math" ∈ ws) (h4 : Cond.code Lib.Math.max.name Lib.Math.max.code 2 (some .int) ∈ ws) (hr : 1 ≤ R.frames ∧ (rest.map fun v => v.category).sum + 13 ≤ R.locals ∧ cells ≤ R.cells ∧ slots ≤ R.slots) {x y : Int32} (hdg : decode cc pc = .ok (.invokestatic index, 3)) (kk : W p l e R s m args below meth c H locs cells slots Q (F0 m (pc + 3) ls (.int (qmax x y) :: rest))) : W p l e R s m args below meth c H locs cells slots Q (F0 m pc ls (.int y :: .int x :: rest)) :=
  va_mmax C0.1 C0.2.1 (C0.2.2.2.1.trans hsz.symm) C0.2.2.2.2.1 (C0.2.2.2.2.2.1 _ h1) (C0.2.2.2.2.2.1 _ h2) (C0.2.2.2.2.2.1 _ h3) (C0.2.2.2.2.2.1 _ h4) hr.1 hr.2.1 hr.2.2.1 hr.2.2.2 hdg kk
theorem G_mmin (C0 : Cx p s m args meth c cc nL ret own ws) (hsz : ls.size = nL) {index : Nat} (h1 : Cond.methodLink own index Lib.Math.min.name ∈ ws) (h2 : Cond.static Lib.Math.min.name ∈ ws) (h3 : Cond.initialized "java/lang/Math" ∈ ws) (h4 : Cond.code Lib.Math.min.name Lib.Math.min.code 2 (some .int) ∈ ws) (hr : 1 ≤ R.frames ∧ (rest.map fun v => v.category).sum + 13 ≤ R.locals ∧ cells ≤ R.cells ∧ slots ≤ R.slots) {x y : Int32} (hdg : decode cc pc = .ok (.invokestatic index, 3)) (kk : W p l e R s m args below meth c H locs cells slots Q (F0 m (pc + 3) ls (.int (qmin x y) :: rest))) : W p l e R s m args below meth c H locs cells slots Q (F0 m pc ls (.int y :: .int x :: rest)) :=
  va_mmin C0.1 C0.2.1 (C0.2.2.2.1.trans hsz.symm) C0.2.2.2.2.1 (C0.2.2.2.2.2.1 _ h1) (C0.2.2.2.2.2.1 _ h2) (C0.2.2.2.2.2.1 _ h3) (C0.2.2.2.2.2.1 _ h4) hr.1 hr.2.1 hr.2.2.1 hr.2.2.2 hdg kk
end QL
theorem q_bool {c : Prop} {r : Int32} {B : Prop} (d : Decidable c) (h : r = (if c then 1 else 0) ∧ B) : (c ∧ r = 1 ∧ B) ∨ (¬ c ∧ r = 0 ∧ B) := by
  by_cases hc : c
  · exact Or.inl ⟨hc, by rw [h.1, if_pos hc], h.2⟩
  · exact Or.inr ⟨hc, by rw [h.1, if_neg hc], h.2⟩
theorem qT_sT (S : QLs) (i : Nat) (r : Nat → Int32) : qT (sT S i r) i = r := va_up_self _ _ _
theorem qT_sTn (S : QLs) {i j : Nat} (r : Nat → Int32) (h : j ≠ i) : qT (sT S i r) j = qT S j := va_up_ne _ _ h
theorem qP_sP (S : QLs) (i : Nat) (r : Nat → Int32) : qP (sP S i r) i = r := va_up_self _ _ _
theorem qP_sPn (S : QLs) {i j : Nat} (r : Nat → Int32) (h : j ≠ i) : qP (sP S i r) j = qP S j := va_up_ne _ _ h
theorem sT_sT (S : QLs) (i : Nat) (r r2 : Nat → Int32) : sT (sT S i r) i r2 = sT S i r2 := by unfold sT; rw [bx_uu]
theorem sP_sP (S : QLs) (i : Nat) (r r2 : Nat → Int32) : sP (sP S i r) i r2 = sP S i r2 := by unfold sP; rw [bx_uu]
theorem qP_sT (S : QLs) (i : Nat) (r : Nat → Int32) : qP (sT S i r) = qP S := rfl
theorem qT_sP (S : QLs) (i : Nat) (r : Nat → Int32) : qT (sP S i r) = qT S := rfl
end
section
/-! PART 07: what the class's methods do, as functions -/
theorem q_inc (i k : Nat) : nI i + Int32.ofInt (k : Int) = nI (i + k) := by
  have h : Int32.ofInt (k : Int) = nI k := by
    unfold nI
    rfl
  rw [h]; exact nI_add i k
def itN {α : Type} (f : Nat → α → α) : Nat → α → α
  | 0, a => a
  | n + 1, a => f n (itN f n a)
def qsum (f : Nat → Int32) : Nat → Int32
  | 0 => 0
  | n + 1 => qsum f n + f n
def takeW (r : Nat → Int32) (x : Int32) : Nat → Int32 := upd (upd r 3 (r 3 + x - qmax 0 (r 3 + x - 200))) 7 (upd r 3 (r 3 + x - qmax 0 (r 3 + x - 200)) 7 + qmax 0 (r 3 + x - 200))
def takeM (r : Nat → Int32) (x : Int32) : Nat → Int32 := upd r 4 (qmin 99 (r 4 + x))
def feedR (r : Nat → Int32) : Nat → Int32 := takeM (takeW r (r 1)) (takeW r (r 1) 1 / 4)
def drinkR (r : Nat → Int32) : Nat → Int32 :=
  let k : Int32 := if r 4 < 50 then r 2 else r 2 / 2
  let x : Int32 := qmin k (r 3)
  let r1 := upd r 3 (r 3 - x)
  let r2 := upd r1 5 x
  upd r2 6 (r2 6 + x)
def headR (r : Nat → Int32) : Int32 := 10 * r 0 + r 3
def wander (S : QLs) (f t : Nat) (x : Int32) : QLs :=
  if 0 < qT S f 3 then
    let y : Int32 := qT S f 4 * x / qT S f 3
    let S1 := sT S f (upd (qT S f) 4 (qT S f 4 - y))
    sT S1 t (takeM (qT S1 t) y)
  else S
theorem q_add {x y : Int32} {a b : Nat} (hx : x = nI a) (hy : y = nI b) : x + y = nI (a + b) := by rw [hx, hy]; exact nI_add a b
theorem q_mul {x y : Int32} {a b : Nat} (hx : x = nI a) (hy : y = nI b) : x * y = nI (a * b) := by rw [hx, hy]; exact pk_mul a b
def qf (S : QLs) (k : Nat) : Nat := (qP S k 0).toNatClampNeg
def qo (S : QLs) (k : Nat) : Nat := (qP S k 1).toNatClampNeg
/-- the land is in order: its pipes lead from tank to another tank -/
def LOk (S : QLs) : Prop := qt S ≤ 10 ∧ qp S ≤ 14 ∧ ∀ k, k < qp S → qf S k < qt S ∧ qo S k < qt S ∧ qf S k ≠ qo S k ∧ qP S k 0 = nI (qf S k) ∧ qP S k 1 = nI (qo S k)
def canF (S : QLs) (k : Nat) : Int32 :=
  let d := headR (qT S (qf S k)) - headR (qT S (qo S k))
  if d ≤ 0 then 0 else if qP S k 3 ≤ d then qmin (qmin (qmax 0 (qP S k 2 - qP S k 4)) (d / 10 + 1)) (qT S (qf S k) 3) else 0
def ofPipeL (S : QLs) (k w : Nat) : Int32 := if w = 8 then canF S k else qP S k w
def flowL (S : QLs) (k : Nat) : QLs :=
  let x := canF S k
  let y := qmin (qP S k 9) x
  let S1 := wander S (qf S k) (qo S k) x
  let S2 := sT S1 (qf S k) (upd (qT S1 (qf S k)) 3 (qT S1 (qf S k) 3 - x))
  let S3 := sT S2 (qo S k) (takeW (qT S2 (qo S k)) (x - y))
  let S4 := sP S3 k (upd (qP S3 k) 5 x)
  let S5 := sP S4 k (upd (qP S4 k) 6 y)
  sP S5 k (upd (qP S5 k) 7 (qP S5 k 7 + y))
def crustL (S : QLs) (k : Nat) : QLs := if qP S k 5 ≤ 0 then S else sP S k (upd (qP S k) 4 (qmin 20 (qP S k 4 + 1)))
abbrev feedF : Nat → QLs → QLs := fun i X => sT X i (feedR (qT X i))
abbrev flowF : Nat → QLs → QLs := fun k X => flowL X k
abbrev crustF : Nat → QLs → QLs := fun k X => crustL X k
abbrev drinkF : Nat → QLs → QLs := fun i X => sT X i (drinkR (qT X i))
def crustAll (S : QLs) : QLs := itN crustF (qp S) S
def dayL (S : QLs) : QLs :=
  let S1 := itN feedF (qt S) S
  let S2 := itN flowF (qp S1) S1
  let S3 := if qD S2 - qD S2 / 4 * 4 = 0 then crustAll S2 else S2
  let S4 := itN drinkF (qt S3) S3
  sD S4 (qD S4 + 1)
abbrev dayF : Nat → QLs → QLs := fun _ X => dayL X
def sumT (S : QLs) (k : Nat) : Int32 := qsum (fun j => qT S j k) (qt S)
def sumP (S : QLs) (k : Nat) : Int32 := qsum (fun j => qP S j k) (qp S)
def qthc (S : QLs) : Nat → Int32
  | 0 => 0
  | n + 1 => if qT S n 5 < qT S n 2 then qthc S n + 1 else qthc S n
def ofAllL (S : QLs) : Nat → Int32
  | 0 => qD S
  | 1 => nI (qt S)
  | 2 => nI (qp S)
  | 3 => sumT S 3
  | 4 => sumT S 4
  | 5 => sumT S 6
  | 6 => sumP S 7
  | 7 => sumT S 7
  | _ => qthc S (qt S)
def addT (S : QLs) (x y v : Int32) : QLs := st_ (sT S (qt S) (upd (upd (upd (qT S (qt S)) 0 x) 1 y) 2 v)) (qt S + 1)
def addP (S : QLs) (x y v w : Int32) : QLs := sp_ (sP S (qp S) (upd (upd (upd (upd (qP S (qp S)) 0 x) 1 y) 2 v) 3 w)) (qp S + 1)
def rStep (S : QLs) (x : Int32) (k : Nat) (r : Int32) : Int32 :=
  if qP S k 0 = x then r ||| (1 <<< (qP S k 1 &&& 31)) else if r &&& (1 <<< (qP S k 0 &&& 31)) = 0 then r else r ||| (1 <<< (qP S k 1 &&& 31))
def rRound (S : QLs) (x : Int32) (r : Int32) : Int32 := itN (rStep S x) (qp S) r
def reachL (S : QLs) (x : Int32) : Int32 := itN (fun _ r => rRound S x r) (qt S) 0
/-- the same shape: counts, and where each pipe leads -/
def Shp (S S2 : QLs) : Prop := qt S2 = qt S ∧ qp S2 = qp S ∧ ∀ k, qP S2 k 0 = qP S k 0 ∧ qP S2 k 1 = qP S k 1
theorem Shp.rf {S : QLs} : Shp S S := ⟨rfl, rfl, fun _ => ⟨rfl, rfl⟩⟩
theorem Shp.trans {S S2 S3 : QLs} (h : Shp S S2) (h2 : Shp S2 S3) : Shp S S3 := ⟨h2.1.trans h.1, h2.2.1.trans h.2.1, fun k => ⟨(h2.2.2 k).1.trans (h.2.2 k).1, (h2.2.2 k).2.trans (h.2.2 k).2⟩⟩
theorem Shp.ok {S S2 : QLs} (h : Shp S S2) (hk : LOk S) : LOk S2 := by
  obtain ⟨h1, h2, h3⟩ := h
  obtain ⟨k1, k2, k3⟩ := hk
  have e0 : ∀ k, qf S2 k = qf S k := fun k => by unfold qf; rw [(h3 k).1]
  have e1 : ∀ k, qo S2 k = qo S k := fun k => by unfold qo; rw [(h3 k).2]
  refine ⟨by rw [h1]; exact k1, by rw [h2]; exact k2, fun k hk => ?_⟩
  rw [h2] at hk
  rw [e0, e1, h1, (h3 k).1, (h3 k).2]
  exact k3 k hk
theorem shp_sT {S : QLs} {i : Nat} {r : Nat → Int32} : Shp S (sT S i r) := ⟨rfl, rfl, fun _ => ⟨rfl, rfl⟩⟩
theorem shp_sD {S : QLs} {d : Int32} : Shp S (sD S d) := ⟨rfl, rfl, fun _ => ⟨rfl, rfl⟩⟩
theorem shp_sP {S : QLs} {i j : Nat} {v : Int32} (hj : 2 ≤ j) : Shp S (sP S i (upd (qP S i) j v)) := by
  refine ⟨rfl, rfl, fun k => ?_⟩
  by_cases e : k = i
  · subst e
    rw [qP_sP]
    exact ⟨pk_un (by omega), pk_un (by omega)⟩
  · rw [qP_sPn _ _ e]; exact ⟨rfl, rfl⟩
theorem shp_it {f : Nat → QLs → QLs} (hf : ∀ i S, Shp S (f i S)) (S : QLs) : ∀ n, Shp S (itN f n S)
  | 0 => Shp.rf
  | n + 1 => (shp_it hf S n).trans (hf n _)
theorem shp_wander {S : QLs} {f t : Nat} {x : Int32} : Shp S (wander S f t x) := by
  unfold wander
  split
  · exact shp_sT.trans shp_sT
  · exact Shp.rf
theorem shp_flow {S : QLs} {k : Nat} : Shp S (flowL S k) := ((((shp_wander.trans shp_sT).trans shp_sT).trans (shp_sP (by decide))).trans (shp_sP (by decide))).trans (shp_sP (by decide))
theorem shp_crust {S : QLs} {k : Nat} : Shp S (crustL S k) := by
  unfold crustL
  split
  · exact Shp.rf
  · exact shp_sP (by decide)
theorem shp_crustAll {S : QLs} : Shp S (crustAll S) := shp_it (f := crustF) (fun _ _ => shp_crust) S _
theorem shp_day (S : QLs) : Shp S (dayL S) := by
  unfold dayL
  refine Shp.trans ?_ shp_sD
  refine Shp.trans ?_ (shp_it (f := drinkF) (fun _ _ => shp_sT) _ _)
  refine Shp.trans ((shp_it (f := feedF) (fun _ _ => shp_sT) S (qt S)).trans (shp_it (f := flowF) (fun _ _ => shp_flow) _ (qp (itN feedF (qt S) S)))) ?_
  show Shp _ (if _ then _ else _)
  split
  · exact shp_crustAll
  · exact Shp.rf
theorem shp_days (S : QLs) (n : Nat) : Shp S (itN dayF n S) := shp_it (f := dayF) (fun _ X => shp_day X) S n
theorem rStep_a {S : QLs} {x r : Int32} {k : Nat} (h : qP S k 0 = x) : rStep S x k r = r ||| (1 <<< (qP S k 1 &&& 31)) := if_pos h
theorem rStep_b {S : QLs} {x r : Int32} {k : Nat} (h : ¬ qP S k 0 = x) (h2 : r &&& (1 <<< (qP S k 0 &&& 31)) = 0) : rStep S x k r = r := (if_neg h).trans (if_pos h2)
theorem rStep_c {S : QLs} {x r : Int32} {k : Nat} (h : ¬ qP S k 0 = x) (h2 : ¬ r &&& (1 <<< (qP S k 0 &&& 31)) = 0) : rStep S x k r = r ||| (1 <<< (qP S k 1 &&& 31)) := (if_neg h).trans (if_neg h2)
end
section
set_option maxHeartbeats 4000000 in
set_option maxRecDepth 100000 in
theorem c_X0_takeInWater (l : Launch) (z : QZ) (σ : Nat → QLs) (b : Nat) (hB : b < 2) (S : QLs) (i : Nat) (hi : i < 10) (x : Int32) : GV l yX0_takeInWater wsX0_takeInWater ({ frames := 1, cells := 0, slots := 0, locals := 13 } : Room) z [.ref (za z (1 + 27 * b + (3 + i))), .int x] 0 0 (XAt z) 0 55 (va_up σ b S) (fun σ' => σ' = va_up σ b (sT S i (takeW (qT S i) x))) := by
  intro ct sz hn hq hat
  refine q_entry (lo := 0) (cc := cX0_takeInWater) (maxL := 4) (ret := none) (by decide) rfl (Nat.le_of_ble_eq_true rfl) hn hq hat ?_
  intro p e s m below meth c ls C0 hK hsz h hl
  subst hsz
  obtain ⟨hx, hb, hr, hml, hown, hts, hlocks⟩ := id C0
  have hl : lv_has ls 4 [(0, .ref (za z (1 + 27 * b + (3 + i)))), (1, .int x)] := hl
  refine lv_aload_n hx hb dX0_takeInWater_0 rfl (lv_at hl 0 rfl) ?_
  refine lv_iconst (v := 3) hx hb dX0_takeInWater_1 (by decide) ?_
  refine L_ldT C0 hK h hB hi (k := 3) rfl (by decide) dX0_takeInWater_2 ?_
  refine lv_iload_n hx hb dX0_takeInWater_3 rfl (lv_at hl 1 rfl) ?_
  refine lv_iadd hx hb dX0_takeInWater_4 ?_
  refine lv_istore_n (lv' := [(2, .int ((qT S i 3) + x)), (0, .ref (za z (1 + 27 * b + (3 + i)))), (1, .int x)]) hx hb dX0_takeInWater_5 rfl hl (by decide) rfl (fun ls hl => ?_)
  refine lv_iconst (v := 0) hx hb dX0_takeInWater_6 (by decide) ?_
  refine lv_iload_n hx hb dX0_takeInWater_7 rfl (lv_at hl 0 rfl) ?_
  refine lv_sipush (v := 200) hx hb dX0_takeInWater_8 (by decide) ?_
  refine lv_isub hx hb dX0_takeInWater_11 ?_
  refine G_mmax C0 hl.1 (by decide +kernel) (by decide +kernel) (by decide +kernel) (by decide +kernel) ⟨Nat.le_of_ble_eq_true rfl, Nat.le_of_ble_eq_true rfl, Nat.le_of_ble_eq_true rfl, Nat.le_of_ble_eq_true rfl⟩ dX0_takeInWater_12 ?_
  refine lv_istore_n (lv' := [(3, .int (qmax 0 (((qT S i 3) + x) - 200))), (2, .int ((qT S i 3) + x)), (0, .ref (za z (1 + 27 * b + (3 + i)))), (1, .int x)]) hx hb dX0_takeInWater_15 rfl hl (by decide) rfl (fun ls hl => ?_)
  refine lv_aload_n hx hb dX0_takeInWater_16 rfl (lv_at hl 2 rfl) ?_
  refine lv_iconst (v := 3) hx hb dX0_takeInWater_17 (by decide) ?_
  refine lv_iload_n hx hb dX0_takeInWater_18 rfl (lv_at hl 1 rfl) ?_
  refine lv_iload_n hx hb dX0_takeInWater_19 rfl (lv_at hl 0 rfl) ?_
  refine lv_isub hx hb dX0_takeInWater_20 ?_
  refine L_stT C0 hK h hB hi (k := 3) rfl (by decide) dX0_takeInWater_21 (fun H locs S1 eS1 h => ?_)
  refine lv_aload_n hx hb dX0_takeInWater_22 rfl (lv_at hl 2 rfl) ?_
  refine lv_bipush (v := 7) hx hb dX0_takeInWater_23 (by decide) ?_
  refine lv_dup2_11 hx hb dX0_takeInWater_25 rfl rfl ?_
  refine L_ldT C0 hK h hB hi (k := 7) rfl (by decide) dX0_takeInWater_26 ?_
  refine lv_iload_n hx hb dX0_takeInWater_27 rfl (lv_at hl 0 rfl) ?_
  refine lv_iadd hx hb dX0_takeInWater_28 ?_
  refine L_stT C0 hK h hB hi (k := 7) rfl (by decide) dX0_takeInWater_29 (fun H locs S2 eS2 h => ?_)
  exact G_vret C0 hK h (congrArg (va_up σ b) (by subst eS2 eS1; first | rfl | (simp only [qT_sT, sT_sT, qP_sP, sP_sP]; rfl))) (Nat.le_of_ble_eq_true rfl) (Nat.le_of_ble_eq_true rfl) dX0_takeInWater_30
set_option maxHeartbeats 4000000 in
set_option maxRecDepth 100000 in
theorem c_X0_takeInMud (l : Launch) (z : QZ) (σ : Nat → QLs) (b : Nat) (hB : b < 2) (S : QLs) (i : Nat) (hi : i < 10) (x : Int32) : GV l yX0_takeInMud wsX0_takeInMud ({ frames := 1, cells := 0, slots := 0, locals := 15 } : Room) z [.ref (za z (1 + 27 * b + (3 + i))), .int x] 0 0 (XAt z) 0 55 (va_up σ b S) (fun σ' => σ' = va_up σ b (sT S i (takeM (qT S i) x))) := by
  intro ct sz hn hq hat
  refine q_entry (lo := 0) (cc := cX0_takeInMud) (maxL := 2) (ret := none) (by decide) rfl (Nat.le_of_ble_eq_true rfl) hn hq hat ?_
  intro p e s m below meth c ls C0 hK hsz h hl
  subst hsz
  obtain ⟨hx, hb, hr, hml, hown, hts, hlocks⟩ := id C0
  have hl : lv_has ls 2 [(0, .ref (za z (1 + 27 * b + (3 + i)))), (1, .int x)] := hl
  refine lv_aload_n hx hb dX0_takeInMud_0 rfl (lv_at hl 0 rfl) ?_
  refine lv_iconst (v := 4) hx hb dX0_takeInMud_1 (by decide) ?_
  refine lv_bipush (v := 99) hx hb dX0_takeInMud_2 (by decide) ?_
  refine lv_aload_n hx hb dX0_takeInMud_4 rfl (lv_at hl 0 rfl) ?_
  refine lv_iconst (v := 4) hx hb dX0_takeInMud_5 (by decide) ?_
  refine L_ldT C0 hK h hB hi (k := 4) rfl (by decide) dX0_takeInMud_6 ?_
  refine lv_iload_n hx hb dX0_takeInMud_7 rfl (lv_at hl 1 rfl) ?_
  refine lv_iadd hx hb dX0_takeInMud_8 ?_
  refine G_mmin C0 hl.1 (by decide +kernel) (by decide +kernel) (by decide +kernel) (by decide +kernel) ⟨Nat.le_of_ble_eq_true rfl, Nat.le_of_ble_eq_true rfl, Nat.le_of_ble_eq_true rfl, Nat.le_of_ble_eq_true rfl⟩ dX0_takeInMud_9 ?_
  refine L_stT C0 hK h hB hi (k := 4) rfl (by decide) dX0_takeInMud_12 (fun H locs S1 eS1 h => ?_)
  exact G_vret C0 hK h (congrArg (va_up σ b) (by subst eS1; first | rfl | (simp only [qT_sT, sT_sT, qP_sP, sP_sP]; rfl))) (Nat.le_of_ble_eq_true rfl) (Nat.le_of_ble_eq_true rfl) dX0_takeInMud_13
set_option maxHeartbeats 4000000 in
set_option maxRecDepth 100000 in
theorem c_X0_feed (l : Launch) (z : QZ) (σ : Nat → QLs) (b : Nat) (hB : b < 2) (S : QLs) (i : Nat) (hi : i < 10) : GV l yX0_feed wsX0_feed ({ frames := 2, cells := 0, slots := 0, locals := 36 } : Room) z [.ref (za z (1 + 27 * b + (3 + i)))] 0 0 (XAt z) 0 55 (va_up σ b S) (fun σ' => σ' = va_up σ b (sT S i (feedR (qT S i)))) := by
  intro ct sz hn hq hat
  refine q_entry (lo := 0) (cc := cX0_feed) (maxL := 1) (ret := none) (by decide) rfl (Nat.le_of_ble_eq_true rfl) hn hq hat ?_
  intro p e s m below meth c ls C0 hK hsz h hl
  subst hsz
  obtain ⟨hx, hb, hr, hml, hown, hts, hlocks⟩ := id C0
  have hl : lv_has ls 1 [(0, .ref (za z (1 + 27 * b + (3 + i))))] := hl
  refine lv_aload_n hx hb dX0_feed_0 rfl (lv_at hl 0 rfl) ?_
  refine lv_aload_n hx hb dX0_feed_1 rfl (lv_at hl 0 rfl) ?_
  refine lv_iconst (v := 1) hx hb dX0_feed_2 (by decide) ?_
  refine L_ldT C0 hK h hB hi (k := 1) rfl (by decide) dX0_feed_3 ?_
  refine S_callSv C0 hK h (c_X0_takeInWater l z σ b hB S i hi (qT S i 1)) (va_cwS 2 hts gX0_feed_X0_takeInWater rfl rfl rfl (by decide +kernel) ⟨Nat.le_of_ble_eq_true rfl, Nat.le_of_ble_eq_true rfl⟩) rfl hl.1 (rest := []) rfl (Nat.le_of_ble_eq_true rfl) ⟨Nat.le_of_ble_eq_true rfl, Nat.le_of_ble_eq_true rfl⟩ dX0_feed_4 (fun u H locs hp h => ?_)
  obtain ⟨S1, eS1⟩ : ∃ z9, z9 = sT S i (takeW (qT S i) (qT S i 1)) := ⟨_, rfl⟩
  rw [← eS1] at hp
  subst hp
  refine lv_aload_n hx hb dX0_feed_7 rfl (lv_at hl 0 rfl) ?_
  refine lv_aload_n hx hb dX0_feed_8 rfl (lv_at hl 0 rfl) ?_
  refine lv_iconst (v := 1) hx hb dX0_feed_9 (by decide) ?_
  refine L_ldT C0 hK h hB hi (k := 1) rfl (by decide) dX0_feed_10 ?_
  refine lv_iconst (v := 4) hx hb dX0_feed_11 (by decide) ?_
  refine lv_idiv hx hb dX0_feed_12 (by decide) ?_
  refine S_callSv C0 hK h (c_X0_takeInMud l z σ b hB S1 i hi ((qT S1 i 1) / 4)) (va_cwS 2 hts gX0_feed_X0_takeInMud rfl rfl rfl (by decide +kernel) ⟨Nat.le_of_ble_eq_true rfl, Nat.le_of_ble_eq_true rfl⟩) rfl hl.1 (rest := []) rfl (Nat.le_of_ble_eq_true rfl) ⟨Nat.le_of_ble_eq_true rfl, Nat.le_of_ble_eq_true rfl⟩ dX0_feed_13 (fun u H locs hp h => ?_)
  obtain ⟨S2, eS2⟩ : ∃ z9, z9 = sT S1 i (takeM (qT S1 i) ((qT S1 i 1) / 4)) := ⟨_, rfl⟩
  rw [← eS2] at hp
  subst hp
  exact G_vret C0 hK h (congrArg (va_up σ b) (by subst eS2 eS1; first | rfl | (simp only [qT_sT, sT_sT, qP_sP, sP_sP]; rfl))) (Nat.le_of_ble_eq_true rfl) (Nat.le_of_ble_eq_true rfl) dX0_feed_16
set_option maxHeartbeats 4000000 in
set_option maxRecDepth 100000 in
theorem c_X0_drinkFrom (l : Launch) (z : QZ) (σ : Nat → QLs) (b : Nat) (hB : b < 2) (S : QLs) (i : Nat) (hi : i < 10) : GV l yX0_drinkFrom wsX0_drinkFrom ({ frames := 1, cells := 0, slots := 0, locals := 13 } : Room) z [.ref (za z (1 + 27 * b + (3 + i)))] 0 0 (XAt z) 0 55 (va_up σ b S) (fun σ' => σ' = va_up σ b (sT S i (drinkR (qT S i)))) := by
  intro ct sz hn hq hat
  refine q_entry (lo := 0) (cc := cX0_drinkFrom) (maxL := 3) (ret := none) (by decide) rfl (Nat.le_of_ble_eq_true rfl) hn hq hat ?_
  intro p e s m below meth c ls C0 hK hsz h hl
  subst hsz
  obtain ⟨hx, hb, hr, hml, hown, hts, hlocks⟩ := id C0
  have hl : lv_has ls 3 [(0, .ref (za z (1 + 27 * b + (3 + i))))] := hl
  refine lv_aload_n hx hb dX0_drinkFrom_0 rfl (lv_at hl 0 rfl) ?_
  refine lv_iconst (v := 4) hx hb dX0_drinkFrom_1 (by decide) ?_
  refine L_ldT C0 hK h hB hi (k := 4) rfl (by decide) dX0_drinkFrom_2 ?_
  refine lv_bipush (v := 50) hx hb dX0_drinkFrom_3 (by decide) ?_
  refine lv_icmp_lt (tgt := 16) hx hb dX0_drinkFrom_5 (by decide) (fun c_5 => ?_) (fun c_5 => ?_)
  · refine lv_aload_n hx hb dX0_drinkFrom_16 rfl (lv_at hl 0 rfl) ?_
    refine lv_iconst (v := 2) hx hb dX0_drinkFrom_17 (by decide) ?_
    refine L_ldT C0 hK h hB hi (k := 2) rfl (by decide) dX0_drinkFrom_18 ?_
    refine lv_istore_n (lv' := [(1, .int (qT S i 2)), (0, .ref (za z (1 + 27 * b + (3 + i))))]) hx hb dX0_drinkFrom_19 rfl hl (by decide) rfl (fun ls hl => ?_)
    refine lv_iload_n hx hb dX0_drinkFrom_20 rfl (lv_at hl 0 rfl) ?_
    refine lv_aload_n hx hb dX0_drinkFrom_21 rfl (lv_at hl 1 rfl) ?_
    refine lv_iconst (v := 3) hx hb dX0_drinkFrom_22 (by decide) ?_
    refine L_ldT C0 hK h hB hi (k := 3) rfl (by decide) dX0_drinkFrom_23 ?_
    refine G_mmin C0 hl.1 (by decide +kernel) (by decide +kernel) (by decide +kernel) (by decide +kernel) ⟨Nat.le_of_ble_eq_true rfl, Nat.le_of_ble_eq_true rfl, Nat.le_of_ble_eq_true rfl, Nat.le_of_ble_eq_true rfl⟩ dX0_drinkFrom_24 ?_
    refine lv_istore_n (lv' := [(2, .int (qmin (qT S i 2) (qT S i 3))), (1, .int (qT S i 2)), (0, .ref (za z (1 + 27 * b + (3 + i))))]) hx hb dX0_drinkFrom_27 rfl hl (by decide) rfl (fun ls hl => ?_)
    refine lv_aload_n hx hb dX0_drinkFrom_28 rfl (lv_at hl 2 rfl) ?_
    refine lv_iconst (v := 3) hx hb dX0_drinkFrom_29 (by decide) ?_
    refine lv_dup2_11 hx hb dX0_drinkFrom_30 rfl rfl ?_
    refine L_ldT C0 hK h hB hi (k := 3) rfl (by decide) dX0_drinkFrom_31 ?_
    refine lv_iload_n hx hb dX0_drinkFrom_32 rfl (lv_at hl 0 rfl) ?_
    refine lv_isub hx hb dX0_drinkFrom_33 ?_
    refine L_stT C0 hK h hB hi (k := 3) rfl (by decide) dX0_drinkFrom_34 (fun H locs S1 eS1 h => ?_)
    refine lv_aload_n hx hb dX0_drinkFrom_35 rfl (lv_at hl 2 rfl) ?_
    refine lv_iconst (v := 5) hx hb dX0_drinkFrom_36 (by decide) ?_
    refine lv_iload_n hx hb dX0_drinkFrom_37 rfl (lv_at hl 0 rfl) ?_
    refine L_stT C0 hK h hB hi (k := 5) rfl (by decide) dX0_drinkFrom_38 (fun H locs S2 eS2 h => ?_)
    refine lv_aload_n hx hb dX0_drinkFrom_39 rfl (lv_at hl 2 rfl) ?_
    refine lv_bipush (v := 6) hx hb dX0_drinkFrom_40 (by decide) ?_
    refine lv_dup2_11 hx hb dX0_drinkFrom_42 rfl rfl ?_
    refine L_ldT C0 hK h hB hi (k := 6) rfl (by decide) dX0_drinkFrom_43 ?_
    refine lv_iload_n hx hb dX0_drinkFrom_44 rfl (lv_at hl 0 rfl) ?_
    refine lv_iadd hx hb dX0_drinkFrom_45 ?_
    refine L_stT C0 hK h hB hi (k := 6) rfl (by decide) dX0_drinkFrom_46 (fun H locs S3 eS3 h => ?_)
    exact G_vret C0 hK h (congrArg (va_up σ b) (by subst eS3 eS2 eS1; simp only [qT_sT, sT_sT, drinkR, c_5, if_true, if_false])) (Nat.le_of_ble_eq_true rfl) (Nat.le_of_ble_eq_true rfl) dX0_drinkFrom_47
  · refine lv_aload_n hx hb dX0_drinkFrom_8 rfl (lv_at hl 0 rfl) ?_
    refine lv_iconst (v := 2) hx hb dX0_drinkFrom_9 (by decide) ?_
    refine L_ldT C0 hK h hB hi (k := 2) rfl (by decide) dX0_drinkFrom_10 ?_
    refine lv_iconst (v := 2) hx hb dX0_drinkFrom_11 (by decide) ?_
    refine lv_idiv hx hb dX0_drinkFrom_12 (by decide) ?_
    refine lv_goto (tgt := 19) hx hb dX0_drinkFrom_13 (by decide) ?_
    refine lv_istore_n (lv' := [(1, .int ((qT S i 2) / 2)), (0, .ref (za z (1 + 27 * b + (3 + i))))]) hx hb dX0_drinkFrom_19 rfl hl (by decide) rfl (fun ls hl => ?_)
    refine lv_iload_n hx hb dX0_drinkFrom_20 rfl (lv_at hl 0 rfl) ?_
    refine lv_aload_n hx hb dX0_drinkFrom_21 rfl (lv_at hl 1 rfl) ?_
    refine lv_iconst (v := 3) hx hb dX0_drinkFrom_22 (by decide) ?_
    refine L_ldT C0 hK h hB hi (k := 3) rfl (by decide) dX0_drinkFrom_23 ?_
    refine G_mmin C0 hl.1 (by decide +kernel) (by decide +kernel) (by decide +kernel) (by decide +kernel) ⟨Nat.le_of_ble_eq_true rfl, Nat.le_of_ble_eq_true rfl, Nat.le_of_ble_eq_true rfl, Nat.le_of_ble_eq_true rfl⟩ dX0_drinkFrom_24 ?_
    refine lv_istore_n (lv' := [(2, .int (qmin ((qT S i 2) / 2) (qT S i 3))), (1, .int ((qT S i 2) / 2)), (0, .ref (za z (1 + 27 * b + (3 + i))))]) hx hb dX0_drinkFrom_27 rfl hl (by decide) rfl (fun ls hl => ?_)
    refine lv_aload_n hx hb dX0_drinkFrom_28 rfl (lv_at hl 2 rfl) ?_
    refine lv_iconst (v := 3) hx hb dX0_drinkFrom_29 (by decide) ?_
    refine lv_dup2_11 hx hb dX0_drinkFrom_30 rfl rfl ?_
    refine L_ldT C0 hK h hB hi (k := 3) rfl (by decide) dX0_drinkFrom_31 ?_
    refine lv_iload_n hx hb dX0_drinkFrom_32 rfl (lv_at hl 0 rfl) ?_
    refine lv_isub hx hb dX0_drinkFrom_33 ?_
    refine L_stT C0 hK h hB hi (k := 3) rfl (by decide) dX0_drinkFrom_34 (fun H locs S4 eS4 h => ?_)
    refine lv_aload_n hx hb dX0_drinkFrom_35 rfl (lv_at hl 2 rfl) ?_
    refine lv_iconst (v := 5) hx hb dX0_drinkFrom_36 (by decide) ?_
    refine lv_iload_n hx hb dX0_drinkFrom_37 rfl (lv_at hl 0 rfl) ?_
    refine L_stT C0 hK h hB hi (k := 5) rfl (by decide) dX0_drinkFrom_38 (fun H locs S5 eS5 h => ?_)
    refine lv_aload_n hx hb dX0_drinkFrom_39 rfl (lv_at hl 2 rfl) ?_
    refine lv_bipush (v := 6) hx hb dX0_drinkFrom_40 (by decide) ?_
    refine lv_dup2_11 hx hb dX0_drinkFrom_42 rfl rfl ?_
    refine L_ldT C0 hK h hB hi (k := 6) rfl (by decide) dX0_drinkFrom_43 ?_
    refine lv_iload_n hx hb dX0_drinkFrom_44 rfl (lv_at hl 0 rfl) ?_
    refine lv_iadd hx hb dX0_drinkFrom_45 ?_
    refine L_stT C0 hK h hB hi (k := 6) rfl (by decide) dX0_drinkFrom_46 (fun H locs S6 eS6 h => ?_)
    exact G_vret C0 hK h (congrArg (va_up σ b) (by subst eS6 eS5 eS4; simp only [qT_sT, sT_sT, drinkR, c_5, if_true, if_false])) (Nat.le_of_ble_eq_true rfl) (Nat.le_of_ble_eq_true rfl) dX0_drinkFrom_47
set_option maxHeartbeats 4000000 in
set_option maxRecDepth 100000 in
theorem c_X0_head (l : Launch) (z : QZ) (σ : Nat → QLs) (b : Nat) (hB : b < 2) (S : QLs) (i : Nat) (hi : i < 10) : GI l yX0_head wsX0_head ({ frames := 0, cells := 0, slots := 0, locals := 0 } : Room) z [.ref (za z (1 + 27 * b + (3 + i)))] 0 0 (XAt z) 0 55 (va_up σ b S) (fun r σ' => r = headR (qT S i) ∧ σ' = va_up σ b S) := by
  intro ct sz hn hq hat
  refine q_entry (lo := 0) (cc := cX0_head) (maxL := 1) (ret := (some .int)) (by decide) rfl (Nat.le_of_ble_eq_true rfl) hn hq hat ?_
  intro p e s m below meth c ls C0 hK hsz h hl
  subst hsz
  obtain ⟨hx, hb, hr, hml, hown, hts, hlocks⟩ := id C0
  have hl : lv_has ls 1 [(0, .ref (za z (1 + 27 * b + (3 + i))))] := hl
  refine lv_bipush (v := 10) hx hb dX0_head_0 (by decide) ?_
  refine lv_aload_n hx hb dX0_head_2 rfl (lv_at hl 0 rfl) ?_
  refine lv_iconst (v := 0) hx hb dX0_head_3 (by decide) ?_
  refine L_ldT C0 hK h hB hi (k := 0) rfl (by decide) dX0_head_4 ?_
  refine lv_imul hx hb dX0_head_5 ?_
  refine lv_aload_n hx hb dX0_head_6 rfl (lv_at hl 0 rfl) ?_
  refine lv_iconst (v := 3) hx hb dX0_head_7 (by decide) ?_
  refine L_ldT C0 hK h hB hi (k := 3) rfl (by decide) dX0_head_8 ?_
  refine lv_iadd hx hb dX0_head_9 ?_
  exact G_iret C0 hK h ⟨rfl, rfl⟩ (Nat.le_of_ble_eq_true rfl) (Nat.le_of_ble_eq_true rfl) dX0_head_10
set_option maxHeartbeats 4000000 in
set_option maxRecDepth 100000 in
theorem c_X0_wanderMud (l : Launch) (z : QZ) (σ : Nat → QLs) (b : Nat) (hB : b < 2) (S : QLs) (f : Nat) (hf : f < 10) (t : Nat) (ht : t < 10) (x : Int32) : GV l yX0_wanderMud wsX0_wanderMud ({ frames := 2, cells := 0, slots := 0, locals := 36 } : Room) z [.ref (za z (1 + 27 * b + (3 + f))), .ref (za z (1 + 27 * b + (3 + t))), .int x] 0 0 (XAt z) 0 55 (va_up σ b S) (fun σ' => σ' = va_up σ b (wander S f t x)) := by
  intro ct sz hn hq hat
  refine q_entry (lo := 0) (cc := cX0_wanderMud) (maxL := 4) (ret := none) (by decide) rfl (Nat.le_of_ble_eq_true rfl) hn hq hat ?_
  intro p e s m below meth c ls C0 hK hsz h hl
  subst hsz
  obtain ⟨hx, hb, hr, hml, hown, hts, hlocks⟩ := id C0
  have hl : lv_has ls 4 [(0, .ref (za z (1 + 27 * b + (3 + f)))), (1, .ref (za z (1 + 27 * b + (3 + t)))), (2, .int x)] := hl
  refine lv_aload_n hx hb dX0_wanderMud_0 rfl (lv_at hl 0 rfl) ?_
  refine lv_iconst (v := 3) hx hb dX0_wanderMud_1 (by decide) ?_
  refine L_ldT C0 hK h hB hf (k := 3) rfl (by decide) dX0_wanderMud_2 ?_
  refine lv_if_gt (tgt := 7) hx hb dX0_wanderMud_3 (by decide) (fun c_3 => ?_) (fun c_3 => ?_)
  · refine lv_aload_n hx hb dX0_wanderMud_7 rfl (lv_at hl 0 rfl) ?_
    refine lv_iconst (v := 4) hx hb dX0_wanderMud_8 (by decide) ?_
    refine L_ldT C0 hK h hB hf (k := 4) rfl (by decide) dX0_wanderMud_9 ?_
    refine lv_iload_n hx hb dX0_wanderMud_10 rfl (lv_at hl 2 rfl) ?_
    refine lv_imul hx hb dX0_wanderMud_11 ?_
    refine lv_aload_n hx hb dX0_wanderMud_12 rfl (lv_at hl 0 rfl) ?_
    refine lv_iconst (v := 3) hx hb dX0_wanderMud_13 (by decide) ?_
    refine L_ldT C0 hK h hB hf (k := 3) rfl (by decide) dX0_wanderMud_14 ?_
    refine lv_idiv hx hb dX0_wanderMud_15 (fun q => absurd c_3 (by rw [q]; decide)) ?_
    refine lv_istore_n (lv' := [(3, .int (((qT S f 4) * x) / (qT S f 3))), (0, .ref (za z (1 + 27 * b + (3 + f)))), (1, .ref (za z (1 + 27 * b + (3 + t)))), (2, .int x)]) hx hb dX0_wanderMud_16 rfl hl (by decide) rfl (fun ls hl => ?_)
    refine lv_aload_n hx hb dX0_wanderMud_17 rfl (lv_at hl 1 rfl) ?_
    refine lv_iconst (v := 4) hx hb dX0_wanderMud_18 (by decide) ?_
    refine lv_dup2_11 hx hb dX0_wanderMud_19 rfl rfl ?_
    refine L_ldT C0 hK h hB hf (k := 4) rfl (by decide) dX0_wanderMud_20 ?_
    refine lv_iload_n hx hb dX0_wanderMud_21 rfl (lv_at hl 0 rfl) ?_
    refine lv_isub hx hb dX0_wanderMud_22 ?_
    refine L_stT C0 hK h hB hf (k := 4) rfl (by decide) dX0_wanderMud_23 (fun H locs S1 eS1 h => ?_)
    refine lv_aload_n hx hb dX0_wanderMud_24 rfl (lv_at hl 2 rfl) ?_
    refine lv_iload_n hx hb dX0_wanderMud_25 rfl (lv_at hl 0 rfl) ?_
    refine S_callSv C0 hK h (c_X0_takeInMud l z σ b hB S1 t ht (((qT S f 4) * x) / (qT S f 3))) (va_cwS 2 hts gX0_wanderMud_X0_takeInMud rfl rfl rfl (by decide +kernel) ⟨Nat.le_of_ble_eq_true rfl, Nat.le_of_ble_eq_true rfl⟩) rfl hl.1 (rest := []) rfl (Nat.le_of_ble_eq_true rfl) ⟨Nat.le_of_ble_eq_true rfl, Nat.le_of_ble_eq_true rfl⟩ dX0_wanderMud_26 (fun u H locs hp h => ?_)
    obtain ⟨S2, eS2⟩ : ∃ z9, z9 = sT S1 t (takeM (qT S1 t) (((qT S f 4) * x) / (qT S f 3))) := ⟨_, rfl⟩
    rw [← eS2] at hp
    subst hp
    exact G_vret C0 hK h (congrArg (va_up σ b) (by subst eS2 eS1; unfold wander; rw [if_pos c_3])) (Nat.le_of_ble_eq_true rfl) (Nat.le_of_ble_eq_true rfl) dX0_wanderMud_29
  · exact G_vret C0 hK h (congrArg (va_up σ b) (by unfold wander; rw [if_neg c_3])) (Nat.le_of_ble_eq_true rfl) (Nat.le_of_ble_eq_true rfl) dX0_wanderMud_6
end
section
set_option maxHeartbeats 4000000 in
set_option maxRecDepth 100000 in
theorem c_X0_whatCanFlow (l : Launch) (z : QZ) (σ : Nat → QLs) (b : Nat) (hB : b < 2) (S : QLs) (hk : LOk S) (k : Nat) (hkp : k < qp S) : GI l yX0_whatCanFlow wsX0_whatCanFlow ({ frames := 1, cells := 0, slots := 0, locals := 20 } : Room) z [.ref (za z (1 + 27 * b)), .int (nI k)] 0 0 (XAt z) 0 55 (va_up σ b S) (fun r σ' => r = canF S k ∧ σ' = va_up σ b S) := by
  intro ct sz hn hq hat
  refine q_entry (lo := 0) (cc := cX0_whatCanFlow) (maxL := 7) (ret := (some .int)) (by decide) rfl (Nat.le_of_ble_eq_true rfl) hn hq hat ?_
  intro p e s m below meth c ls C0 hK hsz h hl
  subst hsz
  obtain ⟨hx, hb, hr, hml, hown, hts, hlocks⟩ := id C0
  have hin0 : ∀ w ∈ u_ws RX0 TX0 5, w ∈ wsX0_whatCanFlow := by decide +kernel
  have hl : lv_has ls 7 [(0, .ref (za z (1 + 27 * b))), (1, .int (nI k))] := hl
  have hk1 := hk.1
  have hk2 := hk.2.1
  obtain ⟨hk3, hk4, hk5, hF0, hF1⟩ := hk.2.2 k hkp
  have hk6 : k < 14 := by omega
  have hk7 : qf S k < 10 := by omega
  have hk8 : qo S k < 10 := by omega
  refine lv_aload_n hx hb dX0_whatCanFlow_0 rfl (lv_at hl 0 rfl) ?_
  refine L_gL C0 hK h hB hin0 1 (by decide) (by decide +kernel) rfl dX0_whatCanFlow_1 ?_
  refine lv_iload_n hx hb dX0_whatCanFlow_4 rfl (lv_at hl 1 rfl) ?_
  refine X_aP C0 hK h hB (i := k) rfl (by omega) dX0_whatCanFlow_5 ?_
  refine lv_astore_n (lv' := [(2, .ref (za z (1 + 27 * b + (13 + k)))), (0, .ref (za z (1 + 27 * b))), (1, .int (nI k))]) hx hb dX0_whatCanFlow_6 rfl hl (by decide) rfl (fun ls hl => ?_)
  refine lv_aload_n hx hb dX0_whatCanFlow_7 rfl (lv_at hl 1 rfl) ?_
  refine L_gL C0 hK h hB hin0 0 (by decide) (by decide +kernel) rfl dX0_whatCanFlow_8 ?_
  refine lv_aload_n hx hb dX0_whatCanFlow_11 rfl (lv_at hl 0 rfl) ?_
  refine lv_iconst (v := 0) hx hb dX0_whatCanFlow_12 (by decide) ?_
  refine L_ldP C0 hK h hB (by omega) (k := 0) rfl (by decide) dX0_whatCanFlow_13 ?_
  refine X_aT C0 hK h hB (i := qf S k) hF0 (by omega) dX0_whatCanFlow_14 ?_
  refine lv_astore_n (lv' := [(3, .ref (za z (1 + 27 * b + (3 + (qf S k))))), (2, .ref (za z (1 + 27 * b + (13 + k)))), (0, .ref (za z (1 + 27 * b))), (1, .int (nI k))]) hx hb dX0_whatCanFlow_15 rfl hl (by decide) rfl (fun ls hl => ?_)
  refine lv_aload_n hx hb dX0_whatCanFlow_16 rfl (lv_at hl 0 rfl) ?_
  refine S_callSi C0 hK h (c_X0_head l z σ b hB S (qf S k) (by omega)) (va_cwS 1 hts gX0_whatCanFlow_X0_head rfl rfl rfl (by decide +kernel) ⟨Nat.le_of_ble_eq_true rfl, Nat.le_of_ble_eq_true rfl⟩) rfl hl.1 (rest := []) rfl (Nat.le_of_ble_eq_true rfl) ⟨Nat.le_of_ble_eq_true rfl, Nat.le_of_ble_eq_true rfl⟩ dX0_whatCanFlow_17 (fun r u H locs hp h => ?_)
  obtain ⟨rfl, rfl⟩ := hp
  refine lv_aload_n hx hb dX0_whatCanFlow_20 rfl (lv_at hl 2 rfl) ?_
  refine L_gL C0 hK h hB hin0 0 (by decide) (by decide +kernel) rfl dX0_whatCanFlow_21 ?_
  refine lv_aload_n hx hb dX0_whatCanFlow_24 rfl (lv_at hl 1 rfl) ?_
  refine lv_iconst (v := 1) hx hb dX0_whatCanFlow_25 (by decide) ?_
  refine L_ldP C0 hK h hB (by omega) (k := 1) rfl (by decide) dX0_whatCanFlow_26 ?_
  refine X_aT C0 hK h hB (i := qo S k) hF1 (by omega) dX0_whatCanFlow_27 ?_
  refine S_callSi C0 hK h (c_X0_head l z σ b hB S (qo S k) (by omega)) (va_cwS 1 hts gX0_whatCanFlow_X0_head rfl rfl rfl (by decide +kernel) ⟨Nat.le_of_ble_eq_true rfl, Nat.le_of_ble_eq_true rfl⟩) rfl hl.1 (rest := [.int (headR (qT S (qf S k)))]) rfl (Nat.le_of_ble_eq_true rfl) ⟨Nat.le_of_ble_eq_true rfl, Nat.le_of_ble_eq_true rfl⟩ dX0_whatCanFlow_28 (fun r u H locs hp h => ?_)
  obtain ⟨rfl, rfl⟩ := hp
  refine lv_isub hx hb dX0_whatCanFlow_31 ?_
  refine lv_istore (lv' := [(4, .int ((headR (qT S (qf S k))) - (headR (qT S (qo S k))))), (3, .ref (za z (1 + 27 * b + (3 + (qf S k))))), (2, .ref (za z (1 + 27 * b + (13 + k)))), (0, .ref (za z (1 + 27 * b))), (1, .int (nI k))]) hx hb dX0_whatCanFlow_32 hl (by decide) rfl (fun ls hl => ?_)
  refine lv_iload hx hb dX0_whatCanFlow_34 (lv_at hl 0 rfl) ?_
  refine lv_if_le (tgt := 47) hx hb dX0_whatCanFlow_36 (by decide) (fun c_36 => ?_) (fun c_36 => ?_)
  · refine lv_iconst (v := 0) hx hb dX0_whatCanFlow_47 (by decide) ?_
    exact G_iret C0 hK h ⟨by simp only [canF]; rw [if_pos c_36], rfl⟩ (Nat.le_of_ble_eq_true rfl) (Nat.le_of_ble_eq_true rfl) dX0_whatCanFlow_48
  · refine lv_iload hx hb dX0_whatCanFlow_39 (lv_at hl 0 rfl) ?_
    refine lv_aload_n hx hb dX0_whatCanFlow_41 rfl (lv_at hl 2 rfl) ?_
    refine lv_iconst (v := 3) hx hb dX0_whatCanFlow_42 (by decide) ?_
    refine L_ldP C0 hK h hB (by omega) (k := 3) rfl (by decide) dX0_whatCanFlow_43 ?_
    refine lv_icmp_ge (tgt := 49) hx hb dX0_whatCanFlow_44 (by decide) (fun c_44 => ?_) (fun c_44 => ?_)
    · refine lv_iconst (v := 0) hx hb dX0_whatCanFlow_49 (by decide) ?_
      refine lv_aload_n hx hb dX0_whatCanFlow_50 rfl (lv_at hl 2 rfl) ?_
      refine lv_iconst (v := 2) hx hb dX0_whatCanFlow_51 (by decide) ?_
      refine L_ldP C0 hK h hB (by omega) (k := 2) rfl (by decide) dX0_whatCanFlow_52 ?_
      refine lv_aload_n hx hb dX0_whatCanFlow_53 rfl (lv_at hl 2 rfl) ?_
      refine lv_iconst (v := 4) hx hb dX0_whatCanFlow_54 (by decide) ?_
      refine L_ldP C0 hK h hB (by omega) (k := 4) rfl (by decide) dX0_whatCanFlow_55 ?_
      refine lv_isub hx hb dX0_whatCanFlow_56 ?_
      refine G_mmax C0 hl.1 (by decide +kernel) (by decide +kernel) (by decide +kernel) (by decide +kernel) ⟨Nat.le_of_ble_eq_true rfl, Nat.le_of_ble_eq_true rfl, Nat.le_of_ble_eq_true rfl, Nat.le_of_ble_eq_true rfl⟩ dX0_whatCanFlow_57 ?_
      refine lv_istore (lv' := [(5, .int (qmax 0 ((qP S k 2) - (qP S k 4)))), (4, .int ((headR (qT S (qf S k))) - (headR (qT S (qo S k))))), (3, .ref (za z (1 + 27 * b + (3 + (qf S k))))), (2, .ref (za z (1 + 27 * b + (13 + k)))), (0, .ref (za z (1 + 27 * b))), (1, .int (nI k))]) hx hb dX0_whatCanFlow_60 hl (by decide) rfl (fun ls hl => ?_)
      refine lv_iload hx hb dX0_whatCanFlow_62 (lv_at hl 1 rfl) ?_
      refine lv_bipush (v := 10) hx hb dX0_whatCanFlow_64 (by decide) ?_
      refine lv_idiv hx hb dX0_whatCanFlow_66 (by decide) ?_
      refine lv_iconst (v := 1) hx hb dX0_whatCanFlow_67 (by decide) ?_
      refine lv_iadd hx hb dX0_whatCanFlow_68 ?_
      refine lv_istore (lv' := [(6, .int ((((headR (qT S (qf S k))) - (headR (qT S (qo S k)))) / 10) + 1)), (5, .int (qmax 0 ((qP S k 2) - (qP S k 4)))), (4, .int ((headR (qT S (qf S k))) - (headR (qT S (qo S k))))), (3, .ref (za z (1 + 27 * b + (3 + (qf S k))))), (2, .ref (za z (1 + 27 * b + (13 + k)))), (0, .ref (za z (1 + 27 * b))), (1, .int (nI k))]) hx hb dX0_whatCanFlow_69 hl (by decide) rfl (fun ls hl => ?_)
      refine lv_iload hx hb dX0_whatCanFlow_71 (lv_at hl 1 rfl) ?_
      refine lv_iload hx hb dX0_whatCanFlow_73 (lv_at hl 0 rfl) ?_
      refine G_mmin C0 hl.1 (by decide +kernel) (by decide +kernel) (by decide +kernel) (by decide +kernel) ⟨Nat.le_of_ble_eq_true rfl, Nat.le_of_ble_eq_true rfl, Nat.le_of_ble_eq_true rfl, Nat.le_of_ble_eq_true rfl⟩ dX0_whatCanFlow_75 ?_
      refine lv_aload_n hx hb dX0_whatCanFlow_78 rfl (lv_at hl 3 rfl) ?_
      refine lv_iconst (v := 3) hx hb dX0_whatCanFlow_79 (by decide) ?_
      refine L_ldT C0 hK h hB (by omega) (k := 3) rfl (by decide) dX0_whatCanFlow_80 ?_
      refine G_mmin C0 hl.1 (by decide +kernel) (by decide +kernel) (by decide +kernel) (by decide +kernel) ⟨Nat.le_of_ble_eq_true rfl, Nat.le_of_ble_eq_true rfl, Nat.le_of_ble_eq_true rfl, Nat.le_of_ble_eq_true rfl⟩ dX0_whatCanFlow_81 ?_
      exact G_iret C0 hK h ⟨by simp only [canF]; rw [if_neg c_36, if_pos c_44], rfl⟩ (Nat.le_of_ble_eq_true rfl) (Nat.le_of_ble_eq_true rfl) dX0_whatCanFlow_84
    · refine lv_iconst (v := 0) hx hb dX0_whatCanFlow_47 (by decide) ?_
      exact G_iret C0 hK h ⟨by simp only [canF]; rw [if_neg c_36, if_neg c_44], rfl⟩ (Nat.le_of_ble_eq_true rfl) (Nat.le_of_ble_eq_true rfl) dX0_whatCanFlow_48
set_option maxHeartbeats 4000000 in
set_option maxRecDepth 100000 in
theorem c_X0_ofPipe (l : Launch) (z : QZ) (σ : Nat → QLs) (b : Nat) (hB : b < 2) (S : QLs) (hk : LOk S) (k : Nat) (hkp : k < qp S) (n : Nat) (hn9 : n < 10) : GI l yX0_ofPipe wsX0_ofPipe ({ frames := 2, cells := 0, slots := 0, locals := 46 } : Room) z [.ref (za z (1 + 27 * b)), .int (nI k), .int (nI n)] 0 0 (XAt z) 0 55 (va_up σ b S) (fun r σ' => r = ofPipeL S k n ∧ σ' = va_up σ b S) := by
  intro ct sz hn hq hat
  refine q_entry (lo := 0) (cc := cX0_ofPipe) (maxL := 3) (ret := (some .int)) (by decide) rfl (Nat.le_of_ble_eq_true rfl) hn hq hat ?_
  intro p e s m below meth c ls C0 hK hsz h hl
  subst hsz
  obtain ⟨hx, hb, hr, hml, hown, hts, hlocks⟩ := id C0
  have hin0 : ∀ w ∈ u_ws RX0 TX0 5, w ∈ wsX0_ofPipe := by decide +kernel
  have hl : lv_has ls 3 [(0, .ref (za z (1 + 27 * b))), (1, .int (nI k)), (2, .int (nI n))] := hl
  have hk2 := hk.2.1
  have hk6 : k < 14 := by omega
  refine lv_iload_n hx hb dX0_ofPipe_0 rfl (lv_at hl 2 rfl) ?_
  refine lv_bipush (v := 8) hx hb dX0_ofPipe_1 (by decide) ?_
  refine lv_icmp_ne (tgt := 14) hx hb dX0_ofPipe_3 (by decide) (fun c_3 => ?_) (fun c_3 => ?_)
  · refine lv_aload_n hx hb dX0_ofPipe_14 rfl (lv_at hl 0 rfl) ?_
    refine L_gL C0 hK h hB hin0 1 (by decide) (by decide +kernel) rfl dX0_ofPipe_15 ?_
    refine lv_iload_n hx hb dX0_ofPipe_18 rfl (lv_at hl 1 rfl) ?_
    refine X_aP C0 hK h hB (i := k) rfl (by omega) dX0_ofPipe_19 ?_
    refine lv_iload_n hx hb dX0_ofPipe_20 rfl (lv_at hl 2 rfl) ?_
    refine L_ldP C0 hK h hB (by omega) (k := n) rfl (by omega) dX0_ofPipe_21 ?_
    exact G_iret C0 hK h ⟨by unfold ofPipeL; rw [if_neg (fun q => c_3 (by rw [q]; rfl))], rfl⟩ (Nat.le_of_ble_eq_true rfl) (Nat.le_of_ble_eq_true rfl) dX0_ofPipe_22
  · refine lv_aload_n hx hb dX0_ofPipe_6 rfl (lv_at hl 0 rfl) ?_
    refine lv_iload_n hx hb dX0_ofPipe_7 rfl (lv_at hl 1 rfl) ?_
    refine S_callVi C0 hK h (c_X0_whatCanFlow l z σ b hB S hk k hkp) (cwV 1 hts gX0_ofPipe_X0_whatCanFlow rfl rfl rfl (by decide +kernel) ⟨Nat.le_of_ble_eq_true rfl, Nat.le_of_ble_eq_true rfl⟩) (k := 1 + 27 * b) (ci := 0) (by omega) (fun ct hA => (hA.2 b hB).1) rfl rfl rfl hl.1 (rest := []) rfl (Nat.le_of_ble_eq_true rfl) ⟨Nat.le_of_ble_eq_true rfl, Nat.le_of_ble_eq_true rfl⟩ dX0_ofPipe_8 (fun r u H locs hp h => ?_)
    obtain ⟨rfl, rfl⟩ := hp
    refine lv_goto (tgt := 22) hx hb dX0_ofPipe_11 (by decide) ?_
    exact G_iret C0 hK h ⟨by unfold ofPipeL; rw [if_pos ((nI_eq (a := n) (b := 8) (by omega) (by decide)).mp c_3)], rfl⟩ (Nat.le_of_ble_eq_true rfl) (Nat.le_of_ble_eq_true rfl) dX0_ofPipe_22
set_option maxHeartbeats 4000000 in
set_option maxRecDepth 100000 in
theorem c_X0_sumOfTanks (l : Launch) (z : QZ) (σ : Nat → QLs) (b : Nat) (hB : b < 2) (S : QLs) (hk : LOk S) (k : Nat) (hk9 : k < 8) : GI l yX0_sumOfTanks wsX0_sumOfTanks ({ frames := 0, cells := 0, slots := 0, locals := 0 } : Room) z [.ref (za z (1 + 27 * b)), .int (nI k)] 0 0 (XAt z) 0 55 (va_up σ b S) (fun r σ' => r = sumT S k ∧ σ' = va_up σ b S) := by
  intro ct sz hn hq hat
  refine q_entry (lo := 0) (cc := cX0_sumOfTanks) (maxL := 4) (ret := (some .int)) (by decide) rfl (Nat.le_of_ble_eq_true rfl) hn hq hat ?_
  intro p e s m below meth c ls C0 hK hsz h hl
  subst hsz
  obtain ⟨hx, hb, hr, hml, hown, hts, hlocks⟩ := id C0
  have hin0 : ∀ w ∈ u_ws RX0 TX0 5, w ∈ wsX0_sumOfTanks := by decide +kernel
  have hl : lv_has ls 4 [(0, .ref (za z (1 + 27 * b))), (1, .int (nI k))] := hl
  have hk1 := hk.1
  have hk2 := hk.2.1
  have L4 : ∀ (d i : Nat), i + d = qt S → ∀ (H : Heap) (locs : List Loc) (ls : Array Slot), GW z (XAt z) 0 55 s.heap ct (va_up σ b S) H locs → lv_has ls 4 [(3, .int (nI i)), (2, .int (qsum (fun j => qT S j k) i)), (0, .ref (za z (1 + 27 * b))), (1, .int (nI k))] → W p l e ({ frames := 0, cells := 0, slots := 0, locals := 0 } : Room) s m [.ref (za z (1 + 27 * b)), .int (nI k)].toArray below meth c H locs 0 0 (EI z (XAt z) 0 55 ct s below [.ref (za z (1 + 27 * b)), .int (nI k)] 0 0 (fun r σ' => r = sumT S k ∧ σ' = va_up σ b S)) (F0 m 4 ls []) := by
    intro  d
    induction d with
    | zero =>
      intro i hdi H locs ls h hl
      have hEi : i = qt S := by omega
      refine lv_iload_n hx hb dX0_sumOfTanks_4 rfl (lv_at hl 0 rfl) ?_
      refine lv_aload_n hx hb dX0_sumOfTanks_5 rfl (lv_at hl 2 rfl) ?_
      refine L_gL C0 hK h hB hin0 2 (by decide) (by decide +kernel) rfl dX0_sumOfTanks_6 ?_
      refine lv_icmp_ge (tgt := 29) hx hb dX0_sumOfTanks_9 (by decide) (fun _ => ?_) (fun q9 => absurd (nI_le (by omega) (by omega)) q9)
      refine lv_iload_n hx hb dX0_sumOfTanks_29 rfl (lv_at hl 1 rfl) ?_
      exact G_iret C0 hK h ⟨by rw [hEi]; rfl, rfl⟩ (Nat.le_of_ble_eq_true rfl) (Nat.le_of_ble_eq_true rfl) dX0_sumOfTanks_30
    | succ d ihL4 =>
      intro i hdi H locs ls h hl
      have hEi : i < qt S := by omega
      refine lv_iload_n hx hb dX0_sumOfTanks_4 rfl (lv_at hl 0 rfl) ?_
      refine lv_aload_n hx hb dX0_sumOfTanks_5 rfl (lv_at hl 2 rfl) ?_
      refine L_gL C0 hK h hB hin0 2 (by decide) (by decide +kernel) rfl dX0_sumOfTanks_6 ?_
      refine lv_icmp_ge (tgt := 29) hx hb dX0_sumOfTanks_9 (by decide) (fun q9 => absurd q9 (nI_ge (by omega) (by omega))) (fun _ => ?_)
      refine lv_iload_n hx hb dX0_sumOfTanks_12 rfl (lv_at hl 1 rfl) ?_
      refine lv_aload_n hx hb dX0_sumOfTanks_13 rfl (lv_at hl 2 rfl) ?_
      refine L_gL C0 hK h hB hin0 0 (by decide) (by decide +kernel) rfl dX0_sumOfTanks_14 ?_
      refine lv_iload_n hx hb dX0_sumOfTanks_17 rfl (lv_at hl 0 rfl) ?_
      refine X_aT C0 hK h hB (i := i) rfl (by omega) dX0_sumOfTanks_18 ?_
      refine lv_iload_n hx hb dX0_sumOfTanks_19 rfl (lv_at hl 3 rfl) ?_
      refine L_ldT C0 hK h hB (by omega) (k := k) rfl (by omega) dX0_sumOfTanks_20 ?_
      refine lv_iadd hx hb dX0_sumOfTanks_21 ?_
      refine lv_istore_n (lv' := [(2, .int ((qsum (fun j => qT S j k) i) + (qT S i k))), (3, .int (nI i)), (0, .ref (za z (1 + 27 * b))), (1, .int (nI k))]) hx hb dX0_sumOfTanks_22 rfl hl (by decide) rfl (fun ls hl => ?_)
      refine lv_iinc (v := nI (i + 1)) (lv' := [(3, .int (nI (i + 1))), (2, .int ((qsum (fun j => qT S j k) i) + (qT S i k))), (0, .ref (za z (1 + 27 * b))), (1, .int (nI k))]) hx hb dX0_sumOfTanks_23 hl (k := 1) rfl (q_inc i 1) (by decide) rfl (fun ls hl => ?_)
      refine lv_goto (tgt := 4) hx hb dX0_sumOfTanks_26 (by decide) ?_
      exact ihL4 (i + 1) (by omega) _ _ _ h (lv_sub hl [0, 1, 2, 3] rfl)
  refine lv_iconst (v := 0) hx hb dX0_sumOfTanks_0 (by decide) ?_
  refine lv_istore_n (lv' := [(2, .int 0), (0, .ref (za z (1 + 27 * b))), (1, .int (nI k))]) hx hb dX0_sumOfTanks_1 rfl hl (by decide) rfl (fun ls hl => ?_)
  refine lv_iconst (v := 0) hx hb dX0_sumOfTanks_2 (by decide) ?_
  refine lv_istore_n (lv' := [(3, .int 0), (2, .int 0), (0, .ref (za z (1 + 27 * b))), (1, .int (nI k))]) hx hb dX0_sumOfTanks_3 rfl hl (by decide) rfl (fun ls hl => ?_)
  exact L4 (qt S) 0 (by omega) _ _ _ h (lv_sub hl [0, 1, 2, 3] rfl)
set_option maxHeartbeats 4000000 in
set_option maxRecDepth 100000 in
theorem c_X0_sumOfPipes (l : Launch) (z : QZ) (σ : Nat → QLs) (b : Nat) (hB : b < 2) (S : QLs) (hk : LOk S) (k : Nat) (hk9 : k < 10) : GI l yX0_sumOfPipes wsX0_sumOfPipes ({ frames := 0, cells := 0, slots := 0, locals := 0 } : Room) z [.ref (za z (1 + 27 * b)), .int (nI k)] 0 0 (XAt z) 0 55 (va_up σ b S) (fun r σ' => r = sumP S k ∧ σ' = va_up σ b S) := by
  intro ct sz hn hq hat
  refine q_entry (lo := 0) (cc := cX0_sumOfPipes) (maxL := 4) (ret := (some .int)) (by decide) rfl (Nat.le_of_ble_eq_true rfl) hn hq hat ?_
  intro p e s m below meth c ls C0 hK hsz h hl
  subst hsz
  obtain ⟨hx, hb, hr, hml, hown, hts, hlocks⟩ := id C0
  have hin0 : ∀ w ∈ u_ws RX0 TX0 5, w ∈ wsX0_sumOfPipes := by decide +kernel
  have hl : lv_has ls 4 [(0, .ref (za z (1 + 27 * b))), (1, .int (nI k))] := hl
  have hk1 := hk.1
  have hk2 := hk.2.1
  have L4 : ∀ (d i : Nat), i + d = qp S → ∀ (H : Heap) (locs : List Loc) (ls : Array Slot), GW z (XAt z) 0 55 s.heap ct (va_up σ b S) H locs → lv_has ls 4 [(3, .int (nI i)), (2, .int (qsum (fun j => qP S j k) i)), (0, .ref (za z (1 + 27 * b))), (1, .int (nI k))] → W p l e ({ frames := 0, cells := 0, slots := 0, locals := 0 } : Room) s m [.ref (za z (1 + 27 * b)), .int (nI k)].toArray below meth c H locs 0 0 (EI z (XAt z) 0 55 ct s below [.ref (za z (1 + 27 * b)), .int (nI k)] 0 0 (fun r σ' => r = sumP S k ∧ σ' = va_up σ b S)) (F0 m 4 ls []) := by
    intro  d
    induction d with
    | zero =>
      intro i hdi H locs ls h hl
      have hEi : i = qp S := by omega
      refine lv_iload_n hx hb dX0_sumOfPipes_4 rfl (lv_at hl 0 rfl) ?_
      refine lv_aload_n hx hb dX0_sumOfPipes_5 rfl (lv_at hl 2 rfl) ?_
      refine L_gL C0 hK h hB hin0 3 (by decide) (by decide +kernel) rfl dX0_sumOfPipes_6 ?_
      refine lv_icmp_ge (tgt := 29) hx hb dX0_sumOfPipes_9 (by decide) (fun _ => ?_) (fun q9 => absurd (nI_le (by omega) (by omega)) q9)
      refine lv_iload_n hx hb dX0_sumOfPipes_29 rfl (lv_at hl 1 rfl) ?_
      exact G_iret C0 hK h ⟨by rw [hEi]; rfl, rfl⟩ (Nat.le_of_ble_eq_true rfl) (Nat.le_of_ble_eq_true rfl) dX0_sumOfPipes_30
    | succ d ihL4 =>
      intro i hdi H locs ls h hl
      have hEi : i < qp S := by omega
      refine lv_iload_n hx hb dX0_sumOfPipes_4 rfl (lv_at hl 0 rfl) ?_
      refine lv_aload_n hx hb dX0_sumOfPipes_5 rfl (lv_at hl 2 rfl) ?_
      refine L_gL C0 hK h hB hin0 3 (by decide) (by decide +kernel) rfl dX0_sumOfPipes_6 ?_
      refine lv_icmp_ge (tgt := 29) hx hb dX0_sumOfPipes_9 (by decide) (fun q9 => absurd q9 (nI_ge (by omega) (by omega))) (fun _ => ?_)
      refine lv_iload_n hx hb dX0_sumOfPipes_12 rfl (lv_at hl 1 rfl) ?_
      refine lv_aload_n hx hb dX0_sumOfPipes_13 rfl (lv_at hl 2 rfl) ?_
      refine L_gL C0 hK h hB hin0 1 (by decide) (by decide +kernel) rfl dX0_sumOfPipes_14 ?_
      refine lv_iload_n hx hb dX0_sumOfPipes_17 rfl (lv_at hl 0 rfl) ?_
      refine X_aP C0 hK h hB (i := i) rfl (by omega) dX0_sumOfPipes_18 ?_
      refine lv_iload_n hx hb dX0_sumOfPipes_19 rfl (lv_at hl 3 rfl) ?_
      refine L_ldP C0 hK h hB (by omega) (k := k) rfl (by omega) dX0_sumOfPipes_20 ?_
      refine lv_iadd hx hb dX0_sumOfPipes_21 ?_
      refine lv_istore_n (lv' := [(2, .int ((qsum (fun j => qP S j k) i) + (qP S i k))), (3, .int (nI i)), (0, .ref (za z (1 + 27 * b))), (1, .int (nI k))]) hx hb dX0_sumOfPipes_22 rfl hl (by decide) rfl (fun ls hl => ?_)
      refine lv_iinc (v := nI (i + 1)) (lv' := [(3, .int (nI (i + 1))), (2, .int ((qsum (fun j => qP S j k) i) + (qP S i k))), (0, .ref (za z (1 + 27 * b))), (1, .int (nI k))]) hx hb dX0_sumOfPipes_23 hl (k := 1) rfl (q_inc i 1) (by decide) rfl (fun ls hl => ?_)
      refine lv_goto (tgt := 4) hx hb dX0_sumOfPipes_26 (by decide) ?_
      exact ihL4 (i + 1) (by omega) _ _ _ h (lv_sub hl [0, 1, 2, 3] rfl)
  refine lv_iconst (v := 0) hx hb dX0_sumOfPipes_0 (by decide) ?_
  refine lv_istore_n (lv' := [(2, .int 0), (0, .ref (za z (1 + 27 * b))), (1, .int (nI k))]) hx hb dX0_sumOfPipes_1 rfl hl (by decide) rfl (fun ls hl => ?_)
  refine lv_iconst (v := 0) hx hb dX0_sumOfPipes_2 (by decide) ?_
  refine lv_istore_n (lv' := [(3, .int 0), (2, .int 0), (0, .ref (za z (1 + 27 * b))), (1, .int (nI k))]) hx hb dX0_sumOfPipes_3 rfl hl (by decide) rfl (fun ls hl => ?_)
  exact L4 (qp S) 0 (by omega) _ _ _ h (lv_sub hl [0, 1, 2, 3] rfl)
set_option maxHeartbeats 4000000 in
set_option maxRecDepth 100000 in
theorem c_X0_isThirsty (l : Launch) (z : QZ) (σ : Nat → QLs) (b : Nat) (hB : b < 2) (S : QLs) (i : Nat) (hi : i < 10) : GI l yX0_isThirsty wsX0_isThirsty ({ frames := 0, cells := 0, slots := 0, locals := 0 } : Room) z [.ref (za z (1 + 27 * b)), .int (nI i)] 0 0 (XAt z) 0 55 (va_up σ b S) (fun r σ' => r = (if qT S i 5 < qT S i 2 then 1 else 0) ∧ σ' = va_up σ b S) := by
  intro ct sz hn hq hat
  refine q_entry (lo := 0) (cc := cX0_isThirsty) (maxL := 2) (ret := (some .boolean)) (by decide) rfl (Nat.le_of_ble_eq_true rfl) hn hq hat ?_
  intro p e s m below meth c ls C0 hK hsz h hl
  subst hsz
  obtain ⟨hx, hb, hr, hml, hown, hts, hlocks⟩ := id C0
  have hin0 : ∀ w ∈ u_ws RX0 TX0 5, w ∈ wsX0_isThirsty := by decide +kernel
  have hl : lv_has ls 2 [(0, .ref (za z (1 + 27 * b))), (1, .int (nI i))] := hl
  refine lv_aload_n hx hb dX0_isThirsty_0 rfl (lv_at hl 0 rfl) ?_
  refine L_gL C0 hK h hB hin0 0 (by decide) (by decide +kernel) rfl dX0_isThirsty_1 ?_
  refine lv_iload_n hx hb dX0_isThirsty_4 rfl (lv_at hl 1 rfl) ?_
  refine X_aT C0 hK h hB (i := i) rfl (by omega) dX0_isThirsty_5 ?_
  refine lv_iconst (v := 5) hx hb dX0_isThirsty_6 (by decide) ?_
  refine L_ldT C0 hK h hB (by omega) (k := 5) rfl (by decide) dX0_isThirsty_7 ?_
  refine lv_aload_n hx hb dX0_isThirsty_8 rfl (lv_at hl 0 rfl) ?_
  refine L_gL C0 hK h hB hin0 0 (by decide) (by decide +kernel) rfl dX0_isThirsty_9 ?_
  refine lv_iload_n hx hb dX0_isThirsty_12 rfl (lv_at hl 1 rfl) ?_
  refine X_aT C0 hK h hB (i := i) rfl (by omega) dX0_isThirsty_13 ?_
  refine lv_iconst (v := 2) hx hb dX0_isThirsty_14 (by decide) ?_
  refine L_ldT C0 hK h hB (by omega) (k := 2) rfl (by decide) dX0_isThirsty_15 ?_
  refine lv_icmp_ge (tgt := 23) hx hb dX0_isThirsty_16 (by decide) (fun c_16 => ?_) (fun c_16 => ?_)
  · refine lv_iconst (v := 0) hx hb dX0_isThirsty_23 (by decide) ?_
    exact G_zret C0 hK h ⟨by rw [if_neg (fun q => Int32.not_lt.mpr c_16 q)], rfl⟩ (by decide) (Nat.le_of_ble_eq_true rfl) (Nat.le_of_ble_eq_true rfl) dX0_isThirsty_24
  · refine lv_iconst (v := 1) hx hb dX0_isThirsty_19 (by decide) ?_
    refine lv_goto (tgt := 24) hx hb dX0_isThirsty_20 (by decide) ?_
    exact G_zret C0 hK h ⟨by rw [if_pos (Int32.not_le.mp c_16)], rfl⟩ (by decide) (Nat.le_of_ble_eq_true rfl) (Nat.le_of_ble_eq_true rfl) dX0_isThirsty_24
set_option maxHeartbeats 4000000 in
set_option maxRecDepth 100000 in
theorem c_X0_thirstyTanks (l : Launch) (z : QZ) (σ : Nat → QLs) (b : Nat) (hB : b < 2) (S : QLs) (hk : LOk S) : GI l yX0_thirstyTanks wsX0_thirstyTanks ({ frames := 1, cells := 0, slots := 0, locals := 21 } : Room) z [.ref (za z (1 + 27 * b))] 0 0 (XAt z) 0 55 (va_up σ b S) (fun r σ' => r = qthc S (qt S) ∧ σ' = va_up σ b S) := by
  intro ct sz hn hq hat
  refine q_entry (lo := 0) (cc := cX0_thirstyTanks) (maxL := 3) (ret := (some .int)) (by decide) rfl (Nat.le_of_ble_eq_true rfl) hn hq hat ?_
  intro p e s m below meth c ls C0 hK hsz h hl
  subst hsz
  obtain ⟨hx, hb, hr, hml, hown, hts, hlocks⟩ := id C0
  have hin0 : ∀ w ∈ u_ws RX0 TX0 5, w ∈ wsX0_thirstyTanks := by decide +kernel
  have hl : lv_has ls 3 [(0, .ref (za z (1 + 27 * b)))] := hl
  have hk1 := hk.1
  have L4 : ∀ (d i : Nat), i + d = qt S → ∀ (H : Heap) (locs : List Loc) (ls : Array Slot), GW z (XAt z) 0 55 s.heap ct (va_up σ b S) H locs → lv_has ls 3 [(2, .int (nI i)), (1, .int (qthc S i)), (0, .ref (za z (1 + 27 * b)))] → W p l e ({ frames := 1, cells := 0, slots := 0, locals := 21 } : Room) s m [.ref (za z (1 + 27 * b))].toArray below meth c H locs 0 0 (EI z (XAt z) 0 55 ct s below [.ref (za z (1 + 27 * b))] 0 0 (fun r σ' => r = qthc S (qt S) ∧ σ' = va_up σ b S)) (F0 m 4 ls []) := by
    intro  d
    induction d with
    | zero =>
      intro i hdi H locs ls h hl
      have hEi : i = qt S := by omega
      refine lv_iload_n hx hb dX0_thirstyTanks_4 rfl (lv_at hl 0 rfl) ?_
      refine lv_aload_n hx hb dX0_thirstyTanks_5 rfl (lv_at hl 2 rfl) ?_
      refine L_gL C0 hK h hB hin0 2 (by decide) (by decide +kernel) rfl dX0_thirstyTanks_6 ?_
      refine lv_icmp_ge (tgt := 29) hx hb dX0_thirstyTanks_9 (by decide) (fun _ => ?_) (fun q9 => absurd (nI_le (by omega) (by omega)) q9)
      refine lv_iload_n hx hb dX0_thirstyTanks_29 rfl (lv_at hl 1 rfl) ?_
      exact G_iret C0 hK h ⟨by rw [hEi], rfl⟩ (Nat.le_of_ble_eq_true rfl) (Nat.le_of_ble_eq_true rfl) dX0_thirstyTanks_30
    | succ d ihL4 =>
      intro i hdi H locs ls h hl
      have hEi : i < qt S := by omega
      refine lv_iload_n hx hb dX0_thirstyTanks_4 rfl (lv_at hl 0 rfl) ?_
      refine lv_aload_n hx hb dX0_thirstyTanks_5 rfl (lv_at hl 2 rfl) ?_
      refine L_gL C0 hK h hB hin0 2 (by decide) (by decide +kernel) rfl dX0_thirstyTanks_6 ?_
      refine lv_icmp_ge (tgt := 29) hx hb dX0_thirstyTanks_9 (by decide) (fun q9 => absurd q9 (nI_ge (by omega) (by omega))) (fun _ => ?_)
      refine lv_aload_n hx hb dX0_thirstyTanks_12 rfl (lv_at hl 2 rfl) ?_
      refine lv_iload_n hx hb dX0_thirstyTanks_13 rfl (lv_at hl 0 rfl) ?_
      refine S_callVi C0 hK h (c_X0_isThirsty l z σ b hB S i (by omega)) (cwV 1 hts gX0_thirstyTanks_X0_isThirsty rfl rfl rfl (by decide +kernel) ⟨Nat.le_of_ble_eq_true rfl, Nat.le_of_ble_eq_true rfl⟩) (k := 1 + 27 * b) (ci := 0) (by omega) (fun ct hA => (hA.2 b hB).1) rfl rfl rfl hl.1 (rest := []) rfl (Nat.le_of_ble_eq_true rfl) ⟨Nat.le_of_ble_eq_true rfl, Nat.le_of_ble_eq_true rfl⟩ dX0_thirstyTanks_14 (fun r u H locs hp h => ?_)
      rcases q_bool _ hp with ⟨hc1, rfl, rfl⟩ | ⟨hc1, rfl, rfl⟩
      · refine lv_if_eq (tgt := 23) hx hb dX0_thirstyTanks_17 (by decide) (fun q9 => absurd q9 (by decide)) (fun _ => ?_)
        refine lv_iinc (v := (qthc S i) + 1) (lv' := [(1, .int ((qthc S i) + 1)), (2, .int (nI i)), (0, .ref (za z (1 + 27 * b)))]) hx hb dX0_thirstyTanks_20 hl (k := 1) rfl rfl (by decide) rfl (fun ls hl => ?_)
        refine lv_iinc (v := nI (i + 1)) (lv' := [(2, .int (nI (i + 1))), (1, .int ((qthc S i) + 1)), (0, .ref (za z (1 + 27 * b)))]) hx hb dX0_thirstyTanks_23 hl (k := 1) rfl (q_inc i 1) (by decide) rfl (fun ls hl => ?_)
        refine lv_goto (tgt := 4) hx hb dX0_thirstyTanks_26 (by decide) ?_
        have e9 : qthc S (i + 1) = qthc S i + 1 := by simp only [qthc, if_pos hc1]
        rw [← e9] at hl
        exact ihL4 (i + 1) (by omega) _ _ _ h (lv_sub hl [0, 1, 2] rfl)
      · refine lv_if_eq (tgt := 23) hx hb dX0_thirstyTanks_17 (by decide) (fun _ => ?_) (fun q9 => absurd (by decide) q9)
        refine lv_iinc (v := nI (i + 1)) (lv' := [(2, .int (nI (i + 1))), (1, .int (qthc S i)), (0, .ref (za z (1 + 27 * b)))]) hx hb dX0_thirstyTanks_23 hl (k := 0) rfl (q_inc i 1) (by decide) rfl (fun ls hl => ?_)
        refine lv_goto (tgt := 4) hx hb dX0_thirstyTanks_26 (by decide) ?_
        have e9 : qthc S (i + 1) = qthc S i := by simp only [qthc, if_neg hc1]
        rw [← e9] at hl
        exact ihL4 (i + 1) (by omega) _ _ _ h (lv_sub hl [0, 1, 2] rfl)
  refine lv_iconst (v := 0) hx hb dX0_thirstyTanks_0 (by decide) ?_
  refine lv_istore_n (lv' := [(1, .int 0), (0, .ref (za z (1 + 27 * b)))]) hx hb dX0_thirstyTanks_1 rfl hl (by decide) rfl (fun ls hl => ?_)
  refine lv_iconst (v := 0) hx hb dX0_thirstyTanks_2 (by decide) ?_
  refine lv_istore_n (lv' := [(2, .int 0), (1, .int 0), (0, .ref (za z (1 + 27 * b)))]) hx hb dX0_thirstyTanks_3 rfl hl (by decide) rfl (fun ls hl => ?_)
  exact L4 (qt S) 0 (by omega) _ _ _ h (lv_sub hl [0, 1, 2] rfl)
set_option maxHeartbeats 4000000 in
set_option maxRecDepth 100000 in
theorem c_X0_growCrusts (l : Launch) (z : QZ) (σ : Nat → QLs) (b : Nat) (hB : b < 2) (S : QLs) (hk : LOk S) : GV l yX0_growCrusts wsX0_growCrusts ({ frames := 1, cells := 0, slots := 0, locals := 15 } : Room) z [.ref (za z (1 + 27 * b))] 0 0 (XAt z) 0 55 (va_up σ b S) (fun σ' => σ' = va_up σ b (crustAll S)) := by
  intro ct sz hn hq hat
  refine q_entry (lo := 0) (cc := cX0_growCrusts) (maxL := 3) (ret := none) (by decide) rfl (Nat.le_of_ble_eq_true rfl) hn hq hat ?_
  intro p e s m below meth c ls C0 hK hsz h hl
  subst hsz
  obtain ⟨hx, hb, hr, hml, hown, hts, hlocks⟩ := id C0
  have hin0 : ∀ w ∈ u_ws RX0 TX0 5, w ∈ wsX0_growCrusts := by decide +kernel
  have hl : lv_has ls 3 [(0, .ref (za z (1 + 27 * b)))] := hl
  have hk2 := hk.2.1
  have L2 : ∀ (d i : Nat), i + d = qp S → ∀ (H : Heap) (locs : List Loc) (ls : Array Slot), GW z (XAt z) 0 55 s.heap ct (va_up σ b (itN crustF i S)) H locs → lv_has ls 3 [(1, .int (nI i)), (0, .ref (za z (1 + 27 * b)))] → W p l e ({ frames := 1, cells := 0, slots := 0, locals := 15 } : Room) s m [.ref (za z (1 + 27 * b))].toArray below meth c H locs 0 0 (EV z (XAt z) 0 55 ct s below [.ref (za z (1 + 27 * b))] 0 0 (fun σ' => σ' = va_up σ b (crustAll S))) (F0 m 2 ls []) := by
    intro  d
    induction d with
    | zero =>
      intro i hdi H locs ls h hl
      have hEi : i = qp S := by omega
      obtain ⟨S1, eS1⟩ : ∃ z9, z9 = itN crustF i S := ⟨_, rfl⟩
      rw [← eS1] at h
      have hs9 : Shp S S1 := by rw [eS1]; exact shp_it (fun _ _ => shp_crust) S i
      have hs1 := hs9.2.1
      refine lv_iload_n hx hb dX0_growCrusts_2 rfl (lv_at hl 0 rfl) ?_
      refine lv_aload_n hx hb dX0_growCrusts_3 rfl (lv_at hl 1 rfl) ?_
      refine L_gL C0 hK h hB hin0 3 (by decide) (by decide +kernel) rfl dX0_growCrusts_4 ?_
      refine lv_icmp_ge (tgt := 42) hx hb dX0_growCrusts_7 (by decide) (fun _ => ?_) (fun q9 => absurd (nI_le (by omega) (by omega)) q9)
      exact G_vret C0 hK h (congrArg (va_up σ b) (by rw [eS1, hEi]; rfl)) (Nat.le_of_ble_eq_true rfl) (Nat.le_of_ble_eq_true rfl) dX0_growCrusts_42
    | succ d ihL2 =>
      intro i hdi H locs ls h hl
      have hEi : i < qp S := by omega
      obtain ⟨S2, eS2⟩ : ∃ z9, z9 = itN crustF i S := ⟨_, rfl⟩
      rw [← eS2] at h
      have hs9 : Shp S S2 := by rw [eS2]; exact shp_it (fun _ _ => shp_crust) S i
      have hs1 := hs9.2.1
      refine lv_iload_n hx hb dX0_growCrusts_2 rfl (lv_at hl 0 rfl) ?_
      refine lv_aload_n hx hb dX0_growCrusts_3 rfl (lv_at hl 1 rfl) ?_
      refine L_gL C0 hK h hB hin0 3 (by decide) (by decide +kernel) rfl dX0_growCrusts_4 ?_
      refine lv_icmp_ge (tgt := 42) hx hb dX0_growCrusts_7 (by decide) (fun q9 => absurd q9 (nI_ge (by omega) (by omega))) (fun _ => ?_)
      refine lv_aload_n hx hb dX0_growCrusts_10 rfl (lv_at hl 1 rfl) ?_
      refine L_gL C0 hK h hB hin0 1 (by decide) (by decide +kernel) rfl dX0_growCrusts_11 ?_
      refine lv_iload_n hx hb dX0_growCrusts_14 rfl (lv_at hl 0 rfl) ?_
      refine X_aP C0 hK h hB (i := i) rfl (by omega) dX0_growCrusts_15 ?_
      refine lv_astore_n (lv' := [(2, .ref (za z (1 + 27 * b + (13 + i)))), (1, .int (nI i)), (0, .ref (za z (1 + 27 * b)))]) hx hb dX0_growCrusts_16 rfl hl (by decide) rfl (fun ls hl => ?_)
      refine lv_aload_n hx hb dX0_growCrusts_17 rfl (lv_at hl 0 rfl) ?_
      refine lv_iconst (v := 5) hx hb dX0_growCrusts_18 (by decide) ?_
      refine L_ldP C0 hK h hB (by omega) (k := 5) rfl (by decide) dX0_growCrusts_19 ?_
      refine lv_if_le (tgt := 36) hx hb dX0_growCrusts_20 (by decide) (fun c_20 => ?_) (fun c_20 => ?_)
      · refine lv_iinc (v := nI (i + 1)) (lv' := [(1, .int (nI (i + 1))), (2, .ref (za z (1 + 27 * b + (13 + i)))), (0, .ref (za z (1 + 27 * b)))]) hx hb dX0_growCrusts_36 hl (k := 1) rfl (q_inc i 1) (by decide) rfl (fun ls hl => ?_)
        refine lv_goto (tgt := 2) hx hb dX0_growCrusts_39 (by decide) ?_
        exact ihL2 (i + 1) (by omega) _ _ _ (by subst eS2; have e9 : itN crustF (i + 1) S = crustL (itN crustF i S) i := rfl; rw [e9]; unfold crustL; rw [if_pos c_20]; exact h) (lv_sub hl [0, 2] rfl)
      · refine lv_aload_n hx hb dX0_growCrusts_23 rfl (lv_at hl 0 rfl) ?_
        refine lv_iconst (v := 4) hx hb dX0_growCrusts_24 (by decide) ?_
        refine lv_bipush (v := 20) hx hb dX0_growCrusts_25 (by decide) ?_
        refine lv_aload_n hx hb dX0_growCrusts_27 rfl (lv_at hl 0 rfl) ?_
        refine lv_iconst (v := 4) hx hb dX0_growCrusts_28 (by decide) ?_
        refine L_ldP C0 hK h hB (by omega) (k := 4) rfl (by decide) dX0_growCrusts_29 ?_
        refine lv_iconst (v := 1) hx hb dX0_growCrusts_30 (by decide) ?_
        refine lv_iadd hx hb dX0_growCrusts_31 ?_
        refine G_mmin C0 hl.1 (by decide +kernel) (by decide +kernel) (by decide +kernel) (by decide +kernel) ⟨Nat.le_of_ble_eq_true rfl, Nat.le_of_ble_eq_true rfl, Nat.le_of_ble_eq_true rfl, Nat.le_of_ble_eq_true rfl⟩ dX0_growCrusts_32 ?_
        refine L_stP C0 hK h hB (by omega) (k := 4) rfl (by decide) dX0_growCrusts_35 (fun H locs S3 eS3 h => ?_)
        refine lv_iinc (v := nI (i + 1)) (lv' := [(1, .int (nI (i + 1))), (2, .ref (za z (1 + 27 * b + (13 + i)))), (0, .ref (za z (1 + 27 * b)))]) hx hb dX0_growCrusts_36 hl (k := 1) rfl (q_inc i 1) (by decide) rfl (fun ls hl => ?_)
        refine lv_goto (tgt := 2) hx hb dX0_growCrusts_39 (by decide) ?_
        exact ihL2 (i + 1) (by omega) _ _ _ (by subst eS3; subst eS2; have e9 : itN crustF (i + 1) S = crustL (itN crustF i S) i := rfl; rw [e9]; unfold crustL; rw [if_neg c_20]; exact h) (lv_sub hl [0, 2] rfl)
  refine lv_iconst (v := 0) hx hb dX0_growCrusts_0 (by decide) ?_
  refine lv_istore_n (lv' := [(1, .int 0), (0, .ref (za z (1 + 27 * b)))]) hx hb dX0_growCrusts_1 rfl hl (by decide) rfl (fun ls hl => ?_)
  exact L2 (qp S) 0 (by omega) _ _ _ h (lv_sub hl [0, 1] rfl)
end
section
set_option maxHeartbeats 4000000 in
set_option maxRecDepth 100000 in
theorem c_X0_flowThrough (l : Launch) (z : QZ) (σ : Nat → QLs) (b : Nat) (hB : b < 2) (S : QLs) (hk : LOk S) (k : Nat) (hkp : k < qp S) : GV l yX0_flowThrough wsX0_flowThrough ({ frames := 3, cells := 0, slots := 0, locals := 59 } : Room) z [.ref (za z (1 + 27 * b)), .int (nI k)] 0 0 (XAt z) 0 55 (va_up σ b S) (fun σ' => σ' = va_up σ b (flowL S k)) := by
  intro ct sz hn hq hat
  refine q_entry (lo := 0) (cc := cX0_flowThrough) (maxL := 7) (ret := none) (by decide) rfl (Nat.le_of_ble_eq_true rfl) hn hq hat ?_
  intro p e s m below meth c ls C0 hK hsz h hl
  subst hsz
  obtain ⟨hx, hb, hr, hml, hown, hts, hlocks⟩ := id C0
  have hin0 : ∀ w ∈ u_ws RX0 TX0 5, w ∈ wsX0_flowThrough := by decide +kernel
  have hl : lv_has ls 7 [(0, .ref (za z (1 + 27 * b))), (1, .int (nI k))] := hl
  have hk1 := hk.1
  have hk2 := hk.2.1
  obtain ⟨hk3, hk4, hk5, hF0, hF1⟩ := hk.2.2 k hkp
  have hk6 : k < 14 := by omega
  have hk7 : qf S k < 10 := by omega
  have hk8 : qo S k < 10 := by omega
  refine lv_aload_n hx hb dX0_flowThrough_0 rfl (lv_at hl 0 rfl) ?_
  refine L_gL C0 hK h hB hin0 1 (by decide) (by decide +kernel) rfl dX0_flowThrough_1 ?_
  refine lv_iload_n hx hb dX0_flowThrough_4 rfl (lv_at hl 1 rfl) ?_
  refine X_aP C0 hK h hB (i := k) rfl (by omega) dX0_flowThrough_5 ?_
  refine lv_astore_n (lv' := [(2, .ref (za z (1 + 27 * b + (13 + k)))), (0, .ref (za z (1 + 27 * b))), (1, .int (nI k))]) hx hb dX0_flowThrough_6 rfl hl (by decide) rfl (fun ls hl => ?_)
  refine lv_aload_n hx hb dX0_flowThrough_7 rfl (lv_at hl 1 rfl) ?_
  refine L_gL C0 hK h hB hin0 0 (by decide) (by decide +kernel) rfl dX0_flowThrough_8 ?_
  refine lv_aload_n hx hb dX0_flowThrough_11 rfl (lv_at hl 0 rfl) ?_
  refine lv_iconst (v := 0) hx hb dX0_flowThrough_12 (by decide) ?_
  refine L_ldP C0 hK h hB (by omega) (k := 0) rfl (by decide) dX0_flowThrough_13 ?_
  refine X_aT C0 hK h hB (i := qf S k) hF0 (by omega) dX0_flowThrough_14 ?_
  refine lv_astore_n (lv' := [(3, .ref (za z (1 + 27 * b + (3 + (qf S k))))), (2, .ref (za z (1 + 27 * b + (13 + k)))), (0, .ref (za z (1 + 27 * b))), (1, .int (nI k))]) hx hb dX0_flowThrough_15 rfl hl (by decide) rfl (fun ls hl => ?_)
  refine lv_aload_n hx hb dX0_flowThrough_16 rfl (lv_at hl 2 rfl) ?_
  refine L_gL C0 hK h hB hin0 0 (by decide) (by decide +kernel) rfl dX0_flowThrough_17 ?_
  refine lv_aload_n hx hb dX0_flowThrough_20 rfl (lv_at hl 1 rfl) ?_
  refine lv_iconst (v := 1) hx hb dX0_flowThrough_21 (by decide) ?_
  refine L_ldP C0 hK h hB (by omega) (k := 1) rfl (by decide) dX0_flowThrough_22 ?_
  refine X_aT C0 hK h hB (i := qo S k) hF1 (by omega) dX0_flowThrough_23 ?_
  refine lv_astore (lv' := [(4, .ref (za z (1 + 27 * b + (3 + (qo S k))))), (3, .ref (za z (1 + 27 * b + (3 + (qf S k))))), (2, .ref (za z (1 + 27 * b + (13 + k)))), (0, .ref (za z (1 + 27 * b))), (1, .int (nI k))]) hx hb dX0_flowThrough_24 hl (by decide) rfl (fun ls hl => ?_)
  refine lv_aload_n hx hb dX0_flowThrough_26 rfl (lv_at hl 3 rfl) ?_
  refine lv_iload_n hx hb dX0_flowThrough_27 rfl (lv_at hl 4 rfl) ?_
  refine S_callVi C0 hK h (c_X0_whatCanFlow l z σ b hB S hk k hkp) (cwV 1 hts gX0_flowThrough_X0_whatCanFlow rfl rfl rfl (by decide +kernel) ⟨Nat.le_of_ble_eq_true rfl, Nat.le_of_ble_eq_true rfl⟩) (k := 1 + 27 * b) (ci := 0) (by omega) (fun ct hA => (hA.2 b hB).1) rfl rfl rfl hl.1 (rest := []) rfl (Nat.le_of_ble_eq_true rfl) ⟨Nat.le_of_ble_eq_true rfl, Nat.le_of_ble_eq_true rfl⟩ dX0_flowThrough_28 (fun r u H locs hp h => ?_)
  obtain ⟨rfl, rfl⟩ := hp
  refine lv_istore (lv' := [(5, .int (canF S k)), (4, .ref (za z (1 + 27 * b + (3 + (qo S k))))), (3, .ref (za z (1 + 27 * b + (3 + (qf S k))))), (2, .ref (za z (1 + 27 * b + (13 + k)))), (0, .ref (za z (1 + 27 * b))), (1, .int (nI k))]) hx hb dX0_flowThrough_31 hl (by decide) rfl (fun ls hl => ?_)
  refine lv_aload_n hx hb dX0_flowThrough_33 rfl (lv_at hl 3 rfl) ?_
  refine lv_bipush (v := 9) hx hb dX0_flowThrough_34 (by decide) ?_
  refine L_ldP C0 hK h hB (by omega) (k := 9) rfl (by decide) dX0_flowThrough_36 ?_
  refine lv_iload hx hb dX0_flowThrough_37 (lv_at hl 0 rfl) ?_
  refine G_mmin C0 hl.1 (by decide +kernel) (by decide +kernel) (by decide +kernel) (by decide +kernel) ⟨Nat.le_of_ble_eq_true rfl, Nat.le_of_ble_eq_true rfl, Nat.le_of_ble_eq_true rfl, Nat.le_of_ble_eq_true rfl⟩ dX0_flowThrough_39 ?_
  refine lv_istore (lv' := [(6, .int (qmin (qP S k 9) (canF S k))), (5, .int (canF S k)), (4, .ref (za z (1 + 27 * b + (3 + (qo S k))))), (3, .ref (za z (1 + 27 * b + (3 + (qf S k))))), (2, .ref (za z (1 + 27 * b + (13 + k)))), (0, .ref (za z (1 + 27 * b))), (1, .int (nI k))]) hx hb dX0_flowThrough_42 hl (by decide) rfl (fun ls hl => ?_)
  refine lv_aload_n hx hb dX0_flowThrough_44 rfl (lv_at hl 3 rfl) ?_
  refine lv_aload hx hb dX0_flowThrough_45 (lv_at hl 2 rfl) ?_
  refine lv_iload hx hb dX0_flowThrough_47 (lv_at hl 1 rfl) ?_
  refine S_callSv C0 hK h (c_X0_wanderMud l z σ b hB S (qf S k) (by omega) (qo S k) (by omega) (canF S k)) (va_cwS 3 hts gX0_flowThrough_X0_wanderMud rfl rfl rfl (by decide +kernel) ⟨Nat.le_of_ble_eq_true rfl, Nat.le_of_ble_eq_true rfl⟩) rfl hl.1 (rest := []) rfl (Nat.le_of_ble_eq_true rfl) ⟨Nat.le_of_ble_eq_true rfl, Nat.le_of_ble_eq_true rfl⟩ dX0_flowThrough_49 (fun u H locs hp h => ?_)
  obtain ⟨S1, eS1⟩ : ∃ z9, z9 = wander S (qf S k) (qo S k) (canF S k) := ⟨_, rfl⟩
  rw [← eS1] at hp
  subst hp
  refine lv_aload_n hx hb dX0_flowThrough_52 rfl (lv_at hl 3 rfl) ?_
  refine lv_iconst (v := 3) hx hb dX0_flowThrough_53 (by decide) ?_
  refine lv_dup2_11 hx hb dX0_flowThrough_54 rfl rfl ?_
  refine L_ldT C0 hK h hB (by omega) (k := 3) rfl (by decide) dX0_flowThrough_55 ?_
  refine lv_iload hx hb dX0_flowThrough_56 (lv_at hl 1 rfl) ?_
  refine lv_isub hx hb dX0_flowThrough_58 ?_
  refine L_stT C0 hK h hB (by omega) (k := 3) rfl (by decide) dX0_flowThrough_59 (fun H locs S2 eS2 h => ?_)
  refine lv_aload hx hb dX0_flowThrough_60 (lv_at hl 2 rfl) ?_
  refine lv_iload hx hb dX0_flowThrough_62 (lv_at hl 1 rfl) ?_
  refine lv_iload hx hb dX0_flowThrough_64 (lv_at hl 0 rfl) ?_
  refine lv_isub hx hb dX0_flowThrough_66 ?_
  refine S_callSv C0 hK h (c_X0_takeInWater l z σ b hB S2 (qo S k) (by omega) ((canF S k) - (qmin (qP S k 9) (canF S k)))) (va_cwS 2 hts gX0_flowThrough_X0_takeInWater rfl rfl rfl (by decide +kernel) ⟨Nat.le_of_ble_eq_true rfl, Nat.le_of_ble_eq_true rfl⟩) rfl hl.1 (rest := []) rfl (Nat.le_of_ble_eq_true rfl) ⟨Nat.le_of_ble_eq_true rfl, Nat.le_of_ble_eq_true rfl⟩ dX0_flowThrough_67 (fun u H locs hp h => ?_)
  obtain ⟨S3, eS3⟩ : ∃ z9, z9 = sT S2 (qo S k) (takeW (qT S2 (qo S k)) ((canF S k) - (qmin (qP S k 9) (canF S k)))) := ⟨_, rfl⟩
  rw [← eS3] at hp
  subst hp
  refine lv_aload_n hx hb dX0_flowThrough_70 rfl (lv_at hl 4 rfl) ?_
  refine lv_iconst (v := 5) hx hb dX0_flowThrough_71 (by decide) ?_
  refine lv_iload hx hb dX0_flowThrough_72 (lv_at hl 1 rfl) ?_
  refine L_stP C0 hK h hB (by omega) (k := 5) rfl (by decide) dX0_flowThrough_74 (fun H locs S4 eS4 h => ?_)
  refine lv_aload_n hx hb dX0_flowThrough_75 rfl (lv_at hl 4 rfl) ?_
  refine lv_bipush (v := 6) hx hb dX0_flowThrough_76 (by decide) ?_
  refine lv_iload hx hb dX0_flowThrough_78 (lv_at hl 0 rfl) ?_
  refine L_stP C0 hK h hB (by omega) (k := 6) rfl (by decide) dX0_flowThrough_80 (fun H locs S5 eS5 h => ?_)
  refine lv_aload_n hx hb dX0_flowThrough_81 rfl (lv_at hl 4 rfl) ?_
  refine lv_bipush (v := 7) hx hb dX0_flowThrough_82 (by decide) ?_
  refine lv_dup2_11 hx hb dX0_flowThrough_84 rfl rfl ?_
  refine L_ldP C0 hK h hB (by omega) (k := 7) rfl (by decide) dX0_flowThrough_85 ?_
  refine lv_iload hx hb dX0_flowThrough_86 (lv_at hl 0 rfl) ?_
  refine lv_iadd hx hb dX0_flowThrough_88 ?_
  refine L_stP C0 hK h hB (by omega) (k := 7) rfl (by decide) dX0_flowThrough_89 (fun H locs S6 eS6 h => ?_)
  exact G_vret C0 hK h (congrArg (va_up σ b) (by subst eS6 eS5 eS4 eS3 eS2 eS1; rfl)) (Nat.le_of_ble_eq_true rfl) (Nat.le_of_ble_eq_true rfl) dX0_flowThrough_90
set_option maxHeartbeats 4000000 in
set_option maxRecDepth 100000 in
theorem c_X0_goThroughDay (l : Launch) (z : QZ) (σ : Nat → QLs) (b : Nat) (hB : b < 2) (S : QLs) (hk : LOk S) : GV l yX0_goThroughDay wsX0_goThroughDay ({ frames := 4, cells := 0, slots := 0, locals := 85 } : Room) z [.ref (za z (1 + 27 * b))] 0 0 (XAt z) 0 55 (va_up σ b S) (fun σ' => σ' = va_up σ b (dayL S)) := by
  intro ct sz hn hq hat
  refine q_entry (lo := 0) (cc := cX0_goThroughDay) (maxL := 2) (ret := none) (by decide) rfl (Nat.le_of_ble_eq_true rfl) hn hq hat ?_
  intro p e s m below meth c ls C0 hK hsz h hl
  subst hsz
  obtain ⟨hx, hb, hr, hml, hown, hts, hlocks⟩ := id C0
  have hin0 : ∀ w ∈ u_ws RX0 TX0 5, w ∈ wsX0_goThroughDay := by decide +kernel
  have hl : lv_has ls 2 [(0, .ref (za z (1 + 27 * b)))] := hl
  have hk1 := hk.1
  have hk2 := hk.2.1
  have L61 : ∀ (Sb : QLs) (hkb : LOk Sb) (hq9 : sD (itN drinkF (qt Sb) Sb) (qD (itN drinkF (qt Sb) Sb) + 1) = dayL S) (d i : Nat), i + d = qt Sb → ∀ (H : Heap) (locs : List Loc) (ls : Array Slot), GW z (XAt z) 0 55 s.heap ct (va_up σ b (itN drinkF i Sb)) H locs → lv_has ls 2 [(1, .int (nI i)), (0, .ref (za z (1 + 27 * b)))] → W p l e ({ frames := 4, cells := 0, slots := 0, locals := 85 } : Room) s m [.ref (za z (1 + 27 * b))].toArray below meth c H locs 0 0 (EV z (XAt z) 0 55 ct s below [.ref (za z (1 + 27 * b))] 0 0 (fun σ' => σ' = va_up σ b (dayL S))) (F0 m 61 ls []) := by
    intro Sb hkb hq9 d
    induction d with
    | zero =>
      intro i hdi H locs ls h hl
      have hEi : i = qt Sb := by omega
      have hkc := hkb.1
      obtain ⟨S1, eS1⟩ : ∃ z9, z9 = itN drinkF i Sb := ⟨_, rfl⟩
      rw [← eS1] at h
      have hs9 : Shp Sb S1 := by rw [eS1]; exact shp_it (f := drinkF) (fun _ _ => shp_sT) Sb i
      have hs1 := hs9.1
      have hs2 := hs9.2.1
      have hk9 := hs9.ok hkb
      refine lv_iload_n hx hb dX0_goThroughDay_61 rfl (lv_at hl 0 rfl) ?_
      refine lv_aload_n hx hb dX0_goThroughDay_62 rfl (lv_at hl 1 rfl) ?_
      refine L_gL C0 hK h hB hin0 2 (by decide) (by decide +kernel) rfl dX0_goThroughDay_63 ?_
      refine lv_icmp_ge (tgt := 84) hx hb dX0_goThroughDay_66 (by decide) (fun _ => ?_) (fun q9 => absurd (nI_le (by omega) (by omega)) q9)
      refine lv_aload_n hx hb dX0_goThroughDay_84 rfl (lv_at hl 1 rfl) ?_
      refine lv_dup hx hb dX0_goThroughDay_85 rfl ?_
      refine L_gL C0 hK h hB hin0 4 (by decide) (by decide +kernel) rfl dX0_goThroughDay_86 ?_
      refine lv_iconst (v := 1) hx hb dX0_goThroughDay_89 (by decide) ?_
      refine lv_iadd hx hb dX0_goThroughDay_90 ?_
      refine L_pd C0 hK h hB hin0 (by decide +kernel) dX0_goThroughDay_91 (fun H locs S2 eS2 h => ?_)
      exact G_vret C0 hK h (congrArg (va_up σ b) (by subst eS2; rw [← hq9, eS1, hEi])) (Nat.le_of_ble_eq_true rfl) (Nat.le_of_ble_eq_true rfl) dX0_goThroughDay_94
    | succ d ihL61 =>
      intro i hdi H locs ls h hl
      have hEi : i < qt Sb := by omega
      have hkc := hkb.1
      obtain ⟨S3, eS3⟩ : ∃ z9, z9 = itN drinkF i Sb := ⟨_, rfl⟩
      rw [← eS3] at h
      have hs9 : Shp Sb S3 := by rw [eS3]; exact shp_it (f := drinkF) (fun _ _ => shp_sT) Sb i
      have hs1 := hs9.1
      have hs2 := hs9.2.1
      have hk9 := hs9.ok hkb
      refine lv_iload_n hx hb dX0_goThroughDay_61 rfl (lv_at hl 0 rfl) ?_
      refine lv_aload_n hx hb dX0_goThroughDay_62 rfl (lv_at hl 1 rfl) ?_
      refine L_gL C0 hK h hB hin0 2 (by decide) (by decide +kernel) rfl dX0_goThroughDay_63 ?_
      refine lv_icmp_ge (tgt := 84) hx hb dX0_goThroughDay_66 (by decide) (fun q9 => absurd q9 (nI_ge (by omega) (by omega))) (fun _ => ?_)
      refine lv_aload_n hx hb dX0_goThroughDay_69 rfl (lv_at hl 1 rfl) ?_
      refine L_gL C0 hK h hB hin0 0 (by decide) (by decide +kernel) rfl dX0_goThroughDay_70 ?_
      refine lv_iload_n hx hb dX0_goThroughDay_73 rfl (lv_at hl 0 rfl) ?_
      refine X_aT C0 hK h hB (i := i) rfl (by omega) dX0_goThroughDay_74 ?_
      refine S_callSv C0 hK h (c_X0_drinkFrom l z σ b hB S3 i (by omega)) (va_cwS 1 hts gX0_goThroughDay_X0_drinkFrom rfl rfl rfl (by decide +kernel) ⟨Nat.le_of_ble_eq_true rfl, Nat.le_of_ble_eq_true rfl⟩) rfl hl.1 (rest := []) rfl (Nat.le_of_ble_eq_true rfl) ⟨Nat.le_of_ble_eq_true rfl, Nat.le_of_ble_eq_true rfl⟩ dX0_goThroughDay_75 (fun u H locs hp h => ?_)
      obtain ⟨S4, eS4⟩ : ∃ z9, z9 = sT S3 i (drinkR (qT S3 i)) := ⟨_, rfl⟩
      rw [← eS4] at hp
      subst hp
      refine lv_iinc (v := nI (i + 1)) (lv' := [(1, .int (nI (i + 1))), (0, .ref (za z (1 + 27 * b)))]) hx hb dX0_goThroughDay_78 hl (k := 0) rfl (q_inc i 1) (by decide) rfl (fun ls hl => ?_)
      refine lv_goto (tgt := 61) hx hb dX0_goThroughDay_81 (by decide) ?_
      exact ihL61 (i + 1) (by omega) _ _ _ (by subst eS4; rw [eS3] at h; exact h) (lv_sub hl [0, 1] rfl)
  have L27 : ∀ (Sb : QLs) (hkb : LOk Sb) (hq9 : Sb = itN feedF (qt S) S) (d i : Nat), i + d = qp Sb → ∀ (H : Heap) (locs : List Loc) (ls : Array Slot), GW z (XAt z) 0 55 s.heap ct (va_up σ b (itN flowF i Sb)) H locs → lv_has ls 2 [(1, .int (nI i)), (0, .ref (za z (1 + 27 * b)))] → W p l e ({ frames := 4, cells := 0, slots := 0, locals := 85 } : Room) s m [.ref (za z (1 + 27 * b))].toArray below meth c H locs 0 0 (EV z (XAt z) 0 55 ct s below [.ref (za z (1 + 27 * b))] 0 0 (fun σ' => σ' = va_up σ b (dayL S))) (F0 m 27 ls []) := by
    intro Sb hkb hq9 d
    induction d with
    | zero =>
      intro i hdi H locs ls h hl
      have hEi : i = qp Sb := by omega
      have hkc := hkb.2.1
      obtain ⟨S5, eS5⟩ : ∃ z9, z9 = itN flowF i Sb := ⟨_, rfl⟩
      rw [← eS5] at h
      have hs9 : Shp Sb S5 := by rw [eS5]; exact shp_it (f := flowF) (fun _ _ => shp_flow) Sb i
      have hs1 := hs9.1
      have hs2 := hs9.2.1
      have hk9 := hs9.ok hkb
      refine lv_iload_n hx hb dX0_goThroughDay_27 rfl (lv_at hl 0 rfl) ?_
      refine lv_aload_n hx hb dX0_goThroughDay_28 rfl (lv_at hl 1 rfl) ?_
      refine L_gL C0 hK h hB hin0 3 (by decide) (by decide +kernel) rfl dX0_goThroughDay_29 ?_
      refine lv_icmp_ge (tgt := 46) hx hb dX0_goThroughDay_32 (by decide) (fun _ => ?_) (fun q9 => absurd (nI_le (by omega) (by omega)) q9)
      refine lv_aload_n hx hb dX0_goThroughDay_46 rfl (lv_at hl 1 rfl) ?_
      refine L_gL C0 hK h hB hin0 4 (by decide) (by decide +kernel) rfl dX0_goThroughDay_47 ?_
      refine lv_iconst (v := 4) hx hb dX0_goThroughDay_50 (by decide) ?_
      refine lv_irem hx hb dX0_goThroughDay_51 (by decide) ?_
      refine lv_if_ne (tgt := 59) hx hb dX0_goThroughDay_52 (by decide) (fun c_52 => ?_) (fun c_52 => ?_)
      · refine lv_iconst (v := 0) hx hb dX0_goThroughDay_59 (by decide) ?_
        refine lv_istore_n (lv' := [(1, .int 0), (0, .ref (za z (1 + 27 * b)))]) hx hb dX0_goThroughDay_60 rfl hl (by decide) rfl (fun ls hl => ?_)
        exact L61 S5 hk9 (by rw [hEi] at eS5; subst eS5; subst hq9; unfold dayL; simp only []; rw [if_neg c_52]) (qt S5) 0 (by omega) _ _ _ h (lv_sub hl [0, 1] rfl)
      · refine lv_aload_n hx hb dX0_goThroughDay_55 rfl (lv_at hl 1 rfl) ?_
        refine S_callVv C0 hK h (c_X0_growCrusts l z σ b hB S5 hk9) (cwV 0 hts gX0_goThroughDay_X0_growCrusts rfl rfl rfl (by decide +kernel) ⟨Nat.le_of_ble_eq_true rfl, Nat.le_of_ble_eq_true rfl⟩) (k := 1 + 27 * b) (ci := 0) (by omega) (fun ct hA => (hA.2 b hB).1) rfl rfl rfl hl.1 (rest := []) rfl (Nat.le_of_ble_eq_true rfl) ⟨Nat.le_of_ble_eq_true rfl, Nat.le_of_ble_eq_true rfl⟩ dX0_goThroughDay_56 (fun u H locs hp h => ?_)
        obtain ⟨S6, eS6⟩ : ∃ z9, z9 = crustAll S5 := ⟨_, rfl⟩
        rw [← eS6] at hp
        subst hp
        refine lv_iconst (v := 0) hx hb dX0_goThroughDay_59 (by decide) ?_
        refine lv_istore_n (lv' := [(1, .int 0), (0, .ref (za z (1 + 27 * b)))]) hx hb dX0_goThroughDay_60 rfl hl (by decide) rfl (fun ls hl => ?_)
        exact L61 S6 (by rw [eS6]; exact shp_crustAll.ok hk9) (by subst eS6; rw [hEi] at eS5; subst eS5; subst hq9; unfold dayL; simp only []; rw [if_pos c_52]) (qt S6) 0 (by omega) _ _ _ h (lv_sub hl [0, 1] rfl)
    | succ d ihL27 =>
      intro i hdi H locs ls h hl
      have hEi : i < qp Sb := by omega
      have hkc := hkb.2.1
      obtain ⟨S7, eS7⟩ : ∃ z9, z9 = itN flowF i Sb := ⟨_, rfl⟩
      rw [← eS7] at h
      have hs9 : Shp Sb S7 := by rw [eS7]; exact shp_it (f := flowF) (fun _ _ => shp_flow) Sb i
      have hs1 := hs9.1
      have hs2 := hs9.2.1
      have hk9 := hs9.ok hkb
      refine lv_iload_n hx hb dX0_goThroughDay_27 rfl (lv_at hl 0 rfl) ?_
      refine lv_aload_n hx hb dX0_goThroughDay_28 rfl (lv_at hl 1 rfl) ?_
      refine L_gL C0 hK h hB hin0 3 (by decide) (by decide +kernel) rfl dX0_goThroughDay_29 ?_
      refine lv_icmp_ge (tgt := 46) hx hb dX0_goThroughDay_32 (by decide) (fun q9 => absurd q9 (nI_ge (by omega) (by omega))) (fun _ => ?_)
      refine lv_aload_n hx hb dX0_goThroughDay_35 rfl (lv_at hl 1 rfl) ?_
      refine lv_iload_n hx hb dX0_goThroughDay_36 rfl (lv_at hl 0 rfl) ?_
      refine S_callVv C0 hK h (c_X0_flowThrough l z σ b hB S7 hk9 i (by omega)) (cwV 1 hts gX0_goThroughDay_X0_flowThrough rfl rfl rfl (by decide +kernel) ⟨Nat.le_of_ble_eq_true rfl, Nat.le_of_ble_eq_true rfl⟩) (k := 1 + 27 * b) (ci := 0) (by omega) (fun ct hA => (hA.2 b hB).1) rfl rfl rfl hl.1 (rest := []) rfl (Nat.le_of_ble_eq_true rfl) ⟨Nat.le_of_ble_eq_true rfl, Nat.le_of_ble_eq_true rfl⟩ dX0_goThroughDay_37 (fun u H locs hp h => ?_)
      obtain ⟨S8, eS8⟩ : ∃ z9, z9 = flowL S7 i := ⟨_, rfl⟩
      rw [← eS8] at hp
      subst hp
      refine lv_iinc (v := nI (i + 1)) (lv' := [(1, .int (nI (i + 1))), (0, .ref (za z (1 + 27 * b)))]) hx hb dX0_goThroughDay_40 hl (k := 0) rfl (q_inc i 1) (by decide) rfl (fun ls hl => ?_)
      refine lv_goto (tgt := 27) hx hb dX0_goThroughDay_43 (by decide) ?_
      exact ihL27 (i + 1) (by omega) _ _ _ (by subst eS8; rw [eS7] at h; exact h) (lv_sub hl [0, 1] rfl)
  have L2 : ∀ (d i : Nat), i + d = qt S → ∀ (H : Heap) (locs : List Loc) (ls : Array Slot), GW z (XAt z) 0 55 s.heap ct (va_up σ b (itN feedF i S)) H locs → lv_has ls 2 [(1, .int (nI i)), (0, .ref (za z (1 + 27 * b)))] → W p l e ({ frames := 4, cells := 0, slots := 0, locals := 85 } : Room) s m [.ref (za z (1 + 27 * b))].toArray below meth c H locs 0 0 (EV z (XAt z) 0 55 ct s below [.ref (za z (1 + 27 * b))] 0 0 (fun σ' => σ' = va_up σ b (dayL S))) (F0 m 2 ls []) := by
    intro  d
    induction d with
    | zero =>
      intro i hdi H locs ls h hl
      have hEi : i = qt S := by omega
      obtain ⟨S9, eS9⟩ : ∃ z9, z9 = itN feedF i S := ⟨_, rfl⟩
      rw [← eS9] at h
      have hs9 : Shp S S9 := by rw [eS9]; exact shp_it (f := feedF) (fun _ _ => shp_sT) S i
      have hs1 := hs9.1
      have hs2 := hs9.2.1
      have hk9 := hs9.ok hk
      refine lv_iload_n hx hb dX0_goThroughDay_2 rfl (lv_at hl 0 rfl) ?_
      refine lv_aload_n hx hb dX0_goThroughDay_3 rfl (lv_at hl 1 rfl) ?_
      refine L_gL C0 hK h hB hin0 2 (by decide) (by decide +kernel) rfl dX0_goThroughDay_4 ?_
      refine lv_icmp_ge (tgt := 25) hx hb dX0_goThroughDay_7 (by decide) (fun _ => ?_) (fun q9 => absurd (nI_le (by omega) (by omega)) q9)
      refine lv_iconst (v := 0) hx hb dX0_goThroughDay_25 (by decide) ?_
      refine lv_istore_n (lv' := [(1, .int 0), (0, .ref (za z (1 + 27 * b)))]) hx hb dX0_goThroughDay_26 rfl hl (by decide) rfl (fun ls hl => ?_)
      exact L27 S9 hk9 (by rw [eS9, hEi]) (qp S9) 0 (by omega) _ _ _ h (lv_sub hl [0, 1] rfl)
    | succ d ihL2 =>
      intro i hdi H locs ls h hl
      have hEi : i < qt S := by omega
      obtain ⟨S10, eS10⟩ : ∃ z9, z9 = itN feedF i S := ⟨_, rfl⟩
      rw [← eS10] at h
      have hs9 : Shp S S10 := by rw [eS10]; exact shp_it (f := feedF) (fun _ _ => shp_sT) S i
      have hs1 := hs9.1
      have hs2 := hs9.2.1
      have hk9 := hs9.ok hk
      refine lv_iload_n hx hb dX0_goThroughDay_2 rfl (lv_at hl 0 rfl) ?_
      refine lv_aload_n hx hb dX0_goThroughDay_3 rfl (lv_at hl 1 rfl) ?_
      refine L_gL C0 hK h hB hin0 2 (by decide) (by decide +kernel) rfl dX0_goThroughDay_4 ?_
      refine lv_icmp_ge (tgt := 25) hx hb dX0_goThroughDay_7 (by decide) (fun q9 => absurd q9 (nI_ge (by omega) (by omega))) (fun _ => ?_)
      refine lv_aload_n hx hb dX0_goThroughDay_10 rfl (lv_at hl 1 rfl) ?_
      refine L_gL C0 hK h hB hin0 0 (by decide) (by decide +kernel) rfl dX0_goThroughDay_11 ?_
      refine lv_iload_n hx hb dX0_goThroughDay_14 rfl (lv_at hl 0 rfl) ?_
      refine X_aT C0 hK h hB (i := i) rfl (by omega) dX0_goThroughDay_15 ?_
      refine S_callSv C0 hK h (c_X0_feed l z σ b hB S10 i (by omega)) (va_cwS 1 hts gX0_goThroughDay_X0_feed rfl rfl rfl (by decide +kernel) ⟨Nat.le_of_ble_eq_true rfl, Nat.le_of_ble_eq_true rfl⟩) rfl hl.1 (rest := []) rfl (Nat.le_of_ble_eq_true rfl) ⟨Nat.le_of_ble_eq_true rfl, Nat.le_of_ble_eq_true rfl⟩ dX0_goThroughDay_16 (fun u H locs hp h => ?_)
      obtain ⟨S11, eS11⟩ : ∃ z9, z9 = sT S10 i (feedR (qT S10 i)) := ⟨_, rfl⟩
      rw [← eS11] at hp
      subst hp
      refine lv_iinc (v := nI (i + 1)) (lv' := [(1, .int (nI (i + 1))), (0, .ref (za z (1 + 27 * b)))]) hx hb dX0_goThroughDay_19 hl (k := 0) rfl (q_inc i 1) (by decide) rfl (fun ls hl => ?_)
      refine lv_goto (tgt := 2) hx hb dX0_goThroughDay_22 (by decide) ?_
      exact ihL2 (i + 1) (by omega) _ _ _ (by subst eS11; rw [eS10] at h; exact h) (lv_sub hl [0, 1] rfl)
  refine lv_iconst (v := 0) hx hb dX0_goThroughDay_0 (by decide) ?_
  refine lv_istore_n (lv' := [(1, .int 0), (0, .ref (za z (1 + 27 * b)))]) hx hb dX0_goThroughDay_1 rfl hl (by decide) rfl (fun ls hl => ?_)
  exact L2 (qt S) 0 (by omega) _ _ _ h (lv_sub hl [0, 1] rfl)
set_option maxHeartbeats 4000000 in
set_option maxRecDepth 100000 in
theorem c_X0_drunkIn (l : Launch) (z : QZ) (σ : Nat → QLs) (b : Nat) (hB : b < 2) (S : QLs) (hk : LOk S) (n : Nat) (hn9 : n < 2147483648) : GI l yX0_drunkIn wsX0_drunkIn ({ frames := 5, cells := 0, slots := 0, locals := 106 } : Room) z [.ref (za z (1 + 27 * b)), .int (nI n)] 0 0 (XAt z) 0 55 (va_up σ b S) (fun r σ' => r = sumT (itN dayF n S) 6 - sumT S 6 ∧ σ' = va_up σ b (itN dayF n S)) := by
  intro ct sz hn hq hat
  refine q_entry (lo := 0) (cc := cX0_drunkIn) (maxL := 4) (ret := (some .int)) (by decide) rfl (Nat.le_of_ble_eq_true rfl) hn hq hat ?_
  intro p e s m below meth c ls C0 hK hsz h hl
  subst hsz
  obtain ⟨hx, hb, hr, hml, hown, hts, hlocks⟩ := id C0
  have hl : lv_has ls 4 [(0, .ref (za z (1 + 27 * b))), (1, .int (nI n))] := hl
  have L9 : ∀ (d i : Nat), i + d = n → ∀ (H : Heap) (locs : List Loc) (ls : Array Slot), GW z (XAt z) 0 55 s.heap ct (va_up σ b (itN dayF i S)) H locs → lv_has ls 4 [(3, .int (nI i)), (2, .int (sumT S 6)), (0, .ref (za z (1 + 27 * b))), (1, .int (nI n))] → W p l e ({ frames := 5, cells := 0, slots := 0, locals := 106 } : Room) s m [.ref (za z (1 + 27 * b)), .int (nI n)].toArray below meth c H locs 0 0 (EI z (XAt z) 0 55 ct s below [.ref (za z (1 + 27 * b)), .int (nI n)] 0 0 (fun r σ' => r = sumT (itN dayF n S) 6 - sumT S 6 ∧ σ' = va_up σ b (itN dayF n S))) (F0 m 9 ls []) := by
    intro  d
    induction d with
    | zero =>
      intro i hdi H locs ls h hl
      have hEi : i = n := by omega
      obtain ⟨S1, eS1⟩ : ∃ z9, z9 = itN dayF i S := ⟨_, rfl⟩
      rw [← eS1] at h
      have hk9 : LOk S1 := by rw [eS1]; exact (shp_days S i).ok hk
      refine lv_iload_n hx hb dX0_drunkIn_9 rfl (lv_at hl 0 rfl) ?_
      refine lv_iload_n hx hb dX0_drunkIn_10 rfl (lv_at hl 3 rfl) ?_
      refine lv_icmp_ge (tgt := 24) hx hb dX0_drunkIn_11 (by decide) (fun _ => ?_) (fun q9 => absurd (nI_le (by omega) (by omega)) q9)
      refine lv_aload_n hx hb dX0_drunkIn_24 rfl (lv_at hl 2 rfl) ?_
      refine lv_bipush (v := 6) hx hb dX0_drunkIn_25 (by decide) ?_
      refine S_callVi C0 hK h (c_X0_sumOfTanks l z σ b hB S1 hk9 6 (by decide)) (cwV 1 hts gX0_drunkIn_X0_sumOfTanks rfl rfl rfl (by decide +kernel) ⟨Nat.le_of_ble_eq_true rfl, Nat.le_of_ble_eq_true rfl⟩) (k := 1 + 27 * b) (ci := 0) (by omega) (fun ct hA => (hA.2 b hB).1) rfl rfl rfl hl.1 (rest := []) rfl (Nat.le_of_ble_eq_true rfl) ⟨Nat.le_of_ble_eq_true rfl, Nat.le_of_ble_eq_true rfl⟩ dX0_drunkIn_27 (fun r u H locs hp h => ?_)
      obtain ⟨rfl, rfl⟩ := hp
      refine lv_iload_n hx hb dX0_drunkIn_30 rfl (lv_at hl 1 rfl) ?_
      refine lv_isub hx hb dX0_drunkIn_31 ?_
      exact G_iret C0 hK h ⟨by rw [eS1, hEi], congrArg (va_up σ b) (by rw [eS1, hEi])⟩ (Nat.le_of_ble_eq_true rfl) (Nat.le_of_ble_eq_true rfl) dX0_drunkIn_32
    | succ d ihL9 =>
      intro i hdi H locs ls h hl
      have hEi : i < n := by omega
      obtain ⟨S2, eS2⟩ : ∃ z9, z9 = itN dayF i S := ⟨_, rfl⟩
      rw [← eS2] at h
      have hk9 : LOk S2 := by rw [eS2]; exact (shp_days S i).ok hk
      refine lv_iload_n hx hb dX0_drunkIn_9 rfl (lv_at hl 0 rfl) ?_
      refine lv_iload_n hx hb dX0_drunkIn_10 rfl (lv_at hl 3 rfl) ?_
      refine lv_icmp_ge (tgt := 24) hx hb dX0_drunkIn_11 (by decide) (fun q9 => absurd q9 (nI_ge (by omega) (by omega))) (fun _ => ?_)
      refine lv_aload_n hx hb dX0_drunkIn_14 rfl (lv_at hl 2 rfl) ?_
      refine S_callVv C0 hK h (c_X0_goThroughDay l z σ b hB S2 hk9) (cwV 0 hts gX0_drunkIn_X0_goThroughDay rfl rfl rfl (by decide +kernel) ⟨Nat.le_of_ble_eq_true rfl, Nat.le_of_ble_eq_true rfl⟩) (k := 1 + 27 * b) (ci := 0) (by omega) (fun ct hA => (hA.2 b hB).1) rfl rfl rfl hl.1 (rest := []) rfl (Nat.le_of_ble_eq_true rfl) ⟨Nat.le_of_ble_eq_true rfl, Nat.le_of_ble_eq_true rfl⟩ dX0_drunkIn_15 (fun u H locs hp h => ?_)
      obtain ⟨S3, eS3⟩ : ∃ z9, z9 = dayL S2 := ⟨_, rfl⟩
      rw [← eS3] at hp
      subst hp
      refine lv_iinc (v := nI (i + 1)) (lv' := [(3, .int (nI (i + 1))), (2, .int (sumT S 6)), (0, .ref (za z (1 + 27 * b))), (1, .int (nI n))]) hx hb dX0_drunkIn_18 hl (k := 0) rfl (q_inc i 1) (by decide) rfl (fun ls hl => ?_)
      refine lv_goto (tgt := 9) hx hb dX0_drunkIn_21 (by decide) ?_
      exact ihL9 (i + 1) (by omega) _ _ _ (by subst eS3; rw [eS2] at h; exact h) (lv_sub hl [0, 1, 2, 3] rfl)
  refine lv_aload_n hx hb dX0_drunkIn_0 rfl (lv_at hl 0 rfl) ?_
  refine lv_bipush (v := 6) hx hb dX0_drunkIn_1 (by decide) ?_
  refine S_callVi C0 hK h (c_X0_sumOfTanks l z σ b hB S hk 6 (by decide)) (cwV 1 hts gX0_drunkIn_X0_sumOfTanks rfl rfl rfl (by decide +kernel) ⟨Nat.le_of_ble_eq_true rfl, Nat.le_of_ble_eq_true rfl⟩) (k := 1 + 27 * b) (ci := 0) (by omega) (fun ct hA => (hA.2 b hB).1) rfl rfl rfl hl.1 (rest := []) rfl (Nat.le_of_ble_eq_true rfl) ⟨Nat.le_of_ble_eq_true rfl, Nat.le_of_ble_eq_true rfl⟩ dX0_drunkIn_3 (fun r u H locs hp h => ?_)
  obtain ⟨rfl, rfl⟩ := hp
  refine lv_istore_n (lv' := [(2, .int (sumT S 6)), (0, .ref (za z (1 + 27 * b))), (1, .int (nI n))]) hx hb dX0_drunkIn_6 rfl hl (by decide) rfl (fun ls hl => ?_)
  refine lv_iconst (v := 0) hx hb dX0_drunkIn_7 (by decide) ?_
  refine lv_istore_n (lv' := [(3, .int 0), (2, .int (sumT S 6)), (0, .ref (za z (1 + 27 * b))), (1, .int (nI n))]) hx hb dX0_drunkIn_8 rfl hl (by decide) rfl (fun ls hl => ?_)
  exact L9 (n) 0 (by omega) _ _ _ h (lv_sub hl [0, 1, 2, 3] rfl)
set_option maxHeartbeats 4000000 in
set_option maxRecDepth 100000 in
theorem c_X0_ofAll (l : Launch) (z : QZ) (σ : Nat → QLs) (b : Nat) (hB : b < 2) (S : QLs) (hk : LOk S) (n : Nat) (hn9 : n ≤ 8) : GI l yX0_ofAll wsX0_ofAll ({ frames := 2, cells := 0, slots := 0, locals := 43 } : Room) z [.ref (za z (1 + 27 * b)), .int (nI n)] 0 0 (XAt z) 0 55 (va_up σ b S) (fun r σ' => r = ofAllL S n ∧ σ' = va_up σ b S) := by
  intro ct sz hn hq hat
  refine q_entry (lo := 0) (cc := cX0_ofAll) (maxL := 2) (ret := (some .int)) (by decide) rfl (Nat.le_of_ble_eq_true rfl) hn hq hat ?_
  intro p e s m below meth c ls C0 hK hsz h hl
  subst hsz
  obtain ⟨hx, hb, hr, hml, hown, hts, hlocks⟩ := id C0
  have hin0 : ∀ w ∈ u_ws RX0 TX0 5, w ∈ wsX0_ofAll := by decide +kernel
  have hl : lv_has ls 2 [(0, .ref (za z (1 + 27 * b))), (1, .int (nI n))] := hl
  rcases (show n = 0 ∨ n = 1 ∨ n = 2 ∨ n = 3 ∨ n = 4 ∨ n = 5 ∨ n = 6 ∨ n = 7 ∨ n = 8 by omega) with rfl | rfl | rfl | rfl | rfl | rfl | rfl | rfl | rfl
  · refine lv_iload_n hx hb dX0_ofAll_0 rfl (lv_at hl 1 rfl) ?_
    refine lv_tableIn (off := 47) (tgt := 48) hx hb dX0_ofAll_1 (by decide +kernel) (by decide +kernel) rfl (by decide) ?_
    refine lv_aload_n hx hb dX0_ofAll_48 rfl (lv_at hl 0 rfl) ?_
    refine L_gL C0 hK h hB hin0 4 (by decide) (by decide +kernel) rfl dX0_ofAll_49 ?_
    exact G_iret C0 hK h ⟨rfl, rfl⟩ (Nat.le_of_ble_eq_true rfl) (Nat.le_of_ble_eq_true rfl) dX0_ofAll_52
  · refine lv_iload_n hx hb dX0_ofAll_0 rfl (lv_at hl 1 rfl) ?_
    refine lv_tableIn (off := 52) (tgt := 53) hx hb dX0_ofAll_1 (by decide +kernel) (by decide +kernel) rfl (by decide) ?_
    refine lv_aload_n hx hb dX0_ofAll_53 rfl (lv_at hl 0 rfl) ?_
    refine L_gL C0 hK h hB hin0 2 (by decide) (by decide +kernel) rfl dX0_ofAll_54 ?_
    exact G_iret C0 hK h ⟨rfl, rfl⟩ (Nat.le_of_ble_eq_true rfl) (Nat.le_of_ble_eq_true rfl) dX0_ofAll_57
  · refine lv_iload_n hx hb dX0_ofAll_0 rfl (lv_at hl 1 rfl) ?_
    refine lv_tableIn (off := 57) (tgt := 58) hx hb dX0_ofAll_1 (by decide +kernel) (by decide +kernel) rfl (by decide) ?_
    refine lv_aload_n hx hb dX0_ofAll_58 rfl (lv_at hl 0 rfl) ?_
    refine L_gL C0 hK h hB hin0 3 (by decide) (by decide +kernel) rfl dX0_ofAll_59 ?_
    exact G_iret C0 hK h ⟨rfl, rfl⟩ (Nat.le_of_ble_eq_true rfl) (Nat.le_of_ble_eq_true rfl) dX0_ofAll_62
  · refine lv_iload_n hx hb dX0_ofAll_0 rfl (lv_at hl 1 rfl) ?_
    refine lv_tableIn (off := 62) (tgt := 63) hx hb dX0_ofAll_1 (by decide +kernel) (by decide +kernel) rfl (by decide) ?_
    refine lv_aload_n hx hb dX0_ofAll_63 rfl (lv_at hl 0 rfl) ?_
    refine lv_iconst (v := 3) hx hb dX0_ofAll_64 (by decide) ?_
    refine S_callVi C0 hK h (c_X0_sumOfTanks l z σ b hB S hk 3 (by decide)) (cwV 1 hts gX0_ofAll_X0_sumOfTanks rfl rfl rfl (by decide +kernel) ⟨Nat.le_of_ble_eq_true rfl, Nat.le_of_ble_eq_true rfl⟩) (k := 1 + 27 * b) (ci := 0) (by omega) (fun ct hA => (hA.2 b hB).1) rfl rfl rfl hl.1 (rest := []) rfl (Nat.le_of_ble_eq_true rfl) ⟨Nat.le_of_ble_eq_true rfl, Nat.le_of_ble_eq_true rfl⟩ dX0_ofAll_65 (fun r u H locs hp h => ?_)
    obtain ⟨rfl, rfl⟩ := hp
    exact G_iret C0 hK h ⟨rfl, rfl⟩ (Nat.le_of_ble_eq_true rfl) (Nat.le_of_ble_eq_true rfl) dX0_ofAll_68
  · refine lv_iload_n hx hb dX0_ofAll_0 rfl (lv_at hl 1 rfl) ?_
    refine lv_tableIn (off := 68) (tgt := 69) hx hb dX0_ofAll_1 (by decide +kernel) (by decide +kernel) rfl (by decide) ?_
    refine lv_aload_n hx hb dX0_ofAll_69 rfl (lv_at hl 0 rfl) ?_
    refine lv_iconst (v := 4) hx hb dX0_ofAll_70 (by decide) ?_
    refine S_callVi C0 hK h (c_X0_sumOfTanks l z σ b hB S hk 4 (by decide)) (cwV 1 hts gX0_ofAll_X0_sumOfTanks rfl rfl rfl (by decide +kernel) ⟨Nat.le_of_ble_eq_true rfl, Nat.le_of_ble_eq_true rfl⟩) (k := 1 + 27 * b) (ci := 0) (by omega) (fun ct hA => (hA.2 b hB).1) rfl rfl rfl hl.1 (rest := []) rfl (Nat.le_of_ble_eq_true rfl) ⟨Nat.le_of_ble_eq_true rfl, Nat.le_of_ble_eq_true rfl⟩ dX0_ofAll_71 (fun r u H locs hp h => ?_)
    obtain ⟨rfl, rfl⟩ := hp
    exact G_iret C0 hK h ⟨rfl, rfl⟩ (Nat.le_of_ble_eq_true rfl) (Nat.le_of_ble_eq_true rfl) dX0_ofAll_74
  · refine lv_iload_n hx hb dX0_ofAll_0 rfl (lv_at hl 1 rfl) ?_
    refine lv_tableIn (off := 74) (tgt := 75) hx hb dX0_ofAll_1 (by decide +kernel) (by decide +kernel) rfl (by decide) ?_
    refine lv_aload_n hx hb dX0_ofAll_75 rfl (lv_at hl 0 rfl) ?_
    refine lv_bipush (v := 6) hx hb dX0_ofAll_76 (by decide) ?_
    refine S_callVi C0 hK h (c_X0_sumOfTanks l z σ b hB S hk 6 (by decide)) (cwV 1 hts gX0_ofAll_X0_sumOfTanks rfl rfl rfl (by decide +kernel) ⟨Nat.le_of_ble_eq_true rfl, Nat.le_of_ble_eq_true rfl⟩) (k := 1 + 27 * b) (ci := 0) (by omega) (fun ct hA => (hA.2 b hB).1) rfl rfl rfl hl.1 (rest := []) rfl (Nat.le_of_ble_eq_true rfl) ⟨Nat.le_of_ble_eq_true rfl, Nat.le_of_ble_eq_true rfl⟩ dX0_ofAll_78 (fun r u H locs hp h => ?_)
    obtain ⟨rfl, rfl⟩ := hp
    exact G_iret C0 hK h ⟨rfl, rfl⟩ (Nat.le_of_ble_eq_true rfl) (Nat.le_of_ble_eq_true rfl) dX0_ofAll_81
  · refine lv_iload_n hx hb dX0_ofAll_0 rfl (lv_at hl 1 rfl) ?_
    refine lv_tableIn (off := 81) (tgt := 82) hx hb dX0_ofAll_1 (by decide +kernel) (by decide +kernel) rfl (by decide) ?_
    refine lv_aload_n hx hb dX0_ofAll_82 rfl (lv_at hl 0 rfl) ?_
    refine lv_bipush (v := 7) hx hb dX0_ofAll_83 (by decide) ?_
    refine S_callVi C0 hK h (c_X0_sumOfPipes l z σ b hB S hk 7 (by decide)) (cwV 1 hts gX0_ofAll_X0_sumOfPipes rfl rfl rfl (by decide +kernel) ⟨Nat.le_of_ble_eq_true rfl, Nat.le_of_ble_eq_true rfl⟩) (k := 1 + 27 * b) (ci := 0) (by omega) (fun ct hA => (hA.2 b hB).1) rfl rfl rfl hl.1 (rest := []) rfl (Nat.le_of_ble_eq_true rfl) ⟨Nat.le_of_ble_eq_true rfl, Nat.le_of_ble_eq_true rfl⟩ dX0_ofAll_85 (fun r u H locs hp h => ?_)
    obtain ⟨rfl, rfl⟩ := hp
    exact G_iret C0 hK h ⟨rfl, rfl⟩ (Nat.le_of_ble_eq_true rfl) (Nat.le_of_ble_eq_true rfl) dX0_ofAll_88
  · refine lv_iload_n hx hb dX0_ofAll_0 rfl (lv_at hl 1 rfl) ?_
    refine lv_tableIn (off := 88) (tgt := 89) hx hb dX0_ofAll_1 (by decide +kernel) (by decide +kernel) rfl (by decide) ?_
    refine lv_aload_n hx hb dX0_ofAll_89 rfl (lv_at hl 0 rfl) ?_
    refine lv_bipush (v := 7) hx hb dX0_ofAll_90 (by decide) ?_
    refine S_callVi C0 hK h (c_X0_sumOfTanks l z σ b hB S hk 7 (by decide)) (cwV 1 hts gX0_ofAll_X0_sumOfTanks rfl rfl rfl (by decide +kernel) ⟨Nat.le_of_ble_eq_true rfl, Nat.le_of_ble_eq_true rfl⟩) (k := 1 + 27 * b) (ci := 0) (by omega) (fun ct hA => (hA.2 b hB).1) rfl rfl rfl hl.1 (rest := []) rfl (Nat.le_of_ble_eq_true rfl) ⟨Nat.le_of_ble_eq_true rfl, Nat.le_of_ble_eq_true rfl⟩ dX0_ofAll_92 (fun r u H locs hp h => ?_)
    obtain ⟨rfl, rfl⟩ := hp
    exact G_iret C0 hK h ⟨rfl, rfl⟩ (Nat.le_of_ble_eq_true rfl) (Nat.le_of_ble_eq_true rfl) dX0_ofAll_95
  · refine lv_iload_n hx hb dX0_ofAll_0 rfl (lv_at hl 1 rfl) ?_
    refine lv_tableOut (tgt := 96) hx hb dX0_ofAll_1 (by decide +kernel) (by decide) ?_
    refine lv_aload_n hx hb dX0_ofAll_96 rfl (lv_at hl 0 rfl) ?_
    refine S_callVi C0 hK h (c_X0_thirstyTanks l z σ b hB S hk) (cwV 0 hts gX0_ofAll_X0_thirstyTanks rfl rfl rfl (by decide +kernel) ⟨Nat.le_of_ble_eq_true rfl, Nat.le_of_ble_eq_true rfl⟩) (k := 1 + 27 * b) (ci := 0) (by omega) (fun ct hA => (hA.2 b hB).1) rfl rfl rfl hl.1 (rest := []) rfl (Nat.le_of_ble_eq_true rfl) ⟨Nat.le_of_ble_eq_true rfl, Nat.le_of_ble_eq_true rfl⟩ dX0_ofAll_97 (fun r u H locs hp h => ?_)
    obtain ⟨rfl, rfl⟩ := hp
    exact G_iret C0 hK h ⟨rfl, rfl⟩ (Nat.le_of_ble_eq_true rfl) (Nat.le_of_ble_eq_true rfl) dX0_ofAll_100
set_option maxHeartbeats 4000000 in
set_option maxRecDepth 100000 in
theorem c_X0_reachedFrom (l : Launch) (z : QZ) (σ : Nat → QLs) (b : Nat) (hB : b < 2) (S : QLs) (hk : LOk S) (x : Int32) : GI l yX0_reachedFrom wsX0_reachedFrom ({ frames := 0, cells := 0, slots := 0, locals := 0 } : Room) z [.ref (za z (1 + 27 * b)), .int x] 0 0 (XAt z) 0 55 (va_up σ b S) (fun r σ' => r = reachL S x ∧ σ' = va_up σ b S) := by
  intro ct sz hn hq hat
  refine q_entry (lo := 0) (cc := cX0_reachedFrom) (maxL := 6) (ret := (some .int)) (by decide) rfl (Nat.le_of_ble_eq_true rfl) hn hq hat ?_
  intro p e s m below meth c ls C0 hK hsz h hl
  subst hsz
  obtain ⟨hx, hb, hr, hml, hown, hts, hlocks⟩ := id C0
  have hin0 : ∀ w ∈ u_ws RX0 TX0 5, w ∈ wsX0_reachedFrom := by decide +kernel
  have hl : lv_has ls 6 [(0, .ref (za z (1 + 27 * b))), (1, .int x)] := hl
  have hk1 := hk.1
  have hk2 := hk.2.1
  have L4 : ∀ (d i : Nat), i + d = qt S → ∀ (H : Heap) (locs : List Loc) (ls : Array Slot), GW z (XAt z) 0 55 s.heap ct (va_up σ b S) H locs → lv_has ls 6 [(3, .int (nI i)), (2, .int (itN (fun _ r => rRound S x r) i 0)), (0, .ref (za z (1 + 27 * b))), (1, .int x)] → W p l e ({ frames := 0, cells := 0, slots := 0, locals := 0 } : Room) s m [.ref (za z (1 + 27 * b)), .int x].toArray below meth c H locs 0 0 (EI z (XAt z) 0 55 ct s below [.ref (za z (1 + 27 * b)), .int x] 0 0 (fun r σ' => r = reachL S x ∧ σ' = va_up σ b S)) (F0 m 4 ls []) := by
    intro  d
    induction d with
    | zero =>
      intro i hdi H locs ls h hl
      have hEi : i = qt S := by omega
      refine lv_iload_n hx hb dX0_reachedFrom_4 rfl (lv_at hl 0 rfl) ?_
      refine lv_aload_n hx hb dX0_reachedFrom_5 rfl (lv_at hl 2 rfl) ?_
      refine L_gL C0 hK h hB hin0 2 (by decide) (by decide +kernel) rfl dX0_reachedFrom_6 ?_
      refine lv_icmp_ge (tgt := 76) hx hb dX0_reachedFrom_9 (by decide) (fun _ => ?_) (fun q9 => absurd (nI_le (by omega) (by omega)) q9)
      refine lv_iload_n hx hb dX0_reachedFrom_76 rfl (lv_at hl 1 rfl) ?_
      exact G_iret C0 hK h ⟨by rw [hEi]; rfl, rfl⟩ (Nat.le_of_ble_eq_true rfl) (Nat.le_of_ble_eq_true rfl) dX0_reachedFrom_77
    | succ d ihL4 =>
      intro i hdi H locs ls h hl
      have hEi : i < qt S := by omega
      have L15 : ∀ (g j : Nat), j + g = qp S → ∀ (H : Heap) (locs : List Loc) (ls : Array Slot), GW z (XAt z) 0 55 s.heap ct (va_up σ b S) H locs → lv_has ls 6 [(4, .int (nI j)), (3, .int (nI i)), (2, .int (itN (rStep S x) j (itN (fun _ r => rRound S x r) i 0))), (0, .ref (za z (1 + 27 * b))), (1, .int x)] → W p l e ({ frames := 0, cells := 0, slots := 0, locals := 0 } : Room) s m [.ref (za z (1 + 27 * b)), .int x].toArray below meth c H locs 0 0 (EI z (XAt z) 0 55 ct s below [.ref (za z (1 + 27 * b)), .int x] 0 0 (fun r σ' => r = reachL S x ∧ σ' = va_up σ b S)) (F0 m 15 ls []) := by
        intro  g
        induction g with
        | zero =>
          intro j hdj H locs ls h hl
          have hEj : j = qp S := by omega
          have hk7 := hk.2.1
          refine lv_iload hx hb dX0_reachedFrom_15 (lv_at hl 0 rfl) ?_
          refine lv_aload_n hx hb dX0_reachedFrom_17 rfl (lv_at hl 3 rfl) ?_
          refine L_gL C0 hK h hB hin0 3 (by decide) (by decide +kernel) rfl dX0_reachedFrom_18 ?_
          refine lv_icmp_ge (tgt := 70) hx hb dX0_reachedFrom_21 (by decide) (fun _ => ?_) (fun q9 => absurd (nI_le (by omega) (by omega)) q9)
          refine lv_iinc (v := nI (i + 1)) (lv' := [(3, .int (nI (i + 1))), (4, .int (nI j)), (2, .int (itN (rStep S x) j (itN (fun _ r => rRound S x r) i 0))), (0, .ref (za z (1 + 27 * b))), (1, .int x)]) hx hb dX0_reachedFrom_70 hl (k := 1) rfl (q_inc i 1) (by decide) rfl (fun ls hl => ?_)
          refine lv_goto (tgt := 4) hx hb dX0_reachedFrom_73 (by decide) ?_
          rw [hEj] at hl
          exact ihL4 (i + 1) (by omega) _ _ _ h (lv_sub hl [0, 2, 3, 4] rfl)
        | succ g ihL15 =>
          intro j hdj H locs ls h hl
          have hEj : j < qp S := by omega
          have hk7 := hk.2.1
          refine lv_iload hx hb dX0_reachedFrom_15 (lv_at hl 0 rfl) ?_
          refine lv_aload_n hx hb dX0_reachedFrom_17 rfl (lv_at hl 3 rfl) ?_
          refine L_gL C0 hK h hB hin0 3 (by decide) (by decide +kernel) rfl dX0_reachedFrom_18 ?_
          refine lv_icmp_ge (tgt := 70) hx hb dX0_reachedFrom_21 (by decide) (fun q9 => absurd q9 (nI_ge (by omega) (by omega))) (fun _ => ?_)
          refine lv_aload_n hx hb dX0_reachedFrom_24 rfl (lv_at hl 3 rfl) ?_
          refine L_gL C0 hK h hB hin0 1 (by decide) (by decide +kernel) rfl dX0_reachedFrom_25 ?_
          refine lv_iload hx hb dX0_reachedFrom_28 (lv_at hl 0 rfl) ?_
          refine X_aP C0 hK h hB (i := j) rfl (by omega) dX0_reachedFrom_30 ?_
          refine lv_iconst (v := 0) hx hb dX0_reachedFrom_31 (by decide) ?_
          refine L_ldP C0 hK h hB (by omega) (k := 0) rfl (by decide) dX0_reachedFrom_32 ?_
          refine lv_istore (lv' := [(5, .int (qP S j 0)), (4, .int (nI j)), (3, .int (nI i)), (2, .int (itN (rStep S x) j (itN (fun _ r => rRound S x r) i 0))), (0, .ref (za z (1 + 27 * b))), (1, .int x)]) hx hb dX0_reachedFrom_33 hl (by decide) rfl (fun ls hl => ?_)
          refine lv_iload hx hb dX0_reachedFrom_35 (lv_at hl 0 rfl) ?_
          refine lv_iload_n hx hb dX0_reachedFrom_37 rfl (lv_at hl 5 rfl) ?_
          refine lv_icmp_eq (tgt := 50) hx hb dX0_reachedFrom_38 (by decide) (fun c_38 => ?_) (fun c_38 => ?_)
          · refine lv_iload_n hx hb dX0_reachedFrom_50 rfl (lv_at hl 3 rfl) ?_
            refine lv_iconst (v := 1) hx hb dX0_reachedFrom_51 (by decide) ?_
            refine lv_aload_n hx hb dX0_reachedFrom_52 rfl (lv_at hl 4 rfl) ?_
            refine L_gL C0 hK h hB hin0 1 (by decide) (by decide +kernel) rfl dX0_reachedFrom_53 ?_
            refine lv_iload hx hb dX0_reachedFrom_56 (lv_at hl 1 rfl) ?_
            refine X_aP C0 hK h hB (i := j) rfl (by omega) dX0_reachedFrom_58 ?_
            refine lv_iconst (v := 1) hx hb dX0_reachedFrom_59 (by decide) ?_
            refine L_ldP C0 hK h hB (by omega) (k := 1) rfl (by decide) dX0_reachedFrom_60 ?_
            refine lv_ishl hx hb dX0_reachedFrom_61 ?_
            refine lv_ior hx hb dX0_reachedFrom_62 ?_
            refine lv_istore_n (lv' := [(2, .int ((itN (rStep S x) j (itN (fun _ r => rRound S x r) i 0)) ||| (1 <<< ((qP S j 1) &&& 31)))), (5, .int (qP S j 0)), (4, .int (nI j)), (3, .int (nI i)), (0, .ref (za z (1 + 27 * b))), (1, .int x)]) hx hb dX0_reachedFrom_63 rfl hl (by decide) rfl (fun ls hl => ?_)
            refine lv_iinc (v := nI (j + 1)) (lv' := [(4, .int (nI (j + 1))), (2, .int ((itN (rStep S x) j (itN (fun _ r => rRound S x r) i 0)) ||| (1 <<< ((qP S j 1) &&& 31)))), (5, .int (qP S j 0)), (3, .int (nI i)), (0, .ref (za z (1 + 27 * b))), (1, .int x)]) hx hb dX0_reachedFrom_64 hl (k := 2) rfl (q_inc j 1) (by decide) rfl (fun ls hl => ?_)
            refine lv_goto (tgt := 15) hx hb dX0_reachedFrom_67 (by decide) ?_
            have e9 : itN (rStep S x) (j + 1) (itN (fun _ r => rRound S x r) i 0) = (itN (rStep S x) j (itN (fun _ r => rRound S x r) i 0)) ||| (1 <<< ((qP S j 1) &&& 31)) := rStep_a c_38
            rw [← e9] at hl
            exact ihL15 (j + 1) (by omega) _ _ _ h (lv_sub hl [0, 3, 1, 4, 5] rfl)
          · refine lv_iload_n hx hb dX0_reachedFrom_41 rfl (lv_at hl 3 rfl) ?_
            refine lv_iconst (v := 1) hx hb dX0_reachedFrom_42 (by decide) ?_
            refine lv_iload hx hb dX0_reachedFrom_43 (lv_at hl 0 rfl) ?_
            refine lv_ishl hx hb dX0_reachedFrom_45 ?_
            refine lv_iand hx hb dX0_reachedFrom_46 ?_
            refine lv_if_eq (tgt := 64) hx hb dX0_reachedFrom_47 (by decide) (fun c_47 => ?_) (fun c_47 => ?_)
            · refine lv_iinc (v := nI (j + 1)) (lv' := [(4, .int (nI (j + 1))), (5, .int (qP S j 0)), (3, .int (nI i)), (2, .int (itN (rStep S x) j (itN (fun _ r => rRound S x r) i 0))), (0, .ref (za z (1 + 27 * b))), (1, .int x)]) hx hb dX0_reachedFrom_64 hl (k := 1) rfl (q_inc j 1) (by decide) rfl (fun ls hl => ?_)
              refine lv_goto (tgt := 15) hx hb dX0_reachedFrom_67 (by decide) ?_
              have e9 : itN (rStep S x) (j + 1) (itN (fun _ r => rRound S x r) i 0) = itN (rStep S x) j (itN (fun _ r => rRound S x r) i 0) := rStep_b c_38 c_47
              rw [← e9] at hl
              exact ihL15 (j + 1) (by omega) _ _ _ h (lv_sub hl [0, 2, 3, 4, 5] rfl)
            · refine lv_iload_n hx hb dX0_reachedFrom_50 rfl (lv_at hl 3 rfl) ?_
              refine lv_iconst (v := 1) hx hb dX0_reachedFrom_51 (by decide) ?_
              refine lv_aload_n hx hb dX0_reachedFrom_52 rfl (lv_at hl 4 rfl) ?_
              refine L_gL C0 hK h hB hin0 1 (by decide) (by decide +kernel) rfl dX0_reachedFrom_53 ?_
              refine lv_iload hx hb dX0_reachedFrom_56 (lv_at hl 1 rfl) ?_
              refine X_aP C0 hK h hB (i := j) rfl (by omega) dX0_reachedFrom_58 ?_
              refine lv_iconst (v := 1) hx hb dX0_reachedFrom_59 (by decide) ?_
              refine L_ldP C0 hK h hB (by omega) (k := 1) rfl (by decide) dX0_reachedFrom_60 ?_
              refine lv_ishl hx hb dX0_reachedFrom_61 ?_
              refine lv_ior hx hb dX0_reachedFrom_62 ?_
              refine lv_istore_n (lv' := [(2, .int ((itN (rStep S x) j (itN (fun _ r => rRound S x r) i 0)) ||| (1 <<< ((qP S j 1) &&& 31)))), (5, .int (qP S j 0)), (4, .int (nI j)), (3, .int (nI i)), (0, .ref (za z (1 + 27 * b))), (1, .int x)]) hx hb dX0_reachedFrom_63 rfl hl (by decide) rfl (fun ls hl => ?_)
              refine lv_iinc (v := nI (j + 1)) (lv' := [(4, .int (nI (j + 1))), (2, .int ((itN (rStep S x) j (itN (fun _ r => rRound S x r) i 0)) ||| (1 <<< ((qP S j 1) &&& 31)))), (5, .int (qP S j 0)), (3, .int (nI i)), (0, .ref (za z (1 + 27 * b))), (1, .int x)]) hx hb dX0_reachedFrom_64 hl (k := 2) rfl (q_inc j 1) (by decide) rfl (fun ls hl => ?_)
              refine lv_goto (tgt := 15) hx hb dX0_reachedFrom_67 (by decide) ?_
              have e9 : itN (rStep S x) (j + 1) (itN (fun _ r => rRound S x r) i 0) = (itN (rStep S x) j (itN (fun _ r => rRound S x r) i 0)) ||| (1 <<< ((qP S j 1) &&& 31)) := rStep_c c_38 c_47
              rw [← e9] at hl
              exact ihL15 (j + 1) (by omega) _ _ _ h (lv_sub hl [0, 3, 1, 4, 5] rfl)
      refine lv_iload_n hx hb dX0_reachedFrom_4 rfl (lv_at hl 0 rfl) ?_
      refine lv_aload_n hx hb dX0_reachedFrom_5 rfl (lv_at hl 2 rfl) ?_
      refine L_gL C0 hK h hB hin0 2 (by decide) (by decide +kernel) rfl dX0_reachedFrom_6 ?_
      refine lv_icmp_ge (tgt := 76) hx hb dX0_reachedFrom_9 (by decide) (fun q9 => absurd q9 (nI_ge (by omega) (by omega))) (fun _ => ?_)
      refine lv_iconst (v := 0) hx hb dX0_reachedFrom_12 (by decide) ?_
      refine lv_istore (lv' := [(4, .int 0), (3, .int (nI i)), (2, .int (itN (fun _ r => rRound S x r) i 0)), (0, .ref (za z (1 + 27 * b))), (1, .int x)]) hx hb dX0_reachedFrom_13 hl (by decide) rfl (fun ls hl => ?_)
      exact L15 (qp S) 0 (by omega) _ _ _ h (lv_sub hl [0, 1, 2, 3, 4] rfl)
  refine lv_iconst (v := 0) hx hb dX0_reachedFrom_0 (by decide) ?_
  refine lv_istore_n (lv' := [(2, .int 0), (0, .ref (za z (1 + 27 * b))), (1, .int x)]) hx hb dX0_reachedFrom_1 rfl hl (by decide) rfl (fun ls hl => ?_)
  refine lv_iconst (v := 0) hx hb dX0_reachedFrom_2 (by decide) ?_
  refine lv_istore_n (lv' := [(3, .int 0), (2, .int 0), (0, .ref (za z (1 + 27 * b))), (1, .int x)]) hx hb dX0_reachedFrom_3 rfl hl (by decide) rfl (fun ls hl => ?_)
  exact L4 (qt S) 0 (by omega) _ _ _ h (lv_sub hl [0, 1, 2, 3] rfl)
set_option maxHeartbeats 4000000 in
set_option maxRecDepth 100000 in
theorem c_X0_addTank (l : Launch) (z : QZ) (σ : Nat → QLs) (b : Nat) (hB : b < 2) (S : QLs) (hlt : qt S < 10) (x y v : Int32) : GI l yX0_addTank wsX0_addTank ({ frames := 0, cells := 0, slots := 0, locals := 0 } : Room) z [.ref (za z (1 + 27 * b)), .int x, .int y, .int v] 0 0 (XAt z) 0 55 (va_up σ b S) (fun r σ' => r = nI (qt S) ∧ σ' = va_up σ b (addT S x y v)) := by
  intro ct sz hn hq hat
  refine q_entry (lo := 0) (cc := cX0_addTank) (maxL := 5) (ret := (some .int)) (by decide) rfl (Nat.le_of_ble_eq_true rfl) hn hq hat ?_
  intro p e s m below meth c ls C0 hK hsz h hl
  subst hsz
  obtain ⟨hx, hb, hr, hml, hown, hts, hlocks⟩ := id C0
  have hin0 : ∀ w ∈ u_ws RX0 TX0 5, w ∈ wsX0_addTank := by decide +kernel
  have hl : lv_has ls 5 [(0, .ref (za z (1 + 27 * b))), (1, .int x), (2, .int y), (3, .int v)] := hl
  refine lv_aload_n hx hb dX0_addTank_0 rfl (lv_at hl 0 rfl) ?_
  refine L_gL C0 hK h hB hin0 2 (by decide) (by decide +kernel) rfl dX0_addTank_1 ?_
  refine lv_bipush (v := 10) hx hb dX0_addTank_4 (by decide) ?_
  refine lv_icmp_lt (tgt := 11) hx hb dX0_addTank_6 (by decide) (fun _ => ?_) (fun q9 => absurd (show nI (qt S) < nI 10 from nI_lt hlt (by decide)) q9)
  refine lv_aload_n hx hb dX0_addTank_11 rfl (lv_at hl 0 rfl) ?_
  refine L_gL C0 hK h hB hin0 0 (by decide) (by decide +kernel) rfl dX0_addTank_12 ?_
  refine lv_aload_n hx hb dX0_addTank_15 rfl (lv_at hl 0 rfl) ?_
  refine L_gL C0 hK h hB hin0 2 (by decide) (by decide +kernel) rfl dX0_addTank_16 ?_
  refine X_aT C0 hK h hB (i := qt S) rfl (by omega) dX0_addTank_19 ?_
  refine lv_astore (lv' := [(4, .ref (za z (1 + 27 * b + (3 + (qt S))))), (0, .ref (za z (1 + 27 * b))), (1, .int x), (2, .int y), (3, .int v)]) hx hb dX0_addTank_20 hl (by decide) rfl (fun ls hl => ?_)
  refine lv_aload hx hb dX0_addTank_22 (lv_at hl 0 rfl) ?_
  refine lv_iconst (v := 0) hx hb dX0_addTank_24 (by decide) ?_
  refine lv_iload_n hx hb dX0_addTank_25 rfl (lv_at hl 2 rfl) ?_
  refine L_stT C0 hK h hB (by omega) (k := 0) rfl (by decide) dX0_addTank_26 (fun H locs S1 eS1 h => ?_)
  refine lv_aload hx hb dX0_addTank_27 (lv_at hl 0 rfl) ?_
  refine lv_iconst (v := 1) hx hb dX0_addTank_29 (by decide) ?_
  refine lv_iload_n hx hb dX0_addTank_30 rfl (lv_at hl 3 rfl) ?_
  refine L_stT C0 hK h hB (by omega) (k := 1) rfl (by decide) dX0_addTank_31 (fun H locs S2 eS2 h => ?_)
  refine lv_aload hx hb dX0_addTank_32 (lv_at hl 0 rfl) ?_
  refine lv_iconst (v := 2) hx hb dX0_addTank_34 (by decide) ?_
  refine lv_iload_n hx hb dX0_addTank_35 rfl (lv_at hl 4 rfl) ?_
  refine L_stT C0 hK h hB (by omega) (k := 2) rfl (by decide) dX0_addTank_36 (fun H locs S3 eS3 h => ?_)
  refine lv_aload_n hx hb dX0_addTank_37 rfl (lv_at hl 1 rfl) ?_
  refine lv_dup hx hb dX0_addTank_38 rfl ?_
  refine L_gL C0 hK h hB hin0 2 (by decide) (by decide +kernel) rfl dX0_addTank_39 ?_
  refine lv_iconst (v := 1) hx hb dX0_addTank_42 (by decide) ?_
  refine lv_iadd hx hb dX0_addTank_43 ?_
  refine L_pt C0 hK h hB hin0 (by decide +kernel) (n := (qt S3) + 1) (q_add rfl rfl) dX0_addTank_44 (fun H locs S4 eS4 h => ?_)
  refine lv_aload_n hx hb dX0_addTank_47 rfl (lv_at hl 1 rfl) ?_
  refine L_gL C0 hK h hB hin0 2 (by decide) (by decide +kernel) rfl dX0_addTank_48 ?_
  refine lv_iconst (v := 1) hx hb dX0_addTank_51 (by decide) ?_
  refine lv_isub hx hb dX0_addTank_52 ?_
  exact G_iret C0 hK h ⟨by subst eS4 eS3 eS2 eS1; exact nI_pred _, congrArg (va_up σ b) (by subst eS4 eS3 eS2 eS1; simp only [qT_sT, sT_sT, qP_sP, sP_sP]; rfl)⟩ (Nat.le_of_ble_eq_true rfl) (Nat.le_of_ble_eq_true rfl) dX0_addTank_53

set_option maxHeartbeats 4000000 in
set_option maxRecDepth 100000 in
theorem c_X0_addTank_full (l : Launch) (z : QZ) (σ : Nat → QLs) (b : Nat) (hB : b < 2) (S : QLs) (hge : ¬ qt S < 10) (hle : qt S ≤ 10) (x y v : Int32) : GI l yX0_addTank wsX0_addTank ({ frames := 0, cells := 0, slots := 0, locals := 0 } : Room) z [.ref (za z (1 + 27 * b)), .int x, .int y, .int v] 0 0 (XAt z) 0 55 (va_up σ b S) (fun r σ' => r = -1 ∧ σ' = va_up σ b S) := by
  intro ct sz hn hq hat
  refine q_entry (lo := 0) (cc := cX0_addTank) (maxL := 5) (ret := (some .int)) (by decide) rfl (Nat.le_of_ble_eq_true rfl) hn hq hat ?_
  intro p e s m below meth c ls C0 hK hsz h hl
  subst hsz
  obtain ⟨hx, hb, hr, hml, hown, hts, hlocks⟩ := id C0
  have hin0 : ∀ w ∈ u_ws RX0 TX0 5, w ∈ wsX0_addTank := by decide +kernel
  have hl : lv_has ls 5 [(0, .ref (za z (1 + 27 * b))), (1, .int x), (2, .int y), (3, .int v)] := hl
  refine lv_aload_n hx hb dX0_addTank_0 rfl (lv_at hl 0 rfl) ?_
  refine L_gL C0 hK h hB hin0 2 (by decide) (by decide +kernel) rfl dX0_addTank_1 ?_
  refine lv_bipush (v := 10) hx hb dX0_addTank_4 (by decide) ?_
  refine lv_icmp_lt (tgt := 11) hx hb dX0_addTank_6 (by decide) (fun q9 => absurd q9 (show ¬ nI (qt S) < nI 10 from nI_nlt (by omega) (by omega))) (fun _ => ?_)
  refine lv_iconst (v := (-1)) hx hb dX0_addTank_9 (by decide) ?_
  exact G_iret C0 hK h ⟨rfl, rfl⟩ (Nat.le_of_ble_eq_true rfl) (Nat.le_of_ble_eq_true rfl) dX0_addTank_10
set_option maxHeartbeats 4000000 in
set_option maxRecDepth 100000 in
theorem c_X0_addPipe (l : Launch) (z : QZ) (σ : Nat → QLs) (b : Nat) (hB : b < 2) (S : QLs) (hlt : qp S < 14) (x y v u : Int32) : GI l yX0_addPipe wsX0_addPipe ({ frames := 0, cells := 0, slots := 0, locals := 0 } : Room) z [.ref (za z (1 + 27 * b)), .int x, .int y, .int v, .int u] 0 0 (XAt z) 0 55 (va_up σ b S) (fun r σ' => r = nI (qp S) ∧ σ' = va_up σ b (addP S x y v u)) := by
  intro ct sz hn hq hat
  refine q_entry (lo := 0) (cc := cX0_addPipe) (maxL := 6) (ret := (some .int)) (by decide) rfl (Nat.le_of_ble_eq_true rfl) hn hq hat ?_
  intro p e s m below meth c ls C0 hK hsz h hl
  subst hsz
  obtain ⟨hx, hb, hr, hml, hown, hts, hlocks⟩ := id C0
  have hin0 : ∀ w ∈ u_ws RX0 TX0 5, w ∈ wsX0_addPipe := by decide +kernel
  have hl : lv_has ls 6 [(0, .ref (za z (1 + 27 * b))), (1, .int x), (2, .int y), (3, .int v), (4, .int u)] := hl
  refine lv_aload_n hx hb dX0_addPipe_0 rfl (lv_at hl 0 rfl) ?_
  refine L_gL C0 hK h hB hin0 3 (by decide) (by decide +kernel) rfl dX0_addPipe_1 ?_
  refine lv_bipush (v := 14) hx hb dX0_addPipe_4 (by decide) ?_
  refine lv_icmp_lt (tgt := 11) hx hb dX0_addPipe_6 (by decide) (fun _ => ?_) (fun q9 => absurd (show nI (qp S) < nI 14 from nI_lt hlt (by decide)) q9)
  refine lv_aload_n hx hb dX0_addPipe_11 rfl (lv_at hl 0 rfl) ?_
  refine L_gL C0 hK h hB hin0 1 (by decide) (by decide +kernel) rfl dX0_addPipe_12 ?_
  refine lv_aload_n hx hb dX0_addPipe_15 rfl (lv_at hl 0 rfl) ?_
  refine L_gL C0 hK h hB hin0 3 (by decide) (by decide +kernel) rfl dX0_addPipe_16 ?_
  refine X_aP C0 hK h hB (i := qp S) rfl (by omega) dX0_addPipe_19 ?_
  refine lv_astore (lv' := [(5, .ref (za z (1 + 27 * b + (13 + (qp S))))), (0, .ref (za z (1 + 27 * b))), (1, .int x), (2, .int y), (3, .int v), (4, .int u)]) hx hb dX0_addPipe_20 hl (by decide) rfl (fun ls hl => ?_)
  refine lv_aload hx hb dX0_addPipe_22 (lv_at hl 0 rfl) ?_
  refine lv_iconst (v := 0) hx hb dX0_addPipe_24 (by decide) ?_
  refine lv_iload_n hx hb dX0_addPipe_25 rfl (lv_at hl 2 rfl) ?_
  refine L_stP C0 hK h hB (by omega) (k := 0) rfl (by decide) dX0_addPipe_26 (fun H locs S1 eS1 h => ?_)
  refine lv_aload hx hb dX0_addPipe_27 (lv_at hl 0 rfl) ?_
  refine lv_iconst (v := 1) hx hb dX0_addPipe_29 (by decide) ?_
  refine lv_iload_n hx hb dX0_addPipe_30 rfl (lv_at hl 3 rfl) ?_
  refine L_stP C0 hK h hB (by omega) (k := 1) rfl (by decide) dX0_addPipe_31 (fun H locs S2 eS2 h => ?_)
  refine lv_aload hx hb dX0_addPipe_32 (lv_at hl 0 rfl) ?_
  refine lv_iconst (v := 2) hx hb dX0_addPipe_34 (by decide) ?_
  refine lv_iload_n hx hb dX0_addPipe_35 rfl (lv_at hl 4 rfl) ?_
  refine L_stP C0 hK h hB (by omega) (k := 2) rfl (by decide) dX0_addPipe_36 (fun H locs S3 eS3 h => ?_)
  refine lv_aload hx hb dX0_addPipe_37 (lv_at hl 0 rfl) ?_
  refine lv_iconst (v := 3) hx hb dX0_addPipe_39 (by decide) ?_
  refine lv_iload hx hb dX0_addPipe_40 (lv_at hl 5 rfl) ?_
  refine L_stP C0 hK h hB (by omega) (k := 3) rfl (by decide) dX0_addPipe_42 (fun H locs S4 eS4 h => ?_)
  refine lv_aload_n hx hb dX0_addPipe_43 rfl (lv_at hl 1 rfl) ?_
  refine lv_dup hx hb dX0_addPipe_44 rfl ?_
  refine L_gL C0 hK h hB hin0 3 (by decide) (by decide +kernel) rfl dX0_addPipe_45 ?_
  refine lv_iconst (v := 1) hx hb dX0_addPipe_48 (by decide) ?_
  refine lv_iadd hx hb dX0_addPipe_49 ?_
  refine L_pp C0 hK h hB hin0 (by decide +kernel) (n := (qp S4) + 1) (q_add rfl rfl) dX0_addPipe_50 (fun H locs S5 eS5 h => ?_)
  refine lv_aload_n hx hb dX0_addPipe_53 rfl (lv_at hl 1 rfl) ?_
  refine L_gL C0 hK h hB hin0 3 (by decide) (by decide +kernel) rfl dX0_addPipe_54 ?_
  refine lv_iconst (v := 1) hx hb dX0_addPipe_57 (by decide) ?_
  refine lv_isub hx hb dX0_addPipe_58 ?_
  exact G_iret C0 hK h ⟨by subst eS5 eS4 eS3 eS2 eS1; exact nI_pred _, congrArg (va_up σ b) (by subst eS5 eS4 eS3 eS2 eS1; simp only [qT_sT, sT_sT, qP_sP, sP_sP]; rfl)⟩ (Nat.le_of_ble_eq_true rfl) (Nat.le_of_ble_eq_true rfl) dX0_addPipe_59

set_option maxHeartbeats 4000000 in
set_option maxRecDepth 100000 in
theorem c_X0_addPipe_full (l : Launch) (z : QZ) (σ : Nat → QLs) (b : Nat) (hB : b < 2) (S : QLs) (hge : ¬ qp S < 14) (hle : qp S ≤ 14) (x y v u : Int32) : GI l yX0_addPipe wsX0_addPipe ({ frames := 0, cells := 0, slots := 0, locals := 0 } : Room) z [.ref (za z (1 + 27 * b)), .int x, .int y, .int v, .int u] 0 0 (XAt z) 0 55 (va_up σ b S) (fun r σ' => r = -1 ∧ σ' = va_up σ b S) := by
  intro ct sz hn hq hat
  refine q_entry (lo := 0) (cc := cX0_addPipe) (maxL := 6) (ret := (some .int)) (by decide) rfl (Nat.le_of_ble_eq_true rfl) hn hq hat ?_
  intro p e s m below meth c ls C0 hK hsz h hl
  subst hsz
  obtain ⟨hx, hb, hr, hml, hown, hts, hlocks⟩ := id C0
  have hin0 : ∀ w ∈ u_ws RX0 TX0 5, w ∈ wsX0_addPipe := by decide +kernel
  have hl : lv_has ls 6 [(0, .ref (za z (1 + 27 * b))), (1, .int x), (2, .int y), (3, .int v), (4, .int u)] := hl
  refine lv_aload_n hx hb dX0_addPipe_0 rfl (lv_at hl 0 rfl) ?_
  refine L_gL C0 hK h hB hin0 3 (by decide) (by decide +kernel) rfl dX0_addPipe_1 ?_
  refine lv_bipush (v := 14) hx hb dX0_addPipe_4 (by decide) ?_
  refine lv_icmp_lt (tgt := 11) hx hb dX0_addPipe_6 (by decide) (fun q9 => absurd q9 (show ¬ nI (qp S) < nI 14 from nI_nlt (by omega) (by omega))) (fun _ => ?_)
  refine lv_iconst (v := (-1)) hx hb dX0_addPipe_9 (by decide) ?_
  exact G_iret C0 hK h ⟨rfl, rfl⟩ (Nat.le_of_ble_eq_true rfl) (Nat.le_of_ble_eq_true rfl) dX0_addPipe_10
end
section
/-! PART 11: Land.copyFrom, the trial land (1) from the true one (0) -/
theorem arrV_same {cA : ClassId} {n : Nat} {f g : Nat → Value} (h : ∀ j, j < n → f j = g j) : arrV cA n f = arrV cA n g := by
  unfold arrV
  congr 1
  apply Array.ext
  · simp
  · intro j h1 h2
    simp at h1 ⊢
    exact h j h1
theorem wd_repl {D : va_G} {n k : Nat} {ad : Nat → Nat} {ct : Nat → va_E} {e e2 : va_E} {H : Heap} (hP : va_P D vwCl (wd n ad (va_up ct k e)) H) (he : ∀ a, va_at D vwCl (a, e) H → va_at D vwCl (a, e2) H) : va_P D vwCl (wd n ad (va_up ct k e2)) H := by
  intro j q hj
  obtain ⟨hn, rfl⟩ := wd_of hj
  have h0 := hP j _ (wd_get hn)
  by_cases e : j = k
  · subst e
    rw [va_up_self] at h0 ⊢
    exact he _ h0
  · rw [va_up_ne _ _ e] at h0 ⊢
    exact h0
theorem va_at_int {D : va_G} {a n : Nat} {cA : ClassId} {f g : Nat → Int32} {H : Heap} (h : ∀ j, j < n → f j = g j) (hP : va_at D vwCl (a, .inl (cA, n, .inl f)) H) : va_at D vwCl (a, .inl (cA, n, .inl g)) H := by
  have h2 : H[a]? = some (vp_cell cA (n, .inl f)) := hP
  show H[a]? = some (vp_cell cA (n, .inl g))
  rw [h2, vp_cell_i, vp_cell_i, arrV_same (fun j hj => by rw [h j hj])]
section QCP
variable {p : Program} {l : Launch} {e : Env} {R : Room} {s : State} {m : MethodId} {args : Array Value} {below : List Frame} {meth : Method} {c : Code} {H : Heap} {locs : List Loc} {cells slots : Nat} {Q : State → Prop}
variable {cc : ByteArray} {nL : Nat} {ret : Option FieldType} {own : String} {ws : List Cond} {pc : Nat} {ls : Array Slot} {rest : List Value} {z : QZ} {c0 : Nat → va_E} {σ : Nat → QLs} {b : Nat} {S : QLs} {M : QMs} {α : Type} {At : α → (Nat → va_E) → Prop} {lo hi : Nat} {a : α}
/-- arraycopy of the first n places of the int array k0 to those of k1 -/
theorem G_copy (C0 : Cx p s m args meth c cc nL ret own ws) (hK : QK z s) (hsz : ls.size = nL) (h : GW z At lo hi s.heap c0 a H locs) {k0 k1 n0 n1 sp dp n : Nat} {f g f2 : Nat → Int32} (hk0 : k0 < hi) (hk1 : lo ≤ k1 ∧ k1 < hi) (hc0 : ∀ ct, At a ct → ct k0 = .inl (zI z, n0, .inl f)) (hc1 : ∀ ct, At a ct → ct k1 = .inl (zI z, n1, .inl g)) {i0 i1 i2 : Int32} (e0 : i0 = nI sp) (e1 : i1 = nI dp) (e2 : i2 = nI n) (h0 : sp + n ≤ n0) (h1 : dp + n ≤ n1) (hb0 : n0 < 2147483648) (hb1 : n1 < 2147483648) (hf2 : ∀ j, j < n1 → va_cpy f g sp dp n j = f2 j) {a' : α} (hu : ∀ ct, At a ct → At a' (va_up ct k1 (.inl (zI z, n1, .inl f2))))
    {index : Nat} (hl : Cond.methodLink own index arraycopyName ∈ ws) (hn : Cond.native arraycopyName ∈ ws) (hs : Cond.static arraycopyName ∈ ws) (hi9 : Cond.initialized "java/lang/System" ∈ ws) (hr : 1 ≤ R.frames ∧ (rest.map fun v => v.category).sum + (nativeFrameWords "java/lang/System" "arraycopy" 5 + 11) ≤ R.locals) (hdg : decode cc pc = .ok (.invokestatic index, 3))
    (kk : ∀ (H1 : Heap) (locs1 : List Loc), GW z At lo hi s.heap c0 a' H1 locs1 → W p l e R s m args below meth c H1 locs1 cells slots Q (F0 m (pc + 3) ls rest)) : W p l e R s m args below meth c H locs cells slots Q (F0 m pc ls (.int i2 :: .int i1 :: .ref (za z k1) :: .int i0 :: .ref (za z k0) :: rest)) := by
  obtain ⟨ct, hP, hS, hA, hF, hn9, hq⟩ := h
  subst e0; subst e1; subst e2
  have t0 : (nI sp).toNatClampNeg = sp := nI_clamp (by omega)
  have t1 : (nI dp).toNatClampNeg = dp := nI_clamp (by omega)
  have t2 : (nI n).toNatClampNeg = n := nI_clamp (by omega)
  refine va_copyi C0.1 C0.2.1 (C0.2.2.2.1.trans hsz.symm) C0.2.2.2.2.1 (C0.2.2.2.2.2.1 _ hl) (C0.2.2.2.2.2.1 _ hn) (C0.2.2.2.2.2.1 _ hs) (C0.2.2.2.2.2.1 _ hi9) hK.1 hP (wd_DA hq) hS k0 k1 0 0 ((wd_get (Nat.lt_of_lt_of_le hk0 hn9)).trans (by rw [hc0 ct hA])) ((wd_get (Nat.lt_of_lt_of_le hk1.2 hn9)).trans (by rw [hc1 ct hA])) rfl rfl rfl (nI_pos (by omega)) (nI_pos (by omega)) (nI_pos (by omega)) (by rw [t0, t2]; exact h0) (by rw [t1, t2]; exact h1) (fun _ _ => rfl) hr.1 hr.2 hdg (fun H1 locs1 hP1 hD1 hS1 => kk H1 locs1 ⟨_, ?_, hS1, hu ct hA, hF.up hk1, hn9, hq⟩)
  rw [t0, t1, t2, wd_set] at hP1
  exact wd_repl hP1 (fun a ha => va_at_int hf2 ha)
theorem K_cpT (C0 : Cx p s m args meth c cc nL ret own ws) (hK : QK z s) (hsz : ls.size = nL) (h : GW z (XAt z) 0 55 s.heap c0 (va_up σ 1 S) H locs) {i : Nat} (hi : i < 10)
    {index : Nat} (hl : Cond.methodLink own index arraycopyName ∈ ws) (hn : Cond.native arraycopyName ∈ ws) (hs : Cond.static arraycopyName ∈ ws) (hi9 : Cond.initialized "java/lang/System" ∈ ws) (hr : 1 ≤ R.frames ∧ (rest.map fun v => v.category).sum + (nativeFrameWords "java/lang/System" "arraycopy" 5 + 11) ≤ R.locals) (hdg : decode cc pc = .ok (.invokestatic index, 3))
    (kk : ∀ (H1 : Heap) (locs1 : List Loc) (S1 : QLs), S1 = sT S i (qT (σ 0) i) → GW z (XAt z) 0 55 s.heap c0 (va_up σ 1 S1) H1 locs1 → W p l e R s m args below meth c H1 locs1 cells slots Q (F0 m (pc + 3) ls rest)) : W p l e R s m args below meth c H locs cells slots Q (F0 m pc ls (.int 8 :: .int 0 :: .ref (za z (1 + 27 * 1 + (3 + i))) :: .int 0 :: .ref (za z (1 + 27 * 0 + (3 + i))) :: rest)) := by
  refine G_copy C0 hK hsz h (k0 := 1 + 27 * 0 + (3 + i)) (k1 := 1 + 27 * 1 + (3 + i)) (n := 8) (sp := 0) (dp := 0) (by omega) (by omega) (fun ct hA => (hA.2 0 (by omega)).2.2.2.1 i hi) (fun ct hA => (hA.2 1 (by omega)).2.2.2.1 i hi) rfl rfl rfl (by omega) (by omega) (by omega) (by omega) (f2 := qT (σ 0) i) (fun j hj => ?_) (a' := va_up (va_up σ 1 S) 1 (sT ((va_up σ 1 S) 1) i (qT (σ 0) i))) (fun ct hA => hA.T (by omega) hi _) hl hn hs hi9 hr hdg (fun H1 locs1 h1 => kk H1 locs1 _ rfl ?_)
  · rw [pk_cpy_in (by omega) (by omega), va_up_ne _ _ (by omega)]
    congr 1
    omega
  · rw [va_up_self, bx_uu] at h1; exact h1
theorem K_cpP (C0 : Cx p s m args meth c cc nL ret own ws) (hK : QK z s) (hsz : ls.size = nL) (h : GW z (XAt z) 0 55 s.heap c0 (va_up σ 1 S) H locs) {i : Nat} (hi : i < 14)
    {index : Nat} (hl : Cond.methodLink own index arraycopyName ∈ ws) (hn : Cond.native arraycopyName ∈ ws) (hs : Cond.static arraycopyName ∈ ws) (hi9 : Cond.initialized "java/lang/System" ∈ ws) (hr : 1 ≤ R.frames ∧ (rest.map fun v => v.category).sum + (nativeFrameWords "java/lang/System" "arraycopy" 5 + 11) ≤ R.locals) (hdg : decode cc pc = .ok (.invokestatic index, 3))
    (kk : ∀ (H1 : Heap) (locs1 : List Loc) (S1 : QLs), S1 = sP S i (qP (σ 0) i) → GW z (XAt z) 0 55 s.heap c0 (va_up σ 1 S1) H1 locs1 → W p l e R s m args below meth c H1 locs1 cells slots Q (F0 m (pc + 3) ls rest)) : W p l e R s m args below meth c H locs cells slots Q (F0 m pc ls (.int 10 :: .int 0 :: .ref (za z (1 + 27 * 1 + (13 + i))) :: .int 0 :: .ref (za z (1 + 27 * 0 + (13 + i))) :: rest)) := by
  refine G_copy C0 hK hsz h (k0 := 1 + 27 * 0 + (13 + i)) (k1 := 1 + 27 * 1 + (13 + i)) (n := 10) (sp := 0) (dp := 0) (by omega) (by omega) (fun ct hA => (hA.2 0 (by omega)).2.2.2.2 i hi) (fun ct hA => (hA.2 1 (by omega)).2.2.2.2 i hi) rfl rfl rfl (by omega) (by omega) (by omega) (by omega) (f2 := qP (σ 0) i) (fun j hj => ?_) (a' := va_up (va_up σ 1 S) 1 (sP ((va_up σ 1 S) 1) i (qP (σ 0) i))) (fun ct hA => hA.P (by omega) hi _) hl hn hs hi9 hr hdg (fun H1 locs1 h1 => kk H1 locs1 _ rfl ?_)
  · rw [pk_cpy_in (by omega) (by omega), va_up_ne _ _ (by omega)]
    congr 1
    omega
  · rw [va_up_self, bx_uu] at h1; exact h1
/-- a field of the other land -/
theorem K_gO (C0 : Cx p s m args meth c cc nL ret own ws) (hK : QK z s) (h : GW z (XAt z) 0 55 s.heap c0 (va_up σ 1 S) H locs) (hin : ∀ w ∈ u_ws RX0 TX0 5, w ∈ ws) (j : Nat) (hj : j < 5) {index : Nat} (hlink : Cond.fieldLink own index (TX0 j).1 (TX0 j).2.1 (TX0 j).2.2.1 ∈ ws) {v : Value} (hv : [Value.ref (za z (1 + 27 * 0 + 1)), .ref (za z (1 + 27 * 0 + 2)), .int (nI (qt (σ 0))), .int (nI (qp (σ 0))), .int (qD (σ 0))][j]? = some v) (hdg : decode cc pc = .ok (.getfield index, 3))
    (kk : W p l e R s m args below meth c H locs cells slots Q (F0 m (pc + 3) ls (v :: rest))) : W p l e R s m args below meth c H locs cells slots Q (F0 m pc ls (.ref (za z (1 + 27 * 0)) :: rest)) :=
  X_gL C0 hK h (b := 0) (by omega) hin j hj hlink (by rw [va_up_ne _ _ (by omega)]; exact hv) hdg kk
end QCP
abbrev cpTF (S0 : QLs) : Nat → QLs → QLs := fun i X => sT X i (qT S0 i)
abbrev cpPF (S0 : QLs) : Nat → QLs → QLs := fun i X => sP X i (qP S0 i)
def copyL (S0 S1 : QLs) : QLs := itN (cpPF S0) (qp S0) (itN (cpTF S0) (qt S0) (sp_ (st_ (sD S1 (qD S0)) (qt S0)) (qp S0)))
theorem cpT_t (S0 X : QLs) : ∀ n, qt (itN (cpTF S0) n X) = qt X ∧ qp (itN (cpTF S0) n X) = qp X
  | 0 => ⟨rfl, rfl⟩
  | n + 1 => cpT_t S0 X n
theorem cpP_t (S0 X : QLs) : ∀ n, qt (itN (cpPF S0) n X) = qt X ∧ qp (itN (cpPF S0) n X) = qp X
  | 0 => ⟨rfl, rfl⟩
  | n + 1 => cpP_t S0 X n
end
section
set_option maxHeartbeats 4000000 in
set_option maxRecDepth 100000 in
theorem c_X0_copyFrom (l : Launch) (z : QZ) (σ : Nat → QLs) (S : QLs) (hc1 : qt (σ 0) ≤ 10) (hc2 : qp (σ 0) ≤ 14) : GV l yX0_copyFrom wsX0_copyFrom ({ frames := 1, cells := 0, slots := 0, locals := 60 } : Room) z [.ref (za z (1 + 27 * 1)), .ref (za z (1 + 27 * 0))] 0 0 (XAt z) 0 55 (va_up σ 1 S) (fun σ' => σ' = va_up σ 1 (copyL (σ 0) S)) := by
  intro ct sz hn hq hat
  refine q_entry (lo := 0) (cc := cX0_copyFrom) (maxL := 3) (ret := none) (by decide) rfl (Nat.le_of_ble_eq_true rfl) hn hq hat ?_
  intro p e s m below meth c ls C0 hK hsz h hl
  subst hsz
  obtain ⟨hx, hb, hr, hml, hown, hts, hlocks⟩ := id C0
  have hB : 1 < 2 := by decide
  have hin0 : ∀ w ∈ u_ws RX0 TX0 5, w ∈ wsX0_copyFrom := by decide +kernel
  have hl : lv_has ls 3 [(0, .ref (za z (1 + 27 * 1))), (1, .ref (za z (1 + 27 * 0)))] := hl
  have L61 : ∀ (Sb : QLs) (hb2 : qp Sb = qp (σ 0)) (hq9 : itN (cpPF (σ 0)) (qp (σ 0)) Sb = copyL (σ 0) S) (d i : Nat), i + d = qp (σ 0) → ∀ (H : Heap) (locs : List Loc) (ls : Array Slot), GW z (XAt z) 0 55 s.heap ct (va_up σ 1 (itN (cpPF (σ 0)) i Sb)) H locs → lv_has ls 3 [(2, .int (nI i)), (0, .ref (za z (1 + 27 * 1))), (1, .ref (za z (1 + 27 * 0)))] → W p l e ({ frames := 1, cells := 0, slots := 0, locals := 60 } : Room) s m [.ref (za z (1 + 27 * 1)), .ref (za z (1 + 27 * 0))].toArray below meth c H locs 0 0 (EV z (XAt z) 0 55 ct s below [.ref (za z (1 + 27 * 1)), .ref (za z (1 + 27 * 0))] 0 0 (fun σ' => σ' = va_up σ 1 (copyL (σ 0) S))) (F0 m 61 ls []) := by
    intro Sb hb2 hq9 d
    induction d with
    | zero =>
      intro i hdi H locs ls h hl
      have hEi : i = qp (σ 0) := by omega
      obtain ⟨S1, eS1⟩ : ∃ z9, z9 = itN (cpPF (σ 0)) i Sb := ⟨_, rfl⟩
      rw [← eS1] at h
      have hs9 := cpP_t (σ 0) Sb i
      rw [← eS1] at hs9
      have hs1 := hs9.1
      have hs2 := hs9.2
      refine lv_iload_n hx hb dX0_copyFrom_61 rfl (lv_at hl 0 rfl) ?_
      refine lv_aload_n hx hb dX0_copyFrom_62 rfl (lv_at hl 1 rfl) ?_
      refine L_gL C0 hK h hB hin0 3 (by decide) (by decide +kernel) rfl dX0_copyFrom_63 ?_
      refine lv_icmp_ge (tgt := 94) hx hb dX0_copyFrom_66 (by decide) (fun _ => ?_) (fun q9 => absurd (nI_le (by omega) (by omega)) q9)
      exact G_vret C0 hK h (congrArg (va_up σ 1) (by rw [← hq9, eS1, hEi])) (Nat.le_of_ble_eq_true rfl) (Nat.le_of_ble_eq_true rfl) dX0_copyFrom_94
    | succ d ihL61 =>
      intro i hdi H locs ls h hl
      have hEi : i < qp (σ 0) := by omega
      obtain ⟨S2, eS2⟩ : ∃ z9, z9 = itN (cpPF (σ 0)) i Sb := ⟨_, rfl⟩
      rw [← eS2] at h
      have hs9 := cpP_t (σ 0) Sb i
      rw [← eS2] at hs9
      have hs1 := hs9.1
      have hs2 := hs9.2
      refine lv_iload_n hx hb dX0_copyFrom_61 rfl (lv_at hl 0 rfl) ?_
      refine lv_aload_n hx hb dX0_copyFrom_62 rfl (lv_at hl 1 rfl) ?_
      refine L_gL C0 hK h hB hin0 3 (by decide) (by decide +kernel) rfl dX0_copyFrom_63 ?_
      refine lv_icmp_ge (tgt := 94) hx hb dX0_copyFrom_66 (by decide) (fun q9 => absurd q9 (nI_ge (by omega) (by omega))) (fun _ => ?_)
      refine lv_aload_n hx hb dX0_copyFrom_69 rfl (lv_at hl 2 rfl) ?_
      refine K_gO C0 hK h hin0 1 (by decide) (by decide +kernel) rfl dX0_copyFrom_70 ?_
      refine lv_iload_n hx hb dX0_copyFrom_73 rfl (lv_at hl 0 rfl) ?_
      refine X_aP C0 hK h (b := 0) (by omega) (i := i) rfl (by omega) dX0_copyFrom_74 ?_
      refine lv_iconst (v := 0) hx hb dX0_copyFrom_75 (by decide) ?_
      refine lv_aload_n hx hb dX0_copyFrom_76 rfl (lv_at hl 1 rfl) ?_
      refine L_gL C0 hK h hB hin0 1 (by decide) (by decide +kernel) rfl dX0_copyFrom_77 ?_
      refine lv_iload_n hx hb dX0_copyFrom_80 rfl (lv_at hl 0 rfl) ?_
      refine X_aP C0 hK h (b := 1) (by omega) (i := i) rfl (by omega) dX0_copyFrom_81 ?_
      refine lv_iconst (v := 0) hx hb dX0_copyFrom_82 (by decide) ?_
      refine lv_bipush (v := 10) hx hb dX0_copyFrom_83 (by decide) ?_
      refine K_cpP C0 hK hl.1 h (by omega) (by decide +kernel) (by decide +kernel) (by decide +kernel) (by decide +kernel) (by decide) dX0_copyFrom_85 (fun H locs S3 eS3 h => ?_)
      refine lv_iinc (v := nI (i + 1)) (lv' := [(2, .int (nI (i + 1))), (0, .ref (za z (1 + 27 * 1))), (1, .ref (za z (1 + 27 * 0)))]) hx hb dX0_copyFrom_88 hl (k := 0) rfl (q_inc i 1) (by decide) rfl (fun ls hl => ?_)
      refine lv_goto (tgt := 61) hx hb dX0_copyFrom_91 (by decide) ?_
      exact ihL61 (i + 1) (by omega) _ _ _ (by subst eS3; rw [eS2] at h; exact h) (lv_sub hl [0, 1, 2] rfl)
  have L26 : ∀ (Sb : QLs) (hb1 : qt Sb = qt (σ 0)) (hb2 : qp Sb = qp (σ 0)) (hq9 : itN (cpPF (σ 0)) (qp (σ 0)) (itN (cpTF (σ 0)) (qt (σ 0)) Sb) = copyL (σ 0) S) (d i : Nat), i + d = qt (σ 0) → ∀ (H : Heap) (locs : List Loc) (ls : Array Slot), GW z (XAt z) 0 55 s.heap ct (va_up σ 1 (itN (cpTF (σ 0)) i Sb)) H locs → lv_has ls 3 [(2, .int (nI i)), (0, .ref (za z (1 + 27 * 1))), (1, .ref (za z (1 + 27 * 0)))] → W p l e ({ frames := 1, cells := 0, slots := 0, locals := 60 } : Room) s m [.ref (za z (1 + 27 * 1)), .ref (za z (1 + 27 * 0))].toArray below meth c H locs 0 0 (EV z (XAt z) 0 55 ct s below [.ref (za z (1 + 27 * 1)), .ref (za z (1 + 27 * 0))] 0 0 (fun σ' => σ' = va_up σ 1 (copyL (σ 0) S))) (F0 m 26 ls []) := by
    intro Sb hb1 hb2 hq9 d
    induction d with
    | zero =>
      intro i hdi H locs ls h hl
      have hEi : i = qt (σ 0) := by omega
      obtain ⟨S4, eS4⟩ : ∃ z9, z9 = itN (cpTF (σ 0)) i Sb := ⟨_, rfl⟩
      rw [← eS4] at h
      have hs9 := cpT_t (σ 0) Sb i
      rw [← eS4] at hs9
      have hs1 := hs9.1
      have hs2 := hs9.2
      refine lv_iload_n hx hb dX0_copyFrom_26 rfl (lv_at hl 0 rfl) ?_
      refine lv_aload_n hx hb dX0_copyFrom_27 rfl (lv_at hl 1 rfl) ?_
      refine L_gL C0 hK h hB hin0 2 (by decide) (by decide +kernel) rfl dX0_copyFrom_28 ?_
      refine lv_icmp_ge (tgt := 59) hx hb dX0_copyFrom_31 (by decide) (fun _ => ?_) (fun q9 => absurd (nI_le (by omega) (by omega)) q9)
      refine lv_iconst (v := 0) hx hb dX0_copyFrom_59 (by decide) ?_
      refine lv_istore_n (lv' := [(2, .int 0), (0, .ref (za z (1 + 27 * 1))), (1, .ref (za z (1 + 27 * 0)))]) hx hb dX0_copyFrom_60 rfl hl (by decide) rfl (fun ls hl => ?_)
      exact L61 S4 (by omega) (by rw [eS4, hEi]; exact hq9) (qp (σ 0)) 0 (by omega) _ _ _ h (lv_sub hl [0, 1, 2] rfl)
    | succ d ihL26 =>
      intro i hdi H locs ls h hl
      have hEi : i < qt (σ 0) := by omega
      obtain ⟨S5, eS5⟩ : ∃ z9, z9 = itN (cpTF (σ 0)) i Sb := ⟨_, rfl⟩
      rw [← eS5] at h
      have hs9 := cpT_t (σ 0) Sb i
      rw [← eS5] at hs9
      have hs1 := hs9.1
      have hs2 := hs9.2
      refine lv_iload_n hx hb dX0_copyFrom_26 rfl (lv_at hl 0 rfl) ?_
      refine lv_aload_n hx hb dX0_copyFrom_27 rfl (lv_at hl 1 rfl) ?_
      refine L_gL C0 hK h hB hin0 2 (by decide) (by decide +kernel) rfl dX0_copyFrom_28 ?_
      refine lv_icmp_ge (tgt := 59) hx hb dX0_copyFrom_31 (by decide) (fun q9 => absurd q9 (nI_ge (by omega) (by omega))) (fun _ => ?_)
      refine lv_aload_n hx hb dX0_copyFrom_34 rfl (lv_at hl 2 rfl) ?_
      refine K_gO C0 hK h hin0 0 (by decide) (by decide +kernel) rfl dX0_copyFrom_35 ?_
      refine lv_iload_n hx hb dX0_copyFrom_38 rfl (lv_at hl 0 rfl) ?_
      refine X_aT C0 hK h (b := 0) (by omega) (i := i) rfl (by omega) dX0_copyFrom_39 ?_
      refine lv_iconst (v := 0) hx hb dX0_copyFrom_40 (by decide) ?_
      refine lv_aload_n hx hb dX0_copyFrom_41 rfl (lv_at hl 1 rfl) ?_
      refine L_gL C0 hK h hB hin0 0 (by decide) (by decide +kernel) rfl dX0_copyFrom_42 ?_
      refine lv_iload_n hx hb dX0_copyFrom_45 rfl (lv_at hl 0 rfl) ?_
      refine X_aT C0 hK h (b := 1) (by omega) (i := i) rfl (by omega) dX0_copyFrom_46 ?_
      refine lv_iconst (v := 0) hx hb dX0_copyFrom_47 (by decide) ?_
      refine lv_bipush (v := 8) hx hb dX0_copyFrom_48 (by decide) ?_
      refine K_cpT C0 hK hl.1 h (by omega) (by decide +kernel) (by decide +kernel) (by decide +kernel) (by decide +kernel) (by decide) dX0_copyFrom_50 (fun H locs S6 eS6 h => ?_)
      refine lv_iinc (v := nI (i + 1)) (lv' := [(2, .int (nI (i + 1))), (0, .ref (za z (1 + 27 * 1))), (1, .ref (za z (1 + 27 * 0)))]) hx hb dX0_copyFrom_53 hl (k := 0) rfl (q_inc i 1) (by decide) rfl (fun ls hl => ?_)
      refine lv_goto (tgt := 26) hx hb dX0_copyFrom_56 (by decide) ?_
      exact ihL26 (i + 1) (by omega) _ _ _ (by subst eS6; rw [eS5] at h; exact h) (lv_sub hl [0, 1, 2] rfl)
  refine lv_aload_n hx hb dX0_copyFrom_0 rfl (lv_at hl 0 rfl) ?_
  refine lv_aload_n hx hb dX0_copyFrom_1 rfl (lv_at hl 1 rfl) ?_
  refine K_gO C0 hK h hin0 4 (by decide) (by decide +kernel) rfl dX0_copyFrom_2 ?_
  refine L_pd C0 hK h hB hin0 (by decide +kernel) dX0_copyFrom_5 (fun H locs S7 eS7 h => ?_)
  refine lv_aload_n hx hb dX0_copyFrom_8 rfl (lv_at hl 0 rfl) ?_
  refine lv_aload_n hx hb dX0_copyFrom_9 rfl (lv_at hl 1 rfl) ?_
  refine K_gO C0 hK h hin0 2 (by decide) (by decide +kernel) rfl dX0_copyFrom_10 ?_
  refine L_pt C0 hK h hB hin0 (by decide +kernel) (n := qt (σ 0)) rfl dX0_copyFrom_13 (fun H locs S8 eS8 h => ?_)
  refine lv_aload_n hx hb dX0_copyFrom_16 rfl (lv_at hl 0 rfl) ?_
  refine lv_aload_n hx hb dX0_copyFrom_17 rfl (lv_at hl 1 rfl) ?_
  refine K_gO C0 hK h hin0 3 (by decide) (by decide +kernel) rfl dX0_copyFrom_18 ?_
  refine L_pp C0 hK h hB hin0 (by decide +kernel) (n := qp (σ 0)) rfl dX0_copyFrom_21 (fun H locs S9 eS9 h => ?_)
  refine lv_iconst (v := 0) hx hb dX0_copyFrom_24 (by decide) ?_
  refine lv_istore_n (lv' := [(2, .int 0), (0, .ref (za z (1 + 27 * 1))), (1, .ref (za z (1 + 27 * 0)))]) hx hb dX0_copyFrom_25 rfl hl (by decide) rfl (fun ls hl => ?_)
  exact L26 S9 (by subst eS9 eS8 eS7; rfl) (by subst eS9 eS8 eS7; rfl) (by subst eS9 eS8 eS7; rfl) (qt (σ 0)) 0 (by omega) _ _ _ h (lv_sub hl [0, 1, 2] rfl)
end
section
theorem dX2_init_0 : decode cX2_init 0 = .ok (.aload_n 0, 1) := by decide +kernel
theorem dX2_init_1 : decode cX2_init 1 = .ok (.invokespecial 1, 3) := by decide +kernel
theorem dX2_init_4 : decode cX2_init 4 = .ok (.aload_n 0, 1) := by decide +kernel
theorem dX2_init_5 : decode cX2_init 5 = .ok (.bipush 80, 2) := by decide +kernel
theorem dX2_init_7 : decode cX2_init 7 = .ok (.newarray .int, 2) := by decide +kernel
theorem dX2_init_9 : decode cX2_init 9 = .ok (.putfield 9, 3) := by decide +kernel
theorem dX2_init_12 : decode cX2_init 12 = .ok (.aload_n 0, 1) := by decide +kernel
theorem dX2_init_13 : decode cX2_init 13 = .ok (.bipush 126, 2) := by decide +kernel
theorem dX2_init_15 : decode cX2_init 15 = .ok (.newarray .int, 2) := by decide +kernel
theorem dX2_init_17 : decode cX2_init 17 = .ok (.putfield 13, 3) := by decide +kernel
theorem dX2_init_20 : decode cX2_init 20 = .ok (.aload_n 0, 1) := by decide +kernel
theorem dX2_init_21 : decode cX2_init 21 = .ok (.iconst 1, 1) := by decide +kernel
theorem dX2_init_22 : decode cX2_init 22 = .ok (.newarray .int, 2) := by decide +kernel
theorem dX2_init_24 : decode cX2_init 24 = .ok (.dup, 1) := by decide +kernel
theorem dX2_init_25 : decode cX2_init 25 = .ok (.iconst 0, 1) := by decide +kernel
theorem dX2_init_26 : decode cX2_init 26 = .ok (.iconst 0, 1) := by decide +kernel
theorem dX2_init_27 : decode cX2_init 27 = .ok (.iastore, 1) := by decide +kernel
theorem dX2_init_28 : decode cX2_init 28 = .ok (.putfield 16, 3) := by decide +kernel
theorem dX2_init_31 : decode cX2_init 31 = .ok (.return_, 1) := by decide +kernel
theorem dX2_thrown_0 : decode cX2_thrown 0 = .ok (.aload_n 0, 1) := by decide +kernel
theorem dX2_thrown_1 : decode cX2_thrown 1 = .ok (.getfield 19, 3) := by decide +kernel
theorem dX2_thrown_4 : decode cX2_thrown 4 = .ok (.ireturn, 1) := by decide +kernel
theorem dX2_fail_0 : decode cX2_fail 0 = .ok (.aload_n 0, 1) := by decide +kernel
theorem dX2_fail_1 : decode cX2_fail 1 = .ok (.iload_n 1, 1) := by decide +kernel
theorem dX2_fail_2 : decode cX2_fail 2 = .ok (.putfield 19, 3) := by decide +kernel
theorem dX2_fail_5 : decode cX2_fail 5 = .ok (.iconst 0, 1) := by decide +kernel
theorem dX2_fail_6 : decode cX2_fail 6 = .ok (.ireturn, 1) := by decide +kernel
theorem dX2_isIn_0 : decode cX2_isIn 0 = .ok (.iload_n 0, 1) := by decide +kernel
theorem dX2_isIn_1 : decode cX2_isIn 1 = .ok (.iload_n 1, 1) := by decide +kernel
theorem dX2_isIn_2 : decode cX2_isIn 2 = .ok (.if_icmp .lt 12, 3) := by decide +kernel
theorem dX2_isIn_5 : decode cX2_isIn 5 = .ok (.iload_n 0, 1) := by decide +kernel
theorem dX2_isIn_6 : decode cX2_isIn 6 = .ok (.iload_n 2, 1) := by decide +kernel
theorem dX2_isIn_7 : decode cX2_isIn 7 = .ok (.if_icmp .gt 7, 3) := by decide +kernel
theorem dX2_isIn_10 : decode cX2_isIn 10 = .ok (.iconst 1, 1) := by decide +kernel
theorem dX2_isIn_11 : decode cX2_isIn 11 = .ok (.goto 4, 3) := by decide +kernel
theorem dX2_isIn_14 : decode cX2_isIn 14 = .ok (.iconst 0, 1) := by decide +kernel
theorem dX2_isIn_15 : decode cX2_isIn 15 = .ok (.ireturn, 1) := by decide +kernel
set_option maxRecDepth 20000 in
theorem ggX2_isTank_X2_isIn : GoodIn wsX2_isTank wsX2_isIn := goodIn_r _ [5] (by decide +kernel) (by decide +kernel)
set_option maxRecDepth 20000 in
theorem gX2_isTank_X2_isIn : GoodIn wsX2_isTank (va_wsS RX2 26 yX2_isIn wsX2_isIn) := goodIn_app (goodIn_of _ (by decide +kernel)) ggX2_isTank_X2_isIn
theorem dX2_isTank_0 : decode cX2_isTank 0 = .ok (.iload_n 1, 1) := by decide +kernel
theorem dX2_isTank_1 : decode cX2_isTank 1 = .ok (.iconst 0, 1) := by decide +kernel
theorem dX2_isTank_2 : decode cX2_isTank 2 = .ok (.aload_n 0, 1) := by decide +kernel
theorem dX2_isTank_3 : decode cX2_isTank 3 = .ok (.getfield 23, 3) := by decide +kernel
theorem dX2_isTank_6 : decode cX2_isTank 6 = .ok (.iconst 1, 1) := by decide +kernel
theorem dX2_isTank_7 : decode cX2_isTank 7 = .ok (.isub, 1) := by decide +kernel
theorem dX2_isTank_8 : decode cX2_isTank 8 = .ok (.invokestatic 26, 3) := by decide +kernel
theorem dX2_isTank_11 : decode cX2_isTank 11 = .ok (.ireturn, 1) := by decide +kernel
set_option maxRecDepth 20000 in
theorem ggX2_isPipe_X2_isIn : GoodIn wsX2_isPipe wsX2_isIn := goodIn_r _ [5] (by decide +kernel) (by decide +kernel)
set_option maxRecDepth 20000 in
theorem gX2_isPipe_X2_isIn : GoodIn wsX2_isPipe (va_wsS RX2 26 yX2_isIn wsX2_isIn) := goodIn_app (goodIn_of _ (by decide +kernel)) ggX2_isPipe_X2_isIn
theorem dX2_isPipe_0 : decode cX2_isPipe 0 = .ok (.iload_n 1, 1) := by decide +kernel
theorem dX2_isPipe_1 : decode cX2_isPipe 1 = .ok (.iconst 0, 1) := by decide +kernel
theorem dX2_isPipe_2 : decode cX2_isPipe 2 = .ok (.aload_n 0, 1) := by decide +kernel
theorem dX2_isPipe_3 : decode cX2_isPipe 3 = .ok (.getfield 30, 3) := by decide +kernel
theorem dX2_isPipe_6 : decode cX2_isPipe 6 = .ok (.iconst 1, 1) := by decide +kernel
theorem dX2_isPipe_7 : decode cX2_isPipe 7 = .ok (.isub, 1) := by decide +kernel
theorem dX2_isPipe_8 : decode cX2_isPipe 8 = .ok (.invokestatic 26, 3) := by decide +kernel
theorem dX2_isPipe_11 : decode cX2_isPipe 11 = .ok (.ireturn, 1) := by decide +kernel
theorem dX2_la_0 : decode cX2_la 0 = .ok (.aload_n 0, 1) := by decide +kernel
theorem dX2_la_1 : decode cX2_la 1 = .ok (.getfield 9, 3) := by decide +kernel
theorem dX2_la_4 : decode cX2_la 4 = .ok (.bipush 8, 2) := by decide +kernel
theorem dX2_la_6 : decode cX2_la 6 = .ok (.iload_n 1, 1) := by decide +kernel
theorem dX2_la_7 : decode cX2_la 7 = .ok (.imul, 1) := by decide +kernel
theorem dX2_la_8 : decode cX2_la 8 = .ok (.iload_n 2, 1) := by decide +kernel
theorem dX2_la_9 : decode cX2_la 9 = .ok (.iadd, 1) := by decide +kernel
theorem dX2_la_10 : decode cX2_la 10 = .ok (.iaload, 1) := by decide +kernel
theorem dX2_la_11 : decode cX2_la 11 = .ok (.ireturn, 1) := by decide +kernel
theorem dX2_setTank_0 : decode cX2_setTank 0 = .ok (.aload_n 0, 1) := by decide +kernel
theorem dX2_setTank_1 : decode cX2_setTank 1 = .ok (.getfield 9, 3) := by decide +kernel
theorem dX2_setTank_4 : decode cX2_setTank 4 = .ok (.bipush 8, 2) := by decide +kernel
theorem dX2_setTank_6 : decode cX2_setTank 6 = .ok (.iload_n 1, 1) := by decide +kernel
theorem dX2_setTank_7 : decode cX2_setTank 7 = .ok (.imul, 1) := by decide +kernel
theorem dX2_setTank_8 : decode cX2_setTank 8 = .ok (.iload_n 2, 1) := by decide +kernel
theorem dX2_setTank_9 : decode cX2_setTank 9 = .ok (.iadd, 1) := by decide +kernel
theorem dX2_setTank_10 : decode cX2_setTank 10 = .ok (.iload_n 3, 1) := by decide +kernel
theorem dX2_setTank_11 : decode cX2_setTank 11 = .ok (.iastore, 1) := by decide +kernel
theorem dX2_setTank_12 : decode cX2_setTank 12 = .ok (.return_, 1) := by decide +kernel
theorem dX2_li_0 : decode cX2_li 0 = .ok (.aload_n 0, 1) := by decide +kernel
theorem dX2_li_1 : decode cX2_li 1 = .ok (.getfield 13, 3) := by decide +kernel
theorem dX2_li_4 : decode cX2_li 4 = .ok (.bipush 9, 2) := by decide +kernel
theorem dX2_li_6 : decode cX2_li 6 = .ok (.iload_n 1, 1) := by decide +kernel
theorem dX2_li_7 : decode cX2_li 7 = .ok (.imul, 1) := by decide +kernel
theorem dX2_li_8 : decode cX2_li 8 = .ok (.iload_n 2, 1) := by decide +kernel
theorem dX2_li_9 : decode cX2_li 9 = .ok (.iadd, 1) := by decide +kernel
theorem dX2_li_10 : decode cX2_li 10 = .ok (.iaload, 1) := by decide +kernel
theorem dX2_li_11 : decode cX2_li 11 = .ok (.ireturn, 1) := by decide +kernel
theorem dX2_setPipe_0 : decode cX2_setPipe 0 = .ok (.aload_n 0, 1) := by decide +kernel
theorem dX2_setPipe_1 : decode cX2_setPipe 1 = .ok (.getfield 13, 3) := by decide +kernel
theorem dX2_setPipe_4 : decode cX2_setPipe 4 = .ok (.bipush 9, 2) := by decide +kernel
theorem dX2_setPipe_6 : decode cX2_setPipe 6 = .ok (.iload_n 1, 1) := by decide +kernel
theorem dX2_setPipe_7 : decode cX2_setPipe 7 = .ok (.imul, 1) := by decide +kernel
theorem dX2_setPipe_8 : decode cX2_setPipe 8 = .ok (.iload_n 2, 1) := by decide +kernel
theorem dX2_setPipe_9 : decode cX2_setPipe 9 = .ok (.iadd, 1) := by decide +kernel
theorem dX2_setPipe_10 : decode cX2_setPipe 10 = .ok (.iload_n 3, 1) := by decide +kernel
theorem dX2_setPipe_11 : decode cX2_setPipe 11 = .ok (.iastore, 1) := by decide +kernel
theorem dX2_setPipe_12 : decode cX2_setPipe 12 = .ok (.return_, 1) := by decide +kernel
set_option maxRecDepth 20000 in
theorem ggX2_build_X2_isIn : GoodIn wsX2_build wsX2_isIn := goodIn_r _ [12] (by decide +kernel) (by decide +kernel)
set_option maxRecDepth 20000 in
theorem gX2_build_X2_isIn : GoodIn wsX2_build (va_wsS RX2 26 yX2_isIn wsX2_isIn) := goodIn_app (goodIn_of _ (by decide +kernel)) ggX2_build_X2_isIn
set_option maxRecDepth 20000 in
theorem ggX2_build_X2_fail : GoodIn wsX2_build wsX2_fail := goodIn_r _ [16, 1, 17, 18, 19, 20, 21, 22] (by decide +kernel) (by decide +kernel)
set_option maxRecDepth 20000 in
theorem gX2_build_X2_fail : GoodIn wsX2_build (wsV RX2 33 RX2 yX2_fail wsX2_fail) := goodIn_app (goodIn_of _ (by decide +kernel)) ggX2_build_X2_fail
theorem dX2_build_0 : decode cX2_build 0 = .ok (.aload_n 0, 1) := by decide +kernel
theorem dX2_build_1 : decode cX2_build 1 = .ok (.iconst 0, 1) := by decide +kernel
theorem dX2_build_2 : decode cX2_build 2 = .ok (.putfield 19, 3) := by decide +kernel
theorem dX2_build_5 : decode cX2_build 5 = .ok (.iload_n 1, 1) := by decide +kernel
theorem dX2_build_6 : decode cX2_build 6 = .ok (.iconst 0, 1) := by decide +kernel
theorem dX2_build_7 : decode cX2_build 7 = .ok (.bipush 99, 2) := by decide +kernel
theorem dX2_build_9 : decode cX2_build 9 = .ok (.invokestatic 26, 3) := by decide +kernel
theorem dX2_build_12 : decode cX2_build 12 = .ok (.ifCond .eq 23, 3) := by decide +kernel
theorem dX2_build_15 : decode cX2_build 15 = .ok (.iload_n 2, 1) := by decide +kernel
theorem dX2_build_16 : decode cX2_build 16 = .ok (.iconst 0, 1) := by decide +kernel
theorem dX2_build_17 : decode cX2_build 17 = .ok (.bipush 20, 2) := by decide +kernel
theorem dX2_build_19 : decode cX2_build 19 = .ok (.invokestatic 26, 3) := by decide +kernel
theorem dX2_build_22 : decode cX2_build 22 = .ok (.ifCond .eq 13, 3) := by decide +kernel
theorem dX2_build_25 : decode cX2_build 25 = .ok (.iload_n 3, 1) := by decide +kernel
theorem dX2_build_26 : decode cX2_build 26 = .ok (.iconst 0, 1) := by decide +kernel
theorem dX2_build_27 : decode cX2_build 27 = .ok (.bipush 20, 2) := by decide +kernel
theorem dX2_build_29 : decode cX2_build 29 = .ok (.invokestatic 26, 3) := by decide +kernel
theorem dX2_build_32 : decode cX2_build 32 = .ok (.ifCond .ne 9, 3) := by decide +kernel
theorem dX2_build_35 : decode cX2_build 35 = .ok (.aload_n 0, 1) := by decide +kernel
theorem dX2_build_36 : decode cX2_build 36 = .ok (.iconst 1, 1) := by decide +kernel
theorem dX2_build_37 : decode cX2_build 37 = .ok (.invokevirtual 33, 3) := by decide +kernel
theorem dX2_build_40 : decode cX2_build 40 = .ok (.ireturn, 1) := by decide +kernel
theorem dX2_build_41 : decode cX2_build 41 = .ok (.aload_n 0, 1) := by decide +kernel
theorem dX2_build_42 : decode cX2_build 42 = .ok (.getfield 23, 3) := by decide +kernel
theorem dX2_build_45 : decode cX2_build 45 = .ok (.bipush 10, 2) := by decide +kernel
theorem dX2_build_47 : decode cX2_build 47 = .ok (.if_icmp .ne 9, 3) := by decide +kernel
theorem dX2_build_50 : decode cX2_build 50 = .ok (.aload_n 0, 1) := by decide +kernel
theorem dX2_build_51 : decode cX2_build 51 = .ok (.iconst 2, 1) := by decide +kernel
theorem dX2_build_52 : decode cX2_build 52 = .ok (.invokevirtual 33, 3) := by decide +kernel
theorem dX2_build_55 : decode cX2_build 55 = .ok (.ireturn, 1) := by decide +kernel
theorem dX2_build_56 : decode cX2_build 56 = .ok (.bipush 8, 2) := by decide +kernel
theorem dX2_build_58 : decode cX2_build 58 = .ok (.newarray .int, 2) := by decide +kernel
theorem dX2_build_60 : decode cX2_build 60 = .ok (.dup, 1) := by decide +kernel
theorem dX2_build_61 : decode cX2_build 61 = .ok (.iconst 0, 1) := by decide +kernel
theorem dX2_build_62 : decode cX2_build 62 = .ok (.iload_n 1, 1) := by decide +kernel
theorem dX2_build_63 : decode cX2_build 63 = .ok (.iastore, 1) := by decide +kernel
theorem dX2_build_64 : decode cX2_build 64 = .ok (.dup, 1) := by decide +kernel
theorem dX2_build_65 : decode cX2_build 65 = .ok (.iconst 1, 1) := by decide +kernel
theorem dX2_build_66 : decode cX2_build 66 = .ok (.iload_n 2, 1) := by decide +kernel
theorem dX2_build_67 : decode cX2_build 67 = .ok (.iastore, 1) := by decide +kernel
theorem dX2_build_68 : decode cX2_build 68 = .ok (.dup, 1) := by decide +kernel
theorem dX2_build_69 : decode cX2_build 69 = .ok (.iconst 2, 1) := by decide +kernel
theorem dX2_build_70 : decode cX2_build 70 = .ok (.iload_n 3, 1) := by decide +kernel
theorem dX2_build_71 : decode cX2_build 71 = .ok (.iastore, 1) := by decide +kernel
theorem dX2_build_72 : decode cX2_build 72 = .ok (.dup, 1) := by decide +kernel
theorem dX2_build_73 : decode cX2_build 73 = .ok (.iconst 3, 1) := by decide +kernel
theorem dX2_build_74 : decode cX2_build 74 = .ok (.iconst 0, 1) := by decide +kernel
theorem dX2_build_75 : decode cX2_build 75 = .ok (.iastore, 1) := by decide +kernel
theorem dX2_build_76 : decode cX2_build 76 = .ok (.dup, 1) := by decide +kernel
theorem dX2_build_77 : decode cX2_build 77 = .ok (.iconst 4, 1) := by decide +kernel
theorem dX2_build_78 : decode cX2_build 78 = .ok (.iconst 0, 1) := by decide +kernel
theorem dX2_build_79 : decode cX2_build 79 = .ok (.iastore, 1) := by decide +kernel
theorem dX2_build_80 : decode cX2_build 80 = .ok (.dup, 1) := by decide +kernel
theorem dX2_build_81 : decode cX2_build 81 = .ok (.iconst 5, 1) := by decide +kernel
theorem dX2_build_82 : decode cX2_build 82 = .ok (.iconst 0, 1) := by decide +kernel
theorem dX2_build_83 : decode cX2_build 83 = .ok (.iastore, 1) := by decide +kernel
theorem dX2_build_84 : decode cX2_build 84 = .ok (.dup, 1) := by decide +kernel
theorem dX2_build_85 : decode cX2_build 85 = .ok (.bipush 6, 2) := by decide +kernel
theorem dX2_build_87 : decode cX2_build 87 = .ok (.iconst 0, 1) := by decide +kernel
theorem dX2_build_88 : decode cX2_build 88 = .ok (.iastore, 1) := by decide +kernel
theorem dX2_build_89 : decode cX2_build 89 = .ok (.dup, 1) := by decide +kernel
theorem dX2_build_90 : decode cX2_build 90 = .ok (.bipush 7, 2) := by decide +kernel
theorem dX2_build_92 : decode cX2_build 92 = .ok (.iconst 0, 1) := by decide +kernel
theorem dX2_build_93 : decode cX2_build 93 = .ok (.iastore, 1) := by decide +kernel
theorem dX2_build_94 : decode cX2_build 94 = .ok (.astore 4, 2) := by decide +kernel
theorem dX2_build_96 : decode cX2_build 96 = .ok (.aload 4, 2) := by decide +kernel
theorem dX2_build_98 : decode cX2_build 98 = .ok (.iconst 0, 1) := by decide +kernel
theorem dX2_build_99 : decode cX2_build 99 = .ok (.aload_n 0, 1) := by decide +kernel
theorem dX2_build_100 : decode cX2_build 100 = .ok (.getfield 9, 3) := by decide +kernel
theorem dX2_build_103 : decode cX2_build 103 = .ok (.bipush 8, 2) := by decide +kernel
theorem dX2_build_105 : decode cX2_build 105 = .ok (.aload_n 0, 1) := by decide +kernel
theorem dX2_build_106 : decode cX2_build 106 = .ok (.getfield 23, 3) := by decide +kernel
theorem dX2_build_109 : decode cX2_build 109 = .ok (.imul, 1) := by decide +kernel
theorem dX2_build_110 : decode cX2_build 110 = .ok (.bipush 8, 2) := by decide +kernel
theorem dX2_build_112 : decode cX2_build 112 = .ok (.invokestatic 37, 3) := by decide +kernel
theorem dX2_build_115 : decode cX2_build 115 = .ok (.aload_n 0, 1) := by decide +kernel
theorem dX2_build_116 : decode cX2_build 116 = .ok (.dup, 1) := by decide +kernel
theorem dX2_build_117 : decode cX2_build 117 = .ok (.getfield 23, 3) := by decide +kernel
theorem dX2_build_120 : decode cX2_build 120 = .ok (.iconst 1, 1) := by decide +kernel
theorem dX2_build_121 : decode cX2_build 121 = .ok (.iadd, 1) := by decide +kernel
theorem dX2_build_122 : decode cX2_build 122 = .ok (.putfield 23, 3) := by decide +kernel
theorem dX2_build_125 : decode cX2_build 125 = .ok (.aload_n 0, 1) := by decide +kernel
theorem dX2_build_126 : decode cX2_build 126 = .ok (.getfield 23, 3) := by decide +kernel
theorem dX2_build_129 : decode cX2_build 129 = .ok (.iconst 1, 1) := by decide +kernel
theorem dX2_build_130 : decode cX2_build 130 = .ok (.isub, 1) := by decide +kernel
theorem dX2_build_131 : decode cX2_build 131 = .ok (.ireturn, 1) := by decide +kernel
set_option maxRecDepth 20000 in
theorem ggX2_lay_X2_isTank : GoodIn wsX2_lay wsX2_isTank := goodIn_r _ [13, 14, 15, 16, 12, 17, 22, 23, 24, 25, 26, 27] (by decide +kernel) (by decide +kernel)
set_option maxRecDepth 20000 in
theorem gX2_lay_X2_isTank : GoodIn wsX2_lay (wsV RX2 43 RX2 yX2_isTank wsX2_isTank) := goodIn_app (goodIn_of _ (by decide +kernel)) ggX2_lay_X2_isTank
set_option maxRecDepth 20000 in
theorem ggX2_lay_X2_fail : GoodIn wsX2_lay wsX2_fail := goodIn_r _ [21, 1, 22, 23, 24, 25, 26, 27] (by decide +kernel) (by decide +kernel)
set_option maxRecDepth 20000 in
theorem gX2_lay_X2_fail : GoodIn wsX2_lay (wsV RX2 33 RX2 yX2_fail wsX2_fail) := goodIn_app (goodIn_of _ (by decide +kernel)) ggX2_lay_X2_fail
set_option maxRecDepth 20000 in
theorem ggX2_lay_X2_isIn : GoodIn wsX2_lay wsX2_isIn := goodIn_r _ [17] (by decide +kernel) (by decide +kernel)
set_option maxRecDepth 20000 in
theorem gX2_lay_X2_isIn : GoodIn wsX2_lay (va_wsS RX2 26 yX2_isIn wsX2_isIn) := goodIn_app (goodIn_of _ (by decide +kernel)) ggX2_lay_X2_isIn
theorem dX2_lay_0 : decode cX2_lay 0 = .ok (.aload_n 0, 1) := by decide +kernel
theorem dX2_lay_1 : decode cX2_lay 1 = .ok (.iconst 0, 1) := by decide +kernel
theorem dX2_lay_2 : decode cX2_lay 2 = .ok (.putfield 19, 3) := by decide +kernel
theorem dX2_lay_5 : decode cX2_lay 5 = .ok (.aload_n 0, 1) := by decide +kernel
theorem dX2_lay_6 : decode cX2_lay 6 = .ok (.iload_n 1, 1) := by decide +kernel
theorem dX2_lay_7 : decode cX2_lay 7 = .ok (.invokevirtual 43, 3) := by decide +kernel
theorem dX2_lay_10 : decode cX2_lay 10 = .ok (.ifCond .eq 11, 3) := by decide +kernel
theorem dX2_lay_13 : decode cX2_lay 13 = .ok (.aload_n 0, 1) := by decide +kernel
theorem dX2_lay_14 : decode cX2_lay 14 = .ok (.iload_n 2, 1) := by decide +kernel
theorem dX2_lay_15 : decode cX2_lay 15 = .ok (.invokevirtual 43, 3) := by decide +kernel
theorem dX2_lay_18 : decode cX2_lay 18 = .ok (.ifCond .ne 9, 3) := by decide +kernel
theorem dX2_lay_21 : decode cX2_lay 21 = .ok (.aload_n 0, 1) := by decide +kernel
theorem dX2_lay_22 : decode cX2_lay 22 = .ok (.iconst 1, 1) := by decide +kernel
theorem dX2_lay_23 : decode cX2_lay 23 = .ok (.invokevirtual 33, 3) := by decide +kernel
theorem dX2_lay_26 : decode cX2_lay 26 = .ok (.ireturn, 1) := by decide +kernel
theorem dX2_lay_27 : decode cX2_lay 27 = .ok (.iload_n 1, 1) := by decide +kernel
theorem dX2_lay_28 : decode cX2_lay 28 = .ok (.iload_n 2, 1) := by decide +kernel
theorem dX2_lay_29 : decode cX2_lay 29 = .ok (.if_icmp .eq 24, 3) := by decide +kernel
theorem dX2_lay_32 : decode cX2_lay 32 = .ok (.iload_n 3, 1) := by decide +kernel
theorem dX2_lay_33 : decode cX2_lay 33 = .ok (.iconst 1, 1) := by decide +kernel
theorem dX2_lay_34 : decode cX2_lay 34 = .ok (.bipush 20, 2) := by decide +kernel
theorem dX2_lay_36 : decode cX2_lay 36 = .ok (.invokestatic 26, 3) := by decide +kernel
theorem dX2_lay_39 : decode cX2_lay 39 = .ok (.ifCond .eq 14, 3) := by decide +kernel
theorem dX2_lay_42 : decode cX2_lay 42 = .ok (.iload 4, 2) := by decide +kernel
theorem dX2_lay_44 : decode cX2_lay 44 = .ok (.iconst 0, 1) := by decide +kernel
theorem dX2_lay_45 : decode cX2_lay 45 = .ok (.bipush 60, 2) := by decide +kernel
theorem dX2_lay_47 : decode cX2_lay 47 = .ok (.invokestatic 26, 3) := by decide +kernel
theorem dX2_lay_50 : decode cX2_lay 50 = .ok (.ifCond .ne 9, 3) := by decide +kernel
theorem dX2_lay_53 : decode cX2_lay 53 = .ok (.aload_n 0, 1) := by decide +kernel
theorem dX2_lay_54 : decode cX2_lay 54 = .ok (.iconst 2, 1) := by decide +kernel
theorem dX2_lay_55 : decode cX2_lay 55 = .ok (.invokevirtual 33, 3) := by decide +kernel
theorem dX2_lay_58 : decode cX2_lay 58 = .ok (.ireturn, 1) := by decide +kernel
theorem dX2_lay_59 : decode cX2_lay 59 = .ok (.aload_n 0, 1) := by decide +kernel
theorem dX2_lay_60 : decode cX2_lay 60 = .ok (.getfield 30, 3) := by decide +kernel
theorem dX2_lay_63 : decode cX2_lay 63 = .ok (.bipush 14, 2) := by decide +kernel
theorem dX2_lay_65 : decode cX2_lay 65 = .ok (.if_icmp .ne 9, 3) := by decide +kernel
theorem dX2_lay_68 : decode cX2_lay 68 = .ok (.aload_n 0, 1) := by decide +kernel
theorem dX2_lay_69 : decode cX2_lay 69 = .ok (.iconst 3, 1) := by decide +kernel
theorem dX2_lay_70 : decode cX2_lay 70 = .ok (.invokevirtual 33, 3) := by decide +kernel
theorem dX2_lay_73 : decode cX2_lay 73 = .ok (.ireturn, 1) := by decide +kernel
theorem dX2_lay_74 : decode cX2_lay 74 = .ok (.bipush 9, 2) := by decide +kernel
theorem dX2_lay_76 : decode cX2_lay 76 = .ok (.newarray .int, 2) := by decide +kernel
theorem dX2_lay_78 : decode cX2_lay 78 = .ok (.dup, 1) := by decide +kernel
theorem dX2_lay_79 : decode cX2_lay 79 = .ok (.iconst 0, 1) := by decide +kernel
theorem dX2_lay_80 : decode cX2_lay 80 = .ok (.iload_n 1, 1) := by decide +kernel
theorem dX2_lay_81 : decode cX2_lay 81 = .ok (.iastore, 1) := by decide +kernel
theorem dX2_lay_82 : decode cX2_lay 82 = .ok (.dup, 1) := by decide +kernel
theorem dX2_lay_83 : decode cX2_lay 83 = .ok (.iconst 1, 1) := by decide +kernel
theorem dX2_lay_84 : decode cX2_lay 84 = .ok (.iload_n 2, 1) := by decide +kernel
theorem dX2_lay_85 : decode cX2_lay 85 = .ok (.iastore, 1) := by decide +kernel
theorem dX2_lay_86 : decode cX2_lay 86 = .ok (.dup, 1) := by decide +kernel
theorem dX2_lay_87 : decode cX2_lay 87 = .ok (.iconst 2, 1) := by decide +kernel
theorem dX2_lay_88 : decode cX2_lay 88 = .ok (.iload_n 3, 1) := by decide +kernel
theorem dX2_lay_89 : decode cX2_lay 89 = .ok (.iastore, 1) := by decide +kernel
theorem dX2_lay_90 : decode cX2_lay 90 = .ok (.dup, 1) := by decide +kernel
theorem dX2_lay_91 : decode cX2_lay 91 = .ok (.iconst 3, 1) := by decide +kernel
theorem dX2_lay_92 : decode cX2_lay 92 = .ok (.iload 4, 2) := by decide +kernel
theorem dX2_lay_94 : decode cX2_lay 94 = .ok (.iastore, 1) := by decide +kernel
theorem dX2_lay_95 : decode cX2_lay 95 = .ok (.dup, 1) := by decide +kernel
theorem dX2_lay_96 : decode cX2_lay 96 = .ok (.iconst 4, 1) := by decide +kernel
theorem dX2_lay_97 : decode cX2_lay 97 = .ok (.iconst 0, 1) := by decide +kernel
theorem dX2_lay_98 : decode cX2_lay 98 = .ok (.iastore, 1) := by decide +kernel
theorem dX2_lay_99 : decode cX2_lay 99 = .ok (.dup, 1) := by decide +kernel
theorem dX2_lay_100 : decode cX2_lay 100 = .ok (.iconst 5, 1) := by decide +kernel
theorem dX2_lay_101 : decode cX2_lay 101 = .ok (.iconst 0, 1) := by decide +kernel
theorem dX2_lay_102 : decode cX2_lay 102 = .ok (.iastore, 1) := by decide +kernel
theorem dX2_lay_103 : decode cX2_lay 103 = .ok (.dup, 1) := by decide +kernel
theorem dX2_lay_104 : decode cX2_lay 104 = .ok (.bipush 6, 2) := by decide +kernel
theorem dX2_lay_106 : decode cX2_lay 106 = .ok (.iconst 0, 1) := by decide +kernel
theorem dX2_lay_107 : decode cX2_lay 107 = .ok (.iastore, 1) := by decide +kernel
theorem dX2_lay_108 : decode cX2_lay 108 = .ok (.dup, 1) := by decide +kernel
theorem dX2_lay_109 : decode cX2_lay 109 = .ok (.bipush 7, 2) := by decide +kernel
theorem dX2_lay_111 : decode cX2_lay 111 = .ok (.iconst 0, 1) := by decide +kernel
theorem dX2_lay_112 : decode cX2_lay 112 = .ok (.iastore, 1) := by decide +kernel
theorem dX2_lay_113 : decode cX2_lay 113 = .ok (.dup, 1) := by decide +kernel
theorem dX2_lay_114 : decode cX2_lay 114 = .ok (.bipush 8, 2) := by decide +kernel
theorem dX2_lay_116 : decode cX2_lay 116 = .ok (.iconst 0, 1) := by decide +kernel
theorem dX2_lay_117 : decode cX2_lay 117 = .ok (.iastore, 1) := by decide +kernel
theorem dX2_lay_118 : decode cX2_lay 118 = .ok (.astore 5, 2) := by decide +kernel
theorem dX2_lay_120 : decode cX2_lay 120 = .ok (.aload 5, 2) := by decide +kernel
theorem dX2_lay_122 : decode cX2_lay 122 = .ok (.iconst 0, 1) := by decide +kernel
theorem dX2_lay_123 : decode cX2_lay 123 = .ok (.aload_n 0, 1) := by decide +kernel
theorem dX2_lay_124 : decode cX2_lay 124 = .ok (.getfield 13, 3) := by decide +kernel
theorem dX2_lay_127 : decode cX2_lay 127 = .ok (.bipush 9, 2) := by decide +kernel
theorem dX2_lay_129 : decode cX2_lay 129 = .ok (.aload_n 0, 1) := by decide +kernel
theorem dX2_lay_130 : decode cX2_lay 130 = .ok (.getfield 30, 3) := by decide +kernel
theorem dX2_lay_133 : decode cX2_lay 133 = .ok (.imul, 1) := by decide +kernel
theorem dX2_lay_134 : decode cX2_lay 134 = .ok (.bipush 9, 2) := by decide +kernel
theorem dX2_lay_136 : decode cX2_lay 136 = .ok (.invokestatic 37, 3) := by decide +kernel
theorem dX2_lay_139 : decode cX2_lay 139 = .ok (.aload_n 0, 1) := by decide +kernel
theorem dX2_lay_140 : decode cX2_lay 140 = .ok (.dup, 1) := by decide +kernel
theorem dX2_lay_141 : decode cX2_lay 141 = .ok (.getfield 30, 3) := by decide +kernel
theorem dX2_lay_144 : decode cX2_lay 144 = .ok (.iconst 1, 1) := by decide +kernel
theorem dX2_lay_145 : decode cX2_lay 145 = .ok (.iadd, 1) := by decide +kernel
theorem dX2_lay_146 : decode cX2_lay 146 = .ok (.putfield 30, 3) := by decide +kernel
theorem dX2_lay_149 : decode cX2_lay 149 = .ok (.aload_n 0, 1) := by decide +kernel
theorem dX2_lay_150 : decode cX2_lay 150 = .ok (.getfield 30, 3) := by decide +kernel
theorem dX2_lay_153 : decode cX2_lay 153 = .ok (.iconst 1, 1) := by decide +kernel
theorem dX2_lay_154 : decode cX2_lay 154 = .ok (.isub, 1) := by decide +kernel
theorem dX2_lay_155 : decode cX2_lay 155 = .ok (.ireturn, 1) := by decide +kernel
set_option maxRecDepth 20000 in
theorem ggX2_set_X2_isTank : GoodIn wsX2_set wsX2_isTank := goodIn_r _ [6, 7, 8, 9, 5, 10, 24, 25, 26, 27, 28, 29] (by decide +kernel) (by decide +kernel)
set_option maxRecDepth 20000 in
theorem gX2_set_X2_isTank : GoodIn wsX2_set (wsV RX2 43 RX2 yX2_isTank wsX2_isTank) := goodIn_app (goodIn_of _ (by decide +kernel)) ggX2_set_X2_isTank
set_option maxRecDepth 20000 in
theorem ggX2_set_X2_fail : GoodIn wsX2_set wsX2_fail := goodIn_r _ [14, 1, 24, 25, 26, 27, 28, 29] (by decide +kernel) (by decide +kernel)
set_option maxRecDepth 20000 in
theorem gX2_set_X2_fail : GoodIn wsX2_set (wsV RX2 33 RX2 yX2_fail wsX2_fail) := goodIn_app (goodIn_of _ (by decide +kernel)) ggX2_set_X2_fail
set_option maxRecDepth 20000 in
theorem ggX2_set_X2_isIn : GoodIn wsX2_set wsX2_isIn := goodIn_r _ [10] (by decide +kernel) (by decide +kernel)
set_option maxRecDepth 20000 in
theorem gX2_set_X2_isIn : GoodIn wsX2_set (va_wsS RX2 26 yX2_isIn wsX2_isIn) := goodIn_app (goodIn_of _ (by decide +kernel)) ggX2_set_X2_isIn
set_option maxRecDepth 20000 in
theorem ggX2_set_X2_la : GoodIn wsX2_set wsX2_la := goodIn_r _ [18, 19, 24, 25, 26, 27, 28, 29] (by decide +kernel) (by decide +kernel)
set_option maxRecDepth 20000 in
theorem gX2_set_X2_la : GoodIn wsX2_set (wsV RX2 47 RX2 yX2_la wsX2_la) := goodIn_app (goodIn_of _ (by decide +kernel)) ggX2_set_X2_la
set_option maxRecDepth 20000 in
theorem ggX2_set_X2_setTank : GoodIn wsX2_set wsX2_setTank := goodIn_r _ [23, 19, 24, 25, 26, 27, 28, 29] (by decide +kernel) (by decide +kernel)
set_option maxRecDepth 20000 in
theorem gX2_set_X2_setTank : GoodIn wsX2_set (wsV RX2 51 RX2 yX2_setTank wsX2_setTank) := goodIn_app (goodIn_of _ (by decide +kernel)) ggX2_set_X2_setTank
theorem dX2_set_0 : decode cX2_set 0 = .ok (.aload_n 0, 1) := by decide +kernel
theorem dX2_set_1 : decode cX2_set 1 = .ok (.iconst 0, 1) := by decide +kernel
theorem dX2_set_2 : decode cX2_set 2 = .ok (.putfield 19, 3) := by decide +kernel
theorem dX2_set_5 : decode cX2_set 5 = .ok (.aload_n 0, 1) := by decide +kernel
theorem dX2_set_6 : decode cX2_set 6 = .ok (.iload_n 1, 1) := by decide +kernel
theorem dX2_set_7 : decode cX2_set 7 = .ok (.invokevirtual 43, 3) := by decide +kernel
theorem dX2_set_10 : decode cX2_set 10 = .ok (.ifCond .ne 9, 3) := by decide +kernel
theorem dX2_set_13 : decode cX2_set 13 = .ok (.aload_n 0, 1) := by decide +kernel
theorem dX2_set_14 : decode cX2_set 14 = .ok (.iconst 1, 1) := by decide +kernel
theorem dX2_set_15 : decode cX2_set 15 = .ok (.invokevirtual 33, 3) := by decide +kernel
theorem dX2_set_18 : decode cX2_set 18 = .ok (.ireturn, 1) := by decide +kernel
theorem dX2_set_19 : decode cX2_set 19 = .ok (.iload_n 2, 1) := by decide +kernel
theorem dX2_set_20 : decode cX2_set 20 = .ok (.iconst 0, 1) := by decide +kernel
theorem dX2_set_21 : decode cX2_set 21 = .ok (.bipush 20, 2) := by decide +kernel
theorem dX2_set_23 : decode cX2_set 23 = .ok (.invokestatic 26, 3) := by decide +kernel
theorem dX2_set_26 : decode cX2_set 26 = .ok (.ifCond .eq 13, 3) := by decide +kernel
theorem dX2_set_29 : decode cX2_set 29 = .ok (.iload_n 3, 1) := by decide +kernel
theorem dX2_set_30 : decode cX2_set 30 = .ok (.iconst 0, 1) := by decide +kernel
theorem dX2_set_31 : decode cX2_set 31 = .ok (.bipush 20, 2) := by decide +kernel
theorem dX2_set_33 : decode cX2_set 33 = .ok (.invokestatic 26, 3) := by decide +kernel
theorem dX2_set_36 : decode cX2_set 36 = .ok (.ifCond .ne 9, 3) := by decide +kernel
theorem dX2_set_39 : decode cX2_set 39 = .ok (.aload_n 0, 1) := by decide +kernel
theorem dX2_set_40 : decode cX2_set 40 = .ok (.iconst 2, 1) := by decide +kernel
theorem dX2_set_41 : decode cX2_set 41 = .ok (.invokevirtual 33, 3) := by decide +kernel
theorem dX2_set_44 : decode cX2_set 44 = .ok (.ireturn, 1) := by decide +kernel
theorem dX2_set_45 : decode cX2_set 45 = .ok (.bipush 100, 2) := by decide +kernel
theorem dX2_set_47 : decode cX2_set 47 = .ok (.aload_n 0, 1) := by decide +kernel
theorem dX2_set_48 : decode cX2_set 48 = .ok (.iload_n 1, 1) := by decide +kernel
theorem dX2_set_49 : decode cX2_set 49 = .ok (.iconst 1, 1) := by decide +kernel
theorem dX2_set_50 : decode cX2_set 50 = .ok (.invokevirtual 47, 3) := by decide +kernel
theorem dX2_set_53 : decode cX2_set 53 = .ok (.imul, 1) := by decide +kernel
theorem dX2_set_54 : decode cX2_set 54 = .ok (.aload_n 0, 1) := by decide +kernel
theorem dX2_set_55 : decode cX2_set 55 = .ok (.iload_n 1, 1) := by decide +kernel
theorem dX2_set_56 : decode cX2_set 56 = .ok (.iconst 2, 1) := by decide +kernel
theorem dX2_set_57 : decode cX2_set 57 = .ok (.invokevirtual 47, 3) := by decide +kernel
theorem dX2_set_60 : decode cX2_set 60 = .ok (.iadd, 1) := by decide +kernel
theorem dX2_set_61 : decode cX2_set 61 = .ok (.istore 4, 2) := by decide +kernel
theorem dX2_set_63 : decode cX2_set 63 = .ok (.aload_n 0, 1) := by decide +kernel
theorem dX2_set_64 : decode cX2_set 64 = .ok (.iload_n 1, 1) := by decide +kernel
theorem dX2_set_65 : decode cX2_set 65 = .ok (.iconst 1, 1) := by decide +kernel
theorem dX2_set_66 : decode cX2_set 66 = .ok (.iload_n 2, 1) := by decide +kernel
theorem dX2_set_67 : decode cX2_set 67 = .ok (.invokevirtual 51, 3) := by decide +kernel
theorem dX2_set_70 : decode cX2_set 70 = .ok (.aload_n 0, 1) := by decide +kernel
theorem dX2_set_71 : decode cX2_set 71 = .ok (.iload_n 1, 1) := by decide +kernel
theorem dX2_set_72 : decode cX2_set 72 = .ok (.iconst 2, 1) := by decide +kernel
theorem dX2_set_73 : decode cX2_set 73 = .ok (.iload_n 3, 1) := by decide +kernel
theorem dX2_set_74 : decode cX2_set 74 = .ok (.invokevirtual 51, 3) := by decide +kernel
theorem dX2_set_77 : decode cX2_set 77 = .ok (.iload 4, 2) := by decide +kernel
theorem dX2_set_79 : decode cX2_set 79 = .ok (.ireturn, 1) := by decide +kernel
set_option maxRecDepth 20000 in
theorem ggX2_flush_X2_isTank : GoodIn wsX2_flush wsX2_isTank := goodIn_r _ [6, 7, 8, 9, 5, 10, 24, 25, 26, 27, 28, 29] (by decide +kernel) (by decide +kernel)
set_option maxRecDepth 20000 in
theorem gX2_flush_X2_isTank : GoodIn wsX2_flush (wsV RX2 43 RX2 yX2_isTank wsX2_isTank) := goodIn_app (goodIn_of _ (by decide +kernel)) ggX2_flush_X2_isTank
set_option maxRecDepth 20000 in
theorem ggX2_flush_X2_fail : GoodIn wsX2_flush wsX2_fail := goodIn_r _ [14, 1, 24, 25, 26, 27, 28, 29] (by decide +kernel) (by decide +kernel)
set_option maxRecDepth 20000 in
theorem gX2_flush_X2_fail : GoodIn wsX2_flush (wsV RX2 33 RX2 yX2_fail wsX2_fail) := goodIn_app (goodIn_of _ (by decide +kernel)) ggX2_flush_X2_fail
set_option maxRecDepth 20000 in
theorem ggX2_flush_X2_la : GoodIn wsX2_flush wsX2_la := goodIn_r _ [18, 19, 24, 25, 26, 27, 28, 29] (by decide +kernel) (by decide +kernel)
set_option maxRecDepth 20000 in
theorem gX2_flush_X2_la : GoodIn wsX2_flush (wsV RX2 47 RX2 yX2_la wsX2_la) := goodIn_app (goodIn_of _ (by decide +kernel)) ggX2_flush_X2_la
set_option maxRecDepth 20000 in
theorem ggX2_flush_X2_setTank : GoodIn wsX2_flush wsX2_setTank := goodIn_r _ [23, 19, 24, 25, 26, 27, 28, 29] (by decide +kernel) (by decide +kernel)
set_option maxRecDepth 20000 in
theorem gX2_flush_X2_setTank : GoodIn wsX2_flush (wsV RX2 51 RX2 yX2_setTank wsX2_setTank) := goodIn_app (goodIn_of _ (by decide +kernel)) ggX2_flush_X2_setTank
theorem dX2_flush_0 : decode cX2_flush 0 = .ok (.aload_n 0, 1) := by decide +kernel
theorem dX2_flush_1 : decode cX2_flush 1 = .ok (.iconst 0, 1) := by decide +kernel
theorem dX2_flush_2 : decode cX2_flush 2 = .ok (.putfield 19, 3) := by decide +kernel
theorem dX2_flush_5 : decode cX2_flush 5 = .ok (.aload_n 0, 1) := by decide +kernel
theorem dX2_flush_6 : decode cX2_flush 6 = .ok (.iload_n 1, 1) := by decide +kernel
theorem dX2_flush_7 : decode cX2_flush 7 = .ok (.invokevirtual 43, 3) := by decide +kernel
theorem dX2_flush_10 : decode cX2_flush 10 = .ok (.ifCond .ne 9, 3) := by decide +kernel
theorem dX2_flush_13 : decode cX2_flush 13 = .ok (.aload_n 0, 1) := by decide +kernel
theorem dX2_flush_14 : decode cX2_flush 14 = .ok (.iconst 1, 1) := by decide +kernel
theorem dX2_flush_15 : decode cX2_flush 15 = .ok (.invokevirtual 33, 3) := by decide +kernel
theorem dX2_flush_18 : decode cX2_flush 18 = .ok (.ireturn, 1) := by decide +kernel
theorem dX2_flush_19 : decode cX2_flush 19 = .ok (.aload_n 0, 1) := by decide +kernel
theorem dX2_flush_20 : decode cX2_flush 20 = .ok (.iload_n 1, 1) := by decide +kernel
theorem dX2_flush_21 : decode cX2_flush 21 = .ok (.iconst 4, 1) := by decide +kernel
theorem dX2_flush_22 : decode cX2_flush 22 = .ok (.invokevirtual 47, 3) := by decide +kernel
theorem dX2_flush_25 : decode cX2_flush 25 = .ok (.istore_n 2, 1) := by decide +kernel
theorem dX2_flush_26 : decode cX2_flush 26 = .ok (.aload_n 0, 1) := by decide +kernel
theorem dX2_flush_27 : decode cX2_flush 27 = .ok (.iload_n 1, 1) := by decide +kernel
theorem dX2_flush_28 : decode cX2_flush 28 = .ok (.iconst 4, 1) := by decide +kernel
theorem dX2_flush_29 : decode cX2_flush 29 = .ok (.iconst 0, 1) := by decide +kernel
theorem dX2_flush_30 : decode cX2_flush 30 = .ok (.invokevirtual 51, 3) := by decide +kernel
theorem dX2_flush_33 : decode cX2_flush 33 = .ok (.aload_n 0, 1) := by decide +kernel
theorem dX2_flush_34 : decode cX2_flush 34 = .ok (.iload_n 1, 1) := by decide +kernel
theorem dX2_flush_35 : decode cX2_flush 35 = .ok (.iconst 3, 1) := by decide +kernel
theorem dX2_flush_36 : decode cX2_flush 36 = .ok (.aload_n 0, 1) := by decide +kernel
theorem dX2_flush_37 : decode cX2_flush 37 = .ok (.iload_n 1, 1) := by decide +kernel
theorem dX2_flush_38 : decode cX2_flush 38 = .ok (.iconst 3, 1) := by decide +kernel
theorem dX2_flush_39 : decode cX2_flush 39 = .ok (.invokevirtual 47, 3) := by decide +kernel
theorem dX2_flush_42 : decode cX2_flush 42 = .ok (.iconst 2, 1) := by decide +kernel
theorem dX2_flush_43 : decode cX2_flush 43 = .ok (.idiv, 1) := by decide +kernel
theorem dX2_flush_44 : decode cX2_flush 44 = .ok (.invokevirtual 51, 3) := by decide +kernel
theorem dX2_flush_47 : decode cX2_flush 47 = .ok (.iload_n 2, 1) := by decide +kernel
theorem dX2_flush_48 : decode cX2_flush 48 = .ok (.ireturn, 1) := by decide +kernel
set_option maxRecDepth 20000 in
theorem ggX2_scrape_X2_isPipe : GoodIn wsX2_scrape wsX2_isPipe := goodIn_r _ [6, 7, 8, 9, 5, 10, 24, 25, 26, 27, 28, 29] (by decide +kernel) (by decide +kernel)
set_option maxRecDepth 20000 in
theorem gX2_scrape_X2_isPipe : GoodIn wsX2_scrape (wsV RX2 55 RX2 yX2_isPipe wsX2_isPipe) := goodIn_app (goodIn_of _ (by decide +kernel)) ggX2_scrape_X2_isPipe
set_option maxRecDepth 20000 in
theorem ggX2_scrape_X2_fail : GoodIn wsX2_scrape wsX2_fail := goodIn_r _ [14, 1, 24, 25, 26, 27, 28, 29] (by decide +kernel) (by decide +kernel)
set_option maxRecDepth 20000 in
theorem gX2_scrape_X2_fail : GoodIn wsX2_scrape (wsV RX2 33 RX2 yX2_fail wsX2_fail) := goodIn_app (goodIn_of _ (by decide +kernel)) ggX2_scrape_X2_fail
set_option maxRecDepth 20000 in
theorem ggX2_scrape_X2_li : GoodIn wsX2_scrape wsX2_li := goodIn_r _ [18, 19, 24, 25, 26, 27, 28, 29] (by decide +kernel) (by decide +kernel)
set_option maxRecDepth 20000 in
theorem gX2_scrape_X2_li : GoodIn wsX2_scrape (wsV RX2 58 RX2 yX2_li wsX2_li) := goodIn_app (goodIn_of _ (by decide +kernel)) ggX2_scrape_X2_li
set_option maxRecDepth 20000 in
theorem ggX2_scrape_X2_setPipe : GoodIn wsX2_scrape wsX2_setPipe := goodIn_r _ [23, 19, 24, 25, 26, 27, 28, 29] (by decide +kernel) (by decide +kernel)
set_option maxRecDepth 20000 in
theorem gX2_scrape_X2_setPipe : GoodIn wsX2_scrape (wsV RX2 61 RX2 yX2_setPipe wsX2_setPipe) := goodIn_app (goodIn_of _ (by decide +kernel)) ggX2_scrape_X2_setPipe
theorem dX2_scrape_0 : decode cX2_scrape 0 = .ok (.aload_n 0, 1) := by decide +kernel
theorem dX2_scrape_1 : decode cX2_scrape 1 = .ok (.iconst 0, 1) := by decide +kernel
theorem dX2_scrape_2 : decode cX2_scrape 2 = .ok (.putfield 19, 3) := by decide +kernel
theorem dX2_scrape_5 : decode cX2_scrape 5 = .ok (.aload_n 0, 1) := by decide +kernel
theorem dX2_scrape_6 : decode cX2_scrape 6 = .ok (.iload_n 1, 1) := by decide +kernel
theorem dX2_scrape_7 : decode cX2_scrape 7 = .ok (.invokevirtual 55, 3) := by decide +kernel
theorem dX2_scrape_10 : decode cX2_scrape 10 = .ok (.ifCond .ne 9, 3) := by decide +kernel
theorem dX2_scrape_13 : decode cX2_scrape 13 = .ok (.aload_n 0, 1) := by decide +kernel
theorem dX2_scrape_14 : decode cX2_scrape 14 = .ok (.iconst 1, 1) := by decide +kernel
theorem dX2_scrape_15 : decode cX2_scrape 15 = .ok (.invokevirtual 33, 3) := by decide +kernel
theorem dX2_scrape_18 : decode cX2_scrape 18 = .ok (.ireturn, 1) := by decide +kernel
theorem dX2_scrape_19 : decode cX2_scrape 19 = .ok (.aload_n 0, 1) := by decide +kernel
theorem dX2_scrape_20 : decode cX2_scrape 20 = .ok (.iload_n 1, 1) := by decide +kernel
theorem dX2_scrape_21 : decode cX2_scrape 21 = .ok (.iconst 4, 1) := by decide +kernel
theorem dX2_scrape_22 : decode cX2_scrape 22 = .ok (.invokevirtual 58, 3) := by decide +kernel
theorem dX2_scrape_25 : decode cX2_scrape 25 = .ok (.istore_n 2, 1) := by decide +kernel
theorem dX2_scrape_26 : decode cX2_scrape 26 = .ok (.aload_n 0, 1) := by decide +kernel
theorem dX2_scrape_27 : decode cX2_scrape 27 = .ok (.iload_n 1, 1) := by decide +kernel
theorem dX2_scrape_28 : decode cX2_scrape 28 = .ok (.iconst 4, 1) := by decide +kernel
theorem dX2_scrape_29 : decode cX2_scrape 29 = .ok (.iconst 0, 1) := by decide +kernel
theorem dX2_scrape_30 : decode cX2_scrape 30 = .ok (.invokevirtual 61, 3) := by decide +kernel
theorem dX2_scrape_33 : decode cX2_scrape 33 = .ok (.iload_n 2, 1) := by decide +kernel
theorem dX2_scrape_34 : decode cX2_scrape 34 = .ok (.ireturn, 1) := by decide +kernel
set_option maxRecDepth 20000 in
theorem ggX2_steal_X2_isPipe : GoodIn wsX2_steal wsX2_isPipe := goodIn_r _ [6, 7, 8, 9, 5, 10, 24, 25, 26, 27, 28, 29] (by decide +kernel) (by decide +kernel)
set_option maxRecDepth 20000 in
theorem gX2_steal_X2_isPipe : GoodIn wsX2_steal (wsV RX2 55 RX2 yX2_isPipe wsX2_isPipe) := goodIn_app (goodIn_of _ (by decide +kernel)) ggX2_steal_X2_isPipe
set_option maxRecDepth 20000 in
theorem ggX2_steal_X2_fail : GoodIn wsX2_steal wsX2_fail := goodIn_r _ [14, 1, 24, 25, 26, 27, 28, 29] (by decide +kernel) (by decide +kernel)
set_option maxRecDepth 20000 in
theorem gX2_steal_X2_fail : GoodIn wsX2_steal (wsV RX2 33 RX2 yX2_fail wsX2_fail) := goodIn_app (goodIn_of _ (by decide +kernel)) ggX2_steal_X2_fail
set_option maxRecDepth 20000 in
theorem ggX2_steal_X2_isIn : GoodIn wsX2_steal wsX2_isIn := goodIn_r _ [10] (by decide +kernel) (by decide +kernel)
set_option maxRecDepth 20000 in
theorem gX2_steal_X2_isIn : GoodIn wsX2_steal (va_wsS RX2 26 yX2_isIn wsX2_isIn) := goodIn_app (goodIn_of _ (by decide +kernel)) ggX2_steal_X2_isIn
set_option maxRecDepth 20000 in
theorem ggX2_steal_X2_li : GoodIn wsX2_steal wsX2_li := goodIn_r _ [18, 19, 24, 25, 26, 27, 28, 29] (by decide +kernel) (by decide +kernel)
set_option maxRecDepth 20000 in
theorem gX2_steal_X2_li : GoodIn wsX2_steal (wsV RX2 58 RX2 yX2_li wsX2_li) := goodIn_app (goodIn_of _ (by decide +kernel)) ggX2_steal_X2_li
set_option maxRecDepth 20000 in
theorem ggX2_steal_X2_setPipe : GoodIn wsX2_steal wsX2_setPipe := goodIn_r _ [23, 19, 24, 25, 26, 27, 28, 29] (by decide +kernel) (by decide +kernel)
set_option maxRecDepth 20000 in
theorem gX2_steal_X2_setPipe : GoodIn wsX2_steal (wsV RX2 61 RX2 yX2_setPipe wsX2_setPipe) := goodIn_app (goodIn_of _ (by decide +kernel)) ggX2_steal_X2_setPipe
theorem dX2_steal_0 : decode cX2_steal 0 = .ok (.aload_n 0, 1) := by decide +kernel
theorem dX2_steal_1 : decode cX2_steal 1 = .ok (.iconst 0, 1) := by decide +kernel
theorem dX2_steal_2 : decode cX2_steal 2 = .ok (.putfield 19, 3) := by decide +kernel
theorem dX2_steal_5 : decode cX2_steal 5 = .ok (.aload_n 0, 1) := by decide +kernel
theorem dX2_steal_6 : decode cX2_steal 6 = .ok (.iload_n 1, 1) := by decide +kernel
theorem dX2_steal_7 : decode cX2_steal 7 = .ok (.invokevirtual 55, 3) := by decide +kernel
theorem dX2_steal_10 : decode cX2_steal 10 = .ok (.ifCond .ne 9, 3) := by decide +kernel
theorem dX2_steal_13 : decode cX2_steal 13 = .ok (.aload_n 0, 1) := by decide +kernel
theorem dX2_steal_14 : decode cX2_steal 14 = .ok (.iconst 1, 1) := by decide +kernel
theorem dX2_steal_15 : decode cX2_steal 15 = .ok (.invokevirtual 33, 3) := by decide +kernel
theorem dX2_steal_18 : decode cX2_steal 18 = .ok (.ireturn, 1) := by decide +kernel
theorem dX2_steal_19 : decode cX2_steal 19 = .ok (.iload_n 2, 1) := by decide +kernel
theorem dX2_steal_20 : decode cX2_steal 20 = .ok (.iconst 0, 1) := by decide +kernel
theorem dX2_steal_21 : decode cX2_steal 21 = .ok (.bipush 9, 2) := by decide +kernel
theorem dX2_steal_23 : decode cX2_steal 23 = .ok (.invokestatic 26, 3) := by decide +kernel
theorem dX2_steal_26 : decode cX2_steal 26 = .ok (.ifCond .ne 9, 3) := by decide +kernel
theorem dX2_steal_29 : decode cX2_steal 29 = .ok (.aload_n 0, 1) := by decide +kernel
theorem dX2_steal_30 : decode cX2_steal 30 = .ok (.iconst 2, 1) := by decide +kernel
theorem dX2_steal_31 : decode cX2_steal 31 = .ok (.invokevirtual 33, 3) := by decide +kernel
theorem dX2_steal_34 : decode cX2_steal 34 = .ok (.ireturn, 1) := by decide +kernel
theorem dX2_steal_35 : decode cX2_steal 35 = .ok (.aload_n 0, 1) := by decide +kernel
theorem dX2_steal_36 : decode cX2_steal 36 = .ok (.iload_n 1, 1) := by decide +kernel
theorem dX2_steal_37 : decode cX2_steal 37 = .ok (.bipush 8, 2) := by decide +kernel
theorem dX2_steal_39 : decode cX2_steal 39 = .ok (.invokevirtual 58, 3) := by decide +kernel
theorem dX2_steal_42 : decode cX2_steal 42 = .ok (.istore_n 3, 1) := by decide +kernel
theorem dX2_steal_43 : decode cX2_steal 43 = .ok (.aload_n 0, 1) := by decide +kernel
theorem dX2_steal_44 : decode cX2_steal 44 = .ok (.iload_n 1, 1) := by decide +kernel
theorem dX2_steal_45 : decode cX2_steal 45 = .ok (.bipush 8, 2) := by decide +kernel
theorem dX2_steal_47 : decode cX2_steal 47 = .ok (.iload_n 2, 1) := by decide +kernel
theorem dX2_steal_48 : decode cX2_steal 48 = .ok (.invokevirtual 61, 3) := by decide +kernel
theorem dX2_steal_51 : decode cX2_steal 51 = .ok (.iload_n 3, 1) := by decide +kernel
theorem dX2_steal_52 : decode cX2_steal 52 = .ok (.ireturn, 1) := by decide +kernel
set_option maxRecDepth 20000 in
theorem ggX2_head_X2_la : GoodIn wsX2_head wsX2_la := goodIn_r _ [5, 6, 7, 8, 9, 10, 11, 12] (by decide +kernel) (by decide +kernel)
set_option maxRecDepth 20000 in
theorem gX2_head_X2_la : GoodIn wsX2_head (wsV RX2 47 RX2 yX2_la wsX2_la) := goodIn_app (goodIn_of _ (by decide +kernel)) ggX2_head_X2_la
theorem dX2_head_0 : decode cX2_head 0 = .ok (.bipush 10, 2) := by decide +kernel
theorem dX2_head_2 : decode cX2_head 2 = .ok (.aload_n 0, 1) := by decide +kernel
theorem dX2_head_3 : decode cX2_head 3 = .ok (.iload_n 1, 1) := by decide +kernel
theorem dX2_head_4 : decode cX2_head 4 = .ok (.iconst 0, 1) := by decide +kernel
theorem dX2_head_5 : decode cX2_head 5 = .ok (.invokevirtual 47, 3) := by decide +kernel
theorem dX2_head_8 : decode cX2_head 8 = .ok (.imul, 1) := by decide +kernel
theorem dX2_head_9 : decode cX2_head 9 = .ok (.aload_n 0, 1) := by decide +kernel
theorem dX2_head_10 : decode cX2_head 10 = .ok (.iload_n 1, 1) := by decide +kernel
theorem dX2_head_11 : decode cX2_head 11 = .ok (.iconst 3, 1) := by decide +kernel
theorem dX2_head_12 : decode cX2_head 12 = .ok (.invokevirtual 47, 3) := by decide +kernel
theorem dX2_head_15 : decode cX2_head 15 = .ok (.iadd, 1) := by decide +kernel
theorem dX2_head_16 : decode cX2_head 16 = .ok (.ireturn, 1) := by decide +kernel
set_option maxRecDepth 20000 in
theorem ggX2_flows_X2_li : GoodIn wsX2_flows wsX2_li := goodIn_r _ [12, 13, 23, 24, 25, 26, 27, 28] (by decide +kernel) (by decide +kernel)
set_option maxRecDepth 20000 in
theorem gX2_flows_X2_li : GoodIn wsX2_flows (wsV RX2 58 RX2 yX2_li wsX2_li) := goodIn_app (goodIn_of _ (by decide +kernel)) ggX2_flows_X2_li
set_option maxRecDepth 20000 in
theorem ggX2_flows_X2_head : GoodIn wsX2_flows wsX2_head := goodIn_r _ [17, 18, 19, 20, 11, 21, 22, 23, 24, 25, 26, 27, 28] (by decide +kernel) (by decide +kernel)
set_option maxRecDepth 20000 in
theorem gX2_flows_X2_head : GoodIn wsX2_flows (wsV RX2 64 RX2 yX2_head wsX2_head) := goodIn_app (goodIn_of _ (by decide +kernel)) ggX2_flows_X2_head
set_option maxRecDepth 20000 in
theorem ggX2_flows_X2_la : GoodIn wsX2_flows wsX2_la := goodIn_r _ [21, 22, 23, 24, 25, 26, 27, 28] (by decide +kernel) (by decide +kernel)
set_option maxRecDepth 20000 in
theorem gX2_flows_X2_la : GoodIn wsX2_flows (wsV RX2 47 RX2 yX2_la wsX2_la) := goodIn_app (goodIn_of _ (by decide +kernel)) ggX2_flows_X2_la
theorem dX2_flows_0 : decode cX2_flows 0 = .ok (.aload_n 0, 1) := by decide +kernel
theorem dX2_flows_1 : decode cX2_flows 1 = .ok (.aload_n 0, 1) := by decide +kernel
theorem dX2_flows_2 : decode cX2_flows 2 = .ok (.iload_n 1, 1) := by decide +kernel
theorem dX2_flows_3 : decode cX2_flows 3 = .ok (.iconst 0, 1) := by decide +kernel
theorem dX2_flows_4 : decode cX2_flows 4 = .ok (.invokevirtual 58, 3) := by decide +kernel
theorem dX2_flows_7 : decode cX2_flows 7 = .ok (.invokevirtual 64, 3) := by decide +kernel
theorem dX2_flows_10 : decode cX2_flows 10 = .ok (.aload_n 0, 1) := by decide +kernel
theorem dX2_flows_11 : decode cX2_flows 11 = .ok (.aload_n 0, 1) := by decide +kernel
theorem dX2_flows_12 : decode cX2_flows 12 = .ok (.iload_n 1, 1) := by decide +kernel
theorem dX2_flows_13 : decode cX2_flows 13 = .ok (.iconst 1, 1) := by decide +kernel
theorem dX2_flows_14 : decode cX2_flows 14 = .ok (.invokevirtual 58, 3) := by decide +kernel
theorem dX2_flows_17 : decode cX2_flows 17 = .ok (.invokevirtual 64, 3) := by decide +kernel
theorem dX2_flows_20 : decode cX2_flows 20 = .ok (.isub, 1) := by decide +kernel
theorem dX2_flows_21 : decode cX2_flows 21 = .ok (.istore_n 2, 1) := by decide +kernel
theorem dX2_flows_22 : decode cX2_flows 22 = .ok (.iload_n 2, 1) := by decide +kernel
theorem dX2_flows_23 : decode cX2_flows 23 = .ok (.ifCond .le 13, 3) := by decide +kernel
theorem dX2_flows_26 : decode cX2_flows 26 = .ok (.iload_n 2, 1) := by decide +kernel
theorem dX2_flows_27 : decode cX2_flows 27 = .ok (.aload_n 0, 1) := by decide +kernel
theorem dX2_flows_28 : decode cX2_flows 28 = .ok (.iload_n 1, 1) := by decide +kernel
theorem dX2_flows_29 : decode cX2_flows 29 = .ok (.iconst 3, 1) := by decide +kernel
theorem dX2_flows_30 : decode cX2_flows 30 = .ok (.invokevirtual 58, 3) := by decide +kernel
theorem dX2_flows_33 : decode cX2_flows 33 = .ok (.if_icmp .ge 5, 3) := by decide +kernel
theorem dX2_flows_36 : decode cX2_flows 36 = .ok (.iconst 0, 1) := by decide +kernel
theorem dX2_flows_37 : decode cX2_flows 37 = .ok (.ireturn, 1) := by decide +kernel
theorem dX2_flows_38 : decode cX2_flows 38 = .ok (.aload_n 0, 1) := by decide +kernel
theorem dX2_flows_39 : decode cX2_flows 39 = .ok (.aload_n 0, 1) := by decide +kernel
theorem dX2_flows_40 : decode cX2_flows 40 = .ok (.iload_n 1, 1) := by decide +kernel
theorem dX2_flows_41 : decode cX2_flows 41 = .ok (.iconst 0, 1) := by decide +kernel
theorem dX2_flows_42 : decode cX2_flows 42 = .ok (.invokevirtual 58, 3) := by decide +kernel
theorem dX2_flows_45 : decode cX2_flows 45 = .ok (.iconst 3, 1) := by decide +kernel
theorem dX2_flows_46 : decode cX2_flows 46 = .ok (.invokevirtual 47, 3) := by decide +kernel
theorem dX2_flows_49 : decode cX2_flows 49 = .ok (.iload_n 2, 1) := by decide +kernel
theorem dX2_flows_50 : decode cX2_flows 50 = .ok (.bipush 10, 2) := by decide +kernel
theorem dX2_flows_52 : decode cX2_flows 52 = .ok (.idiv, 1) := by decide +kernel
theorem dX2_flows_53 : decode cX2_flows 53 = .ok (.iconst 1, 1) := by decide +kernel
theorem dX2_flows_54 : decode cX2_flows 54 = .ok (.iadd, 1) := by decide +kernel
theorem dX2_flows_55 : decode cX2_flows 55 = .ok (.iconst 0, 1) := by decide +kernel
theorem dX2_flows_56 : decode cX2_flows 56 = .ok (.aload_n 0, 1) := by decide +kernel
theorem dX2_flows_57 : decode cX2_flows 57 = .ok (.iload_n 1, 1) := by decide +kernel
theorem dX2_flows_58 : decode cX2_flows 58 = .ok (.iconst 2, 1) := by decide +kernel
theorem dX2_flows_59 : decode cX2_flows 59 = .ok (.invokevirtual 58, 3) := by decide +kernel
theorem dX2_flows_62 : decode cX2_flows 62 = .ok (.aload_n 0, 1) := by decide +kernel
theorem dX2_flows_63 : decode cX2_flows 63 = .ok (.iload_n 1, 1) := by decide +kernel
theorem dX2_flows_64 : decode cX2_flows 64 = .ok (.iconst 4, 1) := by decide +kernel
theorem dX2_flows_65 : decode cX2_flows 65 = .ok (.invokevirtual 58, 3) := by decide +kernel
theorem dX2_flows_68 : decode cX2_flows 68 = .ok (.isub, 1) := by decide +kernel
theorem dX2_flows_69 : decode cX2_flows 69 = .ok (.invokestatic 67, 3) := by decide +kernel
theorem dX2_flows_72 : decode cX2_flows 72 = .ok (.invokestatic 72, 3) := by decide +kernel
theorem dX2_flows_75 : decode cX2_flows 75 = .ok (.invokestatic 72, 3) := by decide +kernel
theorem dX2_flows_78 : decode cX2_flows 78 = .ok (.ireturn, 1) := by decide +kernel
set_option maxRecDepth 20000 in
theorem ggX2_tank_X2_isTank : GoodIn wsX2_tank wsX2_isTank := goodIn_r _ [6, 7, 8, 9, 5, 10, 20, 21, 22, 23, 24, 25] (by decide +kernel) (by decide +kernel)
set_option maxRecDepth 20000 in
theorem gX2_tank_X2_isTank : GoodIn wsX2_tank (wsV RX2 43 RX2 yX2_isTank wsX2_isTank) := goodIn_app (goodIn_of _ (by decide +kernel)) ggX2_tank_X2_isTank
set_option maxRecDepth 20000 in
theorem ggX2_tank_X2_isIn : GoodIn wsX2_tank wsX2_isIn := goodIn_r _ [10] (by decide +kernel) (by decide +kernel)
set_option maxRecDepth 20000 in
theorem gX2_tank_X2_isIn : GoodIn wsX2_tank (va_wsS RX2 26 yX2_isIn wsX2_isIn) := goodIn_app (goodIn_of _ (by decide +kernel)) ggX2_tank_X2_isIn
set_option maxRecDepth 20000 in
theorem ggX2_tank_X2_la : GoodIn wsX2_tank wsX2_la := goodIn_r _ [14, 15, 20, 21, 22, 23, 24, 25] (by decide +kernel) (by decide +kernel)
set_option maxRecDepth 20000 in
theorem gX2_tank_X2_la : GoodIn wsX2_tank (wsV RX2 47 RX2 yX2_la wsX2_la) := goodIn_app (goodIn_of _ (by decide +kernel)) ggX2_tank_X2_la
set_option maxRecDepth 20000 in
theorem ggX2_tank_X2_fail : GoodIn wsX2_tank wsX2_fail := goodIn_r _ [19, 1, 20, 21, 22, 23, 24, 25] (by decide +kernel) (by decide +kernel)
set_option maxRecDepth 20000 in
theorem gX2_tank_X2_fail : GoodIn wsX2_tank (wsV RX2 33 RX2 yX2_fail wsX2_fail) := goodIn_app (goodIn_of _ (by decide +kernel)) ggX2_tank_X2_fail
theorem dX2_tank_0 : decode cX2_tank 0 = .ok (.aload_n 0, 1) := by decide +kernel
theorem dX2_tank_1 : decode cX2_tank 1 = .ok (.iconst 0, 1) := by decide +kernel
theorem dX2_tank_2 : decode cX2_tank 2 = .ok (.putfield 19, 3) := by decide +kernel
theorem dX2_tank_5 : decode cX2_tank 5 = .ok (.aload_n 0, 1) := by decide +kernel
theorem dX2_tank_6 : decode cX2_tank 6 = .ok (.iload_n 1, 1) := by decide +kernel
theorem dX2_tank_7 : decode cX2_tank 7 = .ok (.invokevirtual 43, 3) := by decide +kernel
theorem dX2_tank_10 : decode cX2_tank 10 = .ok (.ifCond .eq 22, 3) := by decide +kernel
theorem dX2_tank_13 : decode cX2_tank 13 = .ok (.iload_n 2, 1) := by decide +kernel
theorem dX2_tank_14 : decode cX2_tank 14 = .ok (.iconst 0, 1) := by decide +kernel
theorem dX2_tank_15 : decode cX2_tank 15 = .ok (.bipush 7, 2) := by decide +kernel
theorem dX2_tank_17 : decode cX2_tank 17 = .ok (.invokestatic 26, 3) := by decide +kernel
theorem dX2_tank_20 : decode cX2_tank 20 = .ok (.ifCond .eq 12, 3) := by decide +kernel
theorem dX2_tank_23 : decode cX2_tank 23 = .ok (.aload_n 0, 1) := by decide +kernel
theorem dX2_tank_24 : decode cX2_tank 24 = .ok (.iload_n 1, 1) := by decide +kernel
theorem dX2_tank_25 : decode cX2_tank 25 = .ok (.iload_n 2, 1) := by decide +kernel
theorem dX2_tank_26 : decode cX2_tank 26 = .ok (.invokevirtual 47, 3) := by decide +kernel
theorem dX2_tank_29 : decode cX2_tank 29 = .ok (.goto 8, 3) := by decide +kernel
theorem dX2_tank_32 : decode cX2_tank 32 = .ok (.aload_n 0, 1) := by decide +kernel
theorem dX2_tank_33 : decode cX2_tank 33 = .ok (.iconst 1, 1) := by decide +kernel
theorem dX2_tank_34 : decode cX2_tank 34 = .ok (.invokevirtual 33, 3) := by decide +kernel
theorem dX2_tank_37 : decode cX2_tank 37 = .ok (.ireturn, 1) := by decide +kernel
set_option maxRecDepth 20000 in
theorem ggX2_pipeTold_X2_flows : GoodIn wsX2_pipeTold wsX2_flows := goodIn_r _ [5, 6, 7, 8, 9, 10, 11, 12, 13, 14, 15, 4, 16, 17, 18, 19, 20, 21, 22, 23, 24, 25, 26, 27, 28, 29, 30, 31, 32] (by decide +kernel) (by decide +kernel)
set_option maxRecDepth 20000 in
theorem gX2_pipeTold_X2_flows : GoodIn wsX2_pipeTold (wsV RX2 75 RX2 yX2_flows wsX2_flows) := goodIn_app (goodIn_of _ (by decide +kernel)) ggX2_pipeTold_X2_flows
set_option maxRecDepth 20000 in
theorem ggX2_pipeTold_X2_li : GoodIn wsX2_pipeTold wsX2_li := goodIn_r _ [16, 17, 27, 28, 29, 30, 31, 32] (by decide +kernel) (by decide +kernel)
set_option maxRecDepth 20000 in
theorem gX2_pipeTold_X2_li : GoodIn wsX2_pipeTold (wsV RX2 58 RX2 yX2_li wsX2_li) := goodIn_app (goodIn_of _ (by decide +kernel)) ggX2_pipeTold_X2_li
theorem dX2_pipeTold_0 : decode cX2_pipeTold 0 = .ok (.iload_n 2, 1) := by decide +kernel
theorem dX2_pipeTold_1 : decode cX2_pipeTold 1 = .ok (.bipush 8, 2) := by decide +kernel
theorem dX2_pipeTold_3 : decode cX2_pipeTold 3 = .ok (.if_icmp .ne 11, 3) := by decide +kernel
theorem dX2_pipeTold_6 : decode cX2_pipeTold 6 = .ok (.aload_n 0, 1) := by decide +kernel
theorem dX2_pipeTold_7 : decode cX2_pipeTold 7 = .ok (.iload_n 1, 1) := by decide +kernel
theorem dX2_pipeTold_8 : decode cX2_pipeTold 8 = .ok (.invokevirtual 75, 3) := by decide +kernel
theorem dX2_pipeTold_11 : decode cX2_pipeTold 11 = .ok (.goto 9, 3) := by decide +kernel
theorem dX2_pipeTold_14 : decode cX2_pipeTold 14 = .ok (.aload_n 0, 1) := by decide +kernel
theorem dX2_pipeTold_15 : decode cX2_pipeTold 15 = .ok (.iload_n 1, 1) := by decide +kernel
theorem dX2_pipeTold_16 : decode cX2_pipeTold 16 = .ok (.iload_n 2, 1) := by decide +kernel
theorem dX2_pipeTold_17 : decode cX2_pipeTold 17 = .ok (.invokevirtual 58, 3) := by decide +kernel
theorem dX2_pipeTold_20 : decode cX2_pipeTold 20 = .ok (.ireturn, 1) := by decide +kernel
set_option maxRecDepth 20000 in
theorem ggX2_pipe_X2_isPipe : GoodIn wsX2_pipe wsX2_isPipe := goodIn_r _ [6, 7, 8, 9, 5, 10, 44, 45, 46, 47, 48, 49] (by decide +kernel) (by decide +kernel)
set_option maxRecDepth 20000 in
theorem gX2_pipe_X2_isPipe : GoodIn wsX2_pipe (wsV RX2 55 RX2 yX2_isPipe wsX2_isPipe) := goodIn_app (goodIn_of _ (by decide +kernel)) ggX2_pipe_X2_isPipe
set_option maxRecDepth 20000 in
theorem ggX2_pipe_X2_isIn : GoodIn wsX2_pipe wsX2_isIn := goodIn_r _ [10] (by decide +kernel) (by decide +kernel)
set_option maxRecDepth 20000 in
theorem gX2_pipe_X2_isIn : GoodIn wsX2_pipe (va_wsS RX2 26 yX2_isIn wsX2_isIn) := goodIn_app (goodIn_of _ (by decide +kernel)) ggX2_pipe_X2_isIn
set_option maxRecDepth 20000 in
theorem ggX2_pipe_X2_pipeTold : GoodIn wsX2_pipe wsX2_pipeTold := goodIn_r _ [14, 15, 16, 17, 5, 18, 19, 20, 21, 22, 23, 24, 25, 26, 27, 28, 29, 30, 31, 32, 33, 34, 35, 36, 37, 38, 39, 44, 45, 46, 47, 48, 49] (by decide +kernel) (by decide +kernel)
set_option maxRecDepth 20000 in
theorem gX2_pipe_X2_pipeTold : GoodIn wsX2_pipe (wsV RX2 78 RX2 yX2_pipeTold wsX2_pipeTold) := goodIn_app (goodIn_of _ (by decide +kernel)) ggX2_pipe_X2_pipeTold
set_option maxRecDepth 20000 in
theorem ggX2_pipe_X2_fail : GoodIn wsX2_pipe wsX2_fail := goodIn_r _ [43, 1, 44, 45, 46, 47, 48, 49] (by decide +kernel) (by decide +kernel)
set_option maxRecDepth 20000 in
theorem gX2_pipe_X2_fail : GoodIn wsX2_pipe (wsV RX2 33 RX2 yX2_fail wsX2_fail) := goodIn_app (goodIn_of _ (by decide +kernel)) ggX2_pipe_X2_fail
theorem dX2_pipe_0 : decode cX2_pipe 0 = .ok (.aload_n 0, 1) := by decide +kernel
theorem dX2_pipe_1 : decode cX2_pipe 1 = .ok (.iconst 0, 1) := by decide +kernel
theorem dX2_pipe_2 : decode cX2_pipe 2 = .ok (.putfield 19, 3) := by decide +kernel
theorem dX2_pipe_5 : decode cX2_pipe 5 = .ok (.aload_n 0, 1) := by decide +kernel
theorem dX2_pipe_6 : decode cX2_pipe 6 = .ok (.iload_n 1, 1) := by decide +kernel
theorem dX2_pipe_7 : decode cX2_pipe 7 = .ok (.invokevirtual 55, 3) := by decide +kernel
theorem dX2_pipe_10 : decode cX2_pipe 10 = .ok (.ifCond .eq 22, 3) := by decide +kernel
theorem dX2_pipe_13 : decode cX2_pipe 13 = .ok (.iload_n 2, 1) := by decide +kernel
theorem dX2_pipe_14 : decode cX2_pipe 14 = .ok (.iconst 0, 1) := by decide +kernel
theorem dX2_pipe_15 : decode cX2_pipe 15 = .ok (.bipush 8, 2) := by decide +kernel
theorem dX2_pipe_17 : decode cX2_pipe 17 = .ok (.invokestatic 26, 3) := by decide +kernel
theorem dX2_pipe_20 : decode cX2_pipe 20 = .ok (.ifCond .eq 12, 3) := by decide +kernel
theorem dX2_pipe_23 : decode cX2_pipe 23 = .ok (.aload_n 0, 1) := by decide +kernel
theorem dX2_pipe_24 : decode cX2_pipe 24 = .ok (.iload_n 1, 1) := by decide +kernel
theorem dX2_pipe_25 : decode cX2_pipe 25 = .ok (.iload_n 2, 1) := by decide +kernel
theorem dX2_pipe_26 : decode cX2_pipe 26 = .ok (.invokevirtual 78, 3) := by decide +kernel
theorem dX2_pipe_29 : decode cX2_pipe 29 = .ok (.goto 8, 3) := by decide +kernel
theorem dX2_pipe_32 : decode cX2_pipe 32 = .ok (.aload_n 0, 1) := by decide +kernel
theorem dX2_pipe_33 : decode cX2_pipe 33 = .ok (.iconst 1, 1) := by decide +kernel
theorem dX2_pipe_34 : decode cX2_pipe 34 = .ok (.invokevirtual 33, 3) := by decide +kernel
theorem dX2_pipe_37 : decode cX2_pipe 37 = .ok (.ireturn, 1) := by decide +kernel
set_option maxRecDepth 20000 in
theorem ggX2_all_X2_la : GoodIn wsX2_all wsX2_la := goodIn_r _ [6, 7, 8, 9, 10, 11, 12, 13] (by decide +kernel) (by decide +kernel)
set_option maxRecDepth 20000 in
theorem gX2_all_X2_la : GoodIn wsX2_all (wsV RX2 47 RX2 yX2_la wsX2_la) := goodIn_app (goodIn_of _ (by decide +kernel)) ggX2_all_X2_la
theorem dX2_all_0 : decode cX2_all 0 = .ok (.iconst 0, 1) := by decide +kernel
theorem dX2_all_1 : decode cX2_all 1 = .ok (.istore_n 2, 1) := by decide +kernel
theorem dX2_all_2 : decode cX2_all 2 = .ok (.iconst 0, 1) := by decide +kernel
theorem dX2_all_3 : decode cX2_all 3 = .ok (.istore_n 3, 1) := by decide +kernel
theorem dX2_all_4 : decode cX2_all 4 = .ok (.iload_n 3, 1) := by decide +kernel
theorem dX2_all_5 : decode cX2_all 5 = .ok (.aload_n 0, 1) := by decide +kernel
theorem dX2_all_6 : decode cX2_all 6 = .ok (.getfield 23, 3) := by decide +kernel
theorem dX2_all_9 : decode cX2_all 9 = .ok (.if_icmp .ge 18, 3) := by decide +kernel
theorem dX2_all_12 : decode cX2_all 12 = .ok (.iload_n 2, 1) := by decide +kernel
theorem dX2_all_13 : decode cX2_all 13 = .ok (.aload_n 0, 1) := by decide +kernel
theorem dX2_all_14 : decode cX2_all 14 = .ok (.iload_n 3, 1) := by decide +kernel
theorem dX2_all_15 : decode cX2_all 15 = .ok (.iload_n 1, 1) := by decide +kernel
theorem dX2_all_16 : decode cX2_all 16 = .ok (.invokevirtual 47, 3) := by decide +kernel
theorem dX2_all_19 : decode cX2_all 19 = .ok (.iadd, 1) := by decide +kernel
theorem dX2_all_20 : decode cX2_all 20 = .ok (.istore_n 2, 1) := by decide +kernel
theorem dX2_all_21 : decode cX2_all 21 = .ok (.iinc 3 1, 3) := by decide +kernel
theorem dX2_all_24 : decode cX2_all 24 = .ok (.goto (-20), 3) := by decide +kernel
theorem dX2_all_27 : decode cX2_all 27 = .ok (.iload_n 2, 1) := by decide +kernel
theorem dX2_all_28 : decode cX2_all 28 = .ok (.ireturn, 1) := by decide +kernel
set_option maxRecDepth 20000 in
theorem ggX2_allPipes_X2_li : GoodIn wsX2_allPipes wsX2_li := goodIn_r _ [6, 7, 8, 9, 10, 11, 12, 13] (by decide +kernel) (by decide +kernel)
set_option maxRecDepth 20000 in
theorem gX2_allPipes_X2_li : GoodIn wsX2_allPipes (wsV RX2 58 RX2 yX2_li wsX2_li) := goodIn_app (goodIn_of _ (by decide +kernel)) ggX2_allPipes_X2_li
theorem dX2_allPipes_0 : decode cX2_allPipes 0 = .ok (.iconst 0, 1) := by decide +kernel
theorem dX2_allPipes_1 : decode cX2_allPipes 1 = .ok (.istore_n 2, 1) := by decide +kernel
theorem dX2_allPipes_2 : decode cX2_allPipes 2 = .ok (.iconst 0, 1) := by decide +kernel
theorem dX2_allPipes_3 : decode cX2_allPipes 3 = .ok (.istore_n 3, 1) := by decide +kernel
theorem dX2_allPipes_4 : decode cX2_allPipes 4 = .ok (.iload_n 3, 1) := by decide +kernel
theorem dX2_allPipes_5 : decode cX2_allPipes 5 = .ok (.aload_n 0, 1) := by decide +kernel
theorem dX2_allPipes_6 : decode cX2_allPipes 6 = .ok (.getfield 30, 3) := by decide +kernel
theorem dX2_allPipes_9 : decode cX2_allPipes 9 = .ok (.if_icmp .ge 18, 3) := by decide +kernel
theorem dX2_allPipes_12 : decode cX2_allPipes 12 = .ok (.iload_n 2, 1) := by decide +kernel
theorem dX2_allPipes_13 : decode cX2_allPipes 13 = .ok (.aload_n 0, 1) := by decide +kernel
theorem dX2_allPipes_14 : decode cX2_allPipes 14 = .ok (.iload_n 3, 1) := by decide +kernel
theorem dX2_allPipes_15 : decode cX2_allPipes 15 = .ok (.iload_n 1, 1) := by decide +kernel
theorem dX2_allPipes_16 : decode cX2_allPipes 16 = .ok (.invokevirtual 58, 3) := by decide +kernel
theorem dX2_allPipes_19 : decode cX2_allPipes 19 = .ok (.iadd, 1) := by decide +kernel
theorem dX2_allPipes_20 : decode cX2_allPipes 20 = .ok (.istore_n 2, 1) := by decide +kernel
theorem dX2_allPipes_21 : decode cX2_allPipes 21 = .ok (.iinc 3 1, 3) := by decide +kernel
theorem dX2_allPipes_24 : decode cX2_allPipes 24 = .ok (.goto (-20), 3) := by decide +kernel
theorem dX2_allPipes_27 : decode cX2_allPipes 27 = .ok (.iload_n 2, 1) := by decide +kernel
theorem dX2_allPipes_28 : decode cX2_allPipes 28 = .ok (.ireturn, 1) := by decide +kernel
set_option maxRecDepth 20000 in
theorem ggX2_counted_X2_all : GoodIn wsX2_counted wsX2_all := goodIn_r _ [8, 2, 9, 10, 11, 7, 12, 13, 23, 24, 25, 26, 27, 28] (by decide +kernel) (by decide +kernel)
set_option maxRecDepth 20000 in
theorem gX2_counted_X2_all : GoodIn wsX2_counted (wsV RX2 81 RX2 yX2_all wsX2_all) := goodIn_app (goodIn_of _ (by decide +kernel)) ggX2_counted_X2_all
set_option maxRecDepth 20000 in
theorem ggX2_counted_X2_allPipes : GoodIn wsX2_counted wsX2_allPipes := goodIn_r _ [17, 3, 18, 19, 20, 7, 21, 22, 23, 24, 25, 26, 27, 28] (by decide +kernel) (by decide +kernel)
set_option maxRecDepth 20000 in
theorem gX2_counted_X2_allPipes : GoodIn wsX2_counted (wsV RX2 84 RX2 yX2_allPipes wsX2_allPipes) := goodIn_app (goodIn_of _ (by decide +kernel)) ggX2_counted_X2_allPipes
set_option maxRecDepth 20000 in
theorem ggX2_counted_X2_la : GoodIn wsX2_counted wsX2_la := goodIn_r _ [12, 13, 23, 24, 25, 26, 27, 28] (by decide +kernel) (by decide +kernel)
set_option maxRecDepth 20000 in
theorem gX2_counted_X2_la : GoodIn wsX2_counted (wsV RX2 47 RX2 yX2_la wsX2_la) := goodIn_app (goodIn_of _ (by decide +kernel)) ggX2_counted_X2_la
theorem dX2_counted_0 : decode cX2_counted 0 = .ok (.iconst 0, 1) := by decide +kernel
theorem dX2_counted_1 : decode cX2_counted 1 = .ok (.istore_n 2, 1) := by decide +kernel
theorem dX2_counted_2 : decode cX2_counted 2 = .ok (.iload_n 1, 1) := by decide +kernel
theorem dX2_counted_3 : decode cX2_counted 3 = .ok (.tableswitch 95 0 7 #[45, 52, 57, 62, 68, 74, 81, 88], 45) := by decide +kernel
theorem dX2_counted_48 : decode cX2_counted 48 = .ok (.aload_n 0, 1) := by decide +kernel
theorem dX2_counted_49 : decode cX2_counted 49 = .ok (.getfield 16, 3) := by decide +kernel
theorem dX2_counted_52 : decode cX2_counted 52 = .ok (.iconst 0, 1) := by decide +kernel
theorem dX2_counted_53 : decode cX2_counted 53 = .ok (.iaload, 1) := by decide +kernel
theorem dX2_counted_54 : decode cX2_counted 54 = .ok (.ireturn, 1) := by decide +kernel
theorem dX2_counted_55 : decode cX2_counted 55 = .ok (.aload_n 0, 1) := by decide +kernel
theorem dX2_counted_56 : decode cX2_counted 56 = .ok (.getfield 23, 3) := by decide +kernel
theorem dX2_counted_59 : decode cX2_counted 59 = .ok (.ireturn, 1) := by decide +kernel
theorem dX2_counted_60 : decode cX2_counted 60 = .ok (.aload_n 0, 1) := by decide +kernel
theorem dX2_counted_61 : decode cX2_counted 61 = .ok (.getfield 30, 3) := by decide +kernel
theorem dX2_counted_64 : decode cX2_counted 64 = .ok (.ireturn, 1) := by decide +kernel
theorem dX2_counted_65 : decode cX2_counted 65 = .ok (.aload_n 0, 1) := by decide +kernel
theorem dX2_counted_66 : decode cX2_counted 66 = .ok (.iconst 3, 1) := by decide +kernel
theorem dX2_counted_67 : decode cX2_counted 67 = .ok (.invokevirtual 81, 3) := by decide +kernel
theorem dX2_counted_70 : decode cX2_counted 70 = .ok (.ireturn, 1) := by decide +kernel
theorem dX2_counted_71 : decode cX2_counted 71 = .ok (.aload_n 0, 1) := by decide +kernel
theorem dX2_counted_72 : decode cX2_counted 72 = .ok (.iconst 4, 1) := by decide +kernel
theorem dX2_counted_73 : decode cX2_counted 73 = .ok (.invokevirtual 81, 3) := by decide +kernel
theorem dX2_counted_76 : decode cX2_counted 76 = .ok (.ireturn, 1) := by decide +kernel
theorem dX2_counted_77 : decode cX2_counted 77 = .ok (.aload_n 0, 1) := by decide +kernel
theorem dX2_counted_78 : decode cX2_counted 78 = .ok (.bipush 6, 2) := by decide +kernel
theorem dX2_counted_80 : decode cX2_counted 80 = .ok (.invokevirtual 81, 3) := by decide +kernel
theorem dX2_counted_83 : decode cX2_counted 83 = .ok (.ireturn, 1) := by decide +kernel
theorem dX2_counted_84 : decode cX2_counted 84 = .ok (.aload_n 0, 1) := by decide +kernel
theorem dX2_counted_85 : decode cX2_counted 85 = .ok (.bipush 7, 2) := by decide +kernel
theorem dX2_counted_87 : decode cX2_counted 87 = .ok (.invokevirtual 84, 3) := by decide +kernel
theorem dX2_counted_90 : decode cX2_counted 90 = .ok (.ireturn, 1) := by decide +kernel
theorem dX2_counted_91 : decode cX2_counted 91 = .ok (.aload_n 0, 1) := by decide +kernel
theorem dX2_counted_92 : decode cX2_counted 92 = .ok (.bipush 7, 2) := by decide +kernel
theorem dX2_counted_94 : decode cX2_counted 94 = .ok (.invokevirtual 81, 3) := by decide +kernel
theorem dX2_counted_97 : decode cX2_counted 97 = .ok (.ireturn, 1) := by decide +kernel
theorem dX2_counted_98 : decode cX2_counted 98 = .ok (.iconst 0, 1) := by decide +kernel
theorem dX2_counted_99 : decode cX2_counted 99 = .ok (.istore_n 3, 1) := by decide +kernel
theorem dX2_counted_100 : decode cX2_counted 100 = .ok (.iload_n 3, 1) := by decide +kernel
theorem dX2_counted_101 : decode cX2_counted 101 = .ok (.aload_n 0, 1) := by decide +kernel
theorem dX2_counted_102 : decode cX2_counted 102 = .ok (.getfield 23, 3) := by decide +kernel
theorem dX2_counted_105 : decode cX2_counted 105 = .ok (.if_icmp .ge 32, 3) := by decide +kernel
theorem dX2_counted_108 : decode cX2_counted 108 = .ok (.iload_n 2, 1) := by decide +kernel
theorem dX2_counted_109 : decode cX2_counted 109 = .ok (.aload_n 0, 1) := by decide +kernel
theorem dX2_counted_110 : decode cX2_counted 110 = .ok (.iload_n 3, 1) := by decide +kernel
theorem dX2_counted_111 : decode cX2_counted 111 = .ok (.iconst 5, 1) := by decide +kernel
theorem dX2_counted_112 : decode cX2_counted 112 = .ok (.invokevirtual 47, 3) := by decide +kernel
theorem dX2_counted_115 : decode cX2_counted 115 = .ok (.aload_n 0, 1) := by decide +kernel
theorem dX2_counted_116 : decode cX2_counted 116 = .ok (.iload_n 3, 1) := by decide +kernel
theorem dX2_counted_117 : decode cX2_counted 117 = .ok (.iconst 2, 1) := by decide +kernel
theorem dX2_counted_118 : decode cX2_counted 118 = .ok (.invokevirtual 47, 3) := by decide +kernel
theorem dX2_counted_121 : decode cX2_counted 121 = .ok (.if_icmp .ge 7, 3) := by decide +kernel
theorem dX2_counted_124 : decode cX2_counted 124 = .ok (.iconst 1, 1) := by decide +kernel
theorem dX2_counted_125 : decode cX2_counted 125 = .ok (.goto 4, 3) := by decide +kernel
theorem dX2_counted_128 : decode cX2_counted 128 = .ok (.iconst 0, 1) := by decide +kernel
theorem dX2_counted_129 : decode cX2_counted 129 = .ok (.iadd, 1) := by decide +kernel
theorem dX2_counted_130 : decode cX2_counted 130 = .ok (.istore_n 2, 1) := by decide +kernel
theorem dX2_counted_131 : decode cX2_counted 131 = .ok (.iinc 3 1, 3) := by decide +kernel
theorem dX2_counted_134 : decode cX2_counted 134 = .ok (.goto (-34), 3) := by decide +kernel
theorem dX2_counted_137 : decode cX2_counted 137 = .ok (.iload_n 2, 1) := by decide +kernel
theorem dX2_counted_138 : decode cX2_counted 138 = .ok (.ireturn, 1) := by decide +kernel
set_option maxRecDepth 20000 in
theorem ggX2_count_X2_isIn : GoodIn wsX2_count wsX2_isIn := goodIn_r _ [5] (by decide +kernel) (by decide +kernel)
set_option maxRecDepth 20000 in
theorem gX2_count_X2_isIn : GoodIn wsX2_count (va_wsS RX2 26 yX2_isIn wsX2_isIn) := goodIn_app (goodIn_of _ (by decide +kernel)) ggX2_count_X2_isIn
set_option maxRecDepth 20000 in
theorem ggX2_count_X2_counted : GoodIn wsX2_count wsX2_counted := goodIn_r _ [9, 10, 11, 12, 13, 14, 15, 4, 16, 17, 18, 19, 20, 21, 22, 23, 24, 25, 26, 27, 28, 29, 30, 35, 36, 37, 38, 39, 40] (by decide +kernel) (by decide +kernel)
set_option maxRecDepth 20000 in
theorem gX2_count_X2_counted : GoodIn wsX2_count (wsV RX2 87 RX2 yX2_counted wsX2_counted) := goodIn_app (goodIn_of _ (by decide +kernel)) ggX2_count_X2_counted
set_option maxRecDepth 20000 in
theorem ggX2_count_X2_fail : GoodIn wsX2_count wsX2_fail := goodIn_r _ [34, 1, 35, 36, 37, 38, 39, 40] (by decide +kernel) (by decide +kernel)
set_option maxRecDepth 20000 in
theorem gX2_count_X2_fail : GoodIn wsX2_count (wsV RX2 33 RX2 yX2_fail wsX2_fail) := goodIn_app (goodIn_of _ (by decide +kernel)) ggX2_count_X2_fail
theorem dX2_count_0 : decode cX2_count 0 = .ok (.aload_n 0, 1) := by decide +kernel
theorem dX2_count_1 : decode cX2_count 1 = .ok (.iconst 0, 1) := by decide +kernel
theorem dX2_count_2 : decode cX2_count 2 = .ok (.putfield 19, 3) := by decide +kernel
theorem dX2_count_5 : decode cX2_count 5 = .ok (.iload_n 1, 1) := by decide +kernel
theorem dX2_count_6 : decode cX2_count 6 = .ok (.iconst 0, 1) := by decide +kernel
theorem dX2_count_7 : decode cX2_count 7 = .ok (.bipush 8, 2) := by decide +kernel
theorem dX2_count_9 : decode cX2_count 9 = .ok (.invokestatic 26, 3) := by decide +kernel
theorem dX2_count_12 : decode cX2_count 12 = .ok (.ifCond .eq 11, 3) := by decide +kernel
theorem dX2_count_15 : decode cX2_count 15 = .ok (.aload_n 0, 1) := by decide +kernel
theorem dX2_count_16 : decode cX2_count 16 = .ok (.iload_n 1, 1) := by decide +kernel
theorem dX2_count_17 : decode cX2_count 17 = .ok (.invokevirtual 87, 3) := by decide +kernel
theorem dX2_count_20 : decode cX2_count 20 = .ok (.goto 8, 3) := by decide +kernel
theorem dX2_count_23 : decode cX2_count 23 = .ok (.aload_n 0, 1) := by decide +kernel
theorem dX2_count_24 : decode cX2_count 24 = .ok (.iconst 1, 1) := by decide +kernel
theorem dX2_count_25 : decode cX2_count 25 = .ok (.invokevirtual 33, 3) := by decide +kernel
theorem dX2_count_28 : decode cX2_count 28 = .ok (.ireturn, 1) := by decide +kernel
set_option maxRecDepth 20000 in
theorem ggX2_reach_X2_isTank : GoodIn wsX2_reach wsX2_isTank := goodIn_r _ [8, 2, 9, 10, 7, 11, 21, 22, 23, 24, 25, 26] (by decide +kernel) (by decide +kernel)
set_option maxRecDepth 20000 in
theorem gX2_reach_X2_isTank : GoodIn wsX2_reach (wsV RX2 43 RX2 yX2_isTank wsX2_isTank) := goodIn_app (goodIn_of _ (by decide +kernel)) ggX2_reach_X2_isTank
set_option maxRecDepth 20000 in
theorem ggX2_reach_X2_fail : GoodIn wsX2_reach wsX2_fail := goodIn_r _ [15, 1, 21, 22, 23, 24, 25, 26] (by decide +kernel) (by decide +kernel)
set_option maxRecDepth 20000 in
theorem gX2_reach_X2_fail : GoodIn wsX2_reach (wsV RX2 33 RX2 yX2_fail wsX2_fail) := goodIn_app (goodIn_of _ (by decide +kernel)) ggX2_reach_X2_fail
set_option maxRecDepth 20000 in
theorem ggX2_reach_X2_li : GoodIn wsX2_reach wsX2_li := goodIn_r _ [19, 20, 21, 22, 23, 24, 25, 26] (by decide +kernel) (by decide +kernel)
set_option maxRecDepth 20000 in
theorem gX2_reach_X2_li : GoodIn wsX2_reach (wsV RX2 58 RX2 yX2_li wsX2_li) := goodIn_app (goodIn_of _ (by decide +kernel)) ggX2_reach_X2_li
theorem dX2_reach_0 : decode cX2_reach 0 = .ok (.aload_n 0, 1) := by decide +kernel
theorem dX2_reach_1 : decode cX2_reach 1 = .ok (.iconst 0, 1) := by decide +kernel
theorem dX2_reach_2 : decode cX2_reach 2 = .ok (.putfield 19, 3) := by decide +kernel
theorem dX2_reach_5 : decode cX2_reach 5 = .ok (.aload_n 0, 1) := by decide +kernel
theorem dX2_reach_6 : decode cX2_reach 6 = .ok (.iload_n 1, 1) := by decide +kernel
theorem dX2_reach_7 : decode cX2_reach 7 = .ok (.invokevirtual 43, 3) := by decide +kernel
theorem dX2_reach_10 : decode cX2_reach 10 = .ok (.ifCond .ne 9, 3) := by decide +kernel
theorem dX2_reach_13 : decode cX2_reach 13 = .ok (.aload_n 0, 1) := by decide +kernel
theorem dX2_reach_14 : decode cX2_reach 14 = .ok (.iconst 1, 1) := by decide +kernel
theorem dX2_reach_15 : decode cX2_reach 15 = .ok (.invokevirtual 33, 3) := by decide +kernel
theorem dX2_reach_18 : decode cX2_reach 18 = .ok (.ireturn, 1) := by decide +kernel
theorem dX2_reach_19 : decode cX2_reach 19 = .ok (.iconst 0, 1) := by decide +kernel
theorem dX2_reach_20 : decode cX2_reach 20 = .ok (.istore_n 2, 1) := by decide +kernel
theorem dX2_reach_21 : decode cX2_reach 21 = .ok (.iconst 0, 1) := by decide +kernel
theorem dX2_reach_22 : decode cX2_reach 22 = .ok (.istore_n 3, 1) := by decide +kernel
theorem dX2_reach_23 : decode cX2_reach 23 = .ok (.iload_n 3, 1) := by decide +kernel
theorem dX2_reach_24 : decode cX2_reach 24 = .ok (.aload_n 0, 1) := by decide +kernel
theorem dX2_reach_25 : decode cX2_reach 25 = .ok (.getfield 23, 3) := by decide +kernel
theorem dX2_reach_28 : decode cX2_reach 28 = .ok (.if_icmp .gt 65, 3) := by decide +kernel
theorem dX2_reach_31 : decode cX2_reach 31 = .ok (.iconst 0, 1) := by decide +kernel
theorem dX2_reach_32 : decode cX2_reach 32 = .ok (.istore 4, 2) := by decide +kernel
theorem dX2_reach_34 : decode cX2_reach 34 = .ok (.iload 4, 2) := by decide +kernel
theorem dX2_reach_36 : decode cX2_reach 36 = .ok (.aload_n 0, 1) := by decide +kernel
theorem dX2_reach_37 : decode cX2_reach 37 = .ok (.getfield 30, 3) := by decide +kernel
theorem dX2_reach_40 : decode cX2_reach 40 = .ok (.if_icmp .ge 47, 3) := by decide +kernel
theorem dX2_reach_43 : decode cX2_reach 43 = .ok (.aload_n 0, 1) := by decide +kernel
theorem dX2_reach_44 : decode cX2_reach 44 = .ok (.iload 4, 2) := by decide +kernel
theorem dX2_reach_46 : decode cX2_reach 46 = .ok (.iconst 0, 1) := by decide +kernel
theorem dX2_reach_47 : decode cX2_reach 47 = .ok (.invokevirtual 58, 3) := by decide +kernel
theorem dX2_reach_50 : decode cX2_reach 50 = .ok (.iload_n 1, 1) := by decide +kernel
theorem dX2_reach_51 : decode cX2_reach 51 = .ok (.if_icmp .eq 18, 3) := by decide +kernel
theorem dX2_reach_54 : decode cX2_reach 54 = .ok (.iload_n 2, 1) := by decide +kernel
theorem dX2_reach_55 : decode cX2_reach 55 = .ok (.aload_n 0, 1) := by decide +kernel
theorem dX2_reach_56 : decode cX2_reach 56 = .ok (.iload 4, 2) := by decide +kernel
theorem dX2_reach_58 : decode cX2_reach 58 = .ok (.iconst 0, 1) := by decide +kernel
theorem dX2_reach_59 : decode cX2_reach 59 = .ok (.invokevirtual 58, 3) := by decide +kernel
theorem dX2_reach_62 : decode cX2_reach 62 = .ok (.ishr, 1) := by decide +kernel
theorem dX2_reach_63 : decode cX2_reach 63 = .ok (.iconst 1, 1) := by decide +kernel
theorem dX2_reach_64 : decode cX2_reach 64 = .ok (.iand, 1) := by decide +kernel
theorem dX2_reach_65 : decode cX2_reach 65 = .ok (.iconst 1, 1) := by decide +kernel
theorem dX2_reach_66 : decode cX2_reach 66 = .ok (.if_icmp .ne 15, 3) := by decide +kernel
theorem dX2_reach_69 : decode cX2_reach 69 = .ok (.iload_n 2, 1) := by decide +kernel
theorem dX2_reach_70 : decode cX2_reach 70 = .ok (.iconst 1, 1) := by decide +kernel
theorem dX2_reach_71 : decode cX2_reach 71 = .ok (.aload_n 0, 1) := by decide +kernel
theorem dX2_reach_72 : decode cX2_reach 72 = .ok (.iload 4, 2) := by decide +kernel
theorem dX2_reach_74 : decode cX2_reach 74 = .ok (.iconst 1, 1) := by decide +kernel
theorem dX2_reach_75 : decode cX2_reach 75 = .ok (.invokevirtual 58, 3) := by decide +kernel
theorem dX2_reach_78 : decode cX2_reach 78 = .ok (.ishl, 1) := by decide +kernel
theorem dX2_reach_79 : decode cX2_reach 79 = .ok (.ior, 1) := by decide +kernel
theorem dX2_reach_80 : decode cX2_reach 80 = .ok (.istore_n 2, 1) := by decide +kernel
theorem dX2_reach_81 : decode cX2_reach 81 = .ok (.iinc 4 1, 3) := by decide +kernel
theorem dX2_reach_84 : decode cX2_reach 84 = .ok (.goto (-50), 3) := by decide +kernel
theorem dX2_reach_87 : decode cX2_reach 87 = .ok (.iinc 3 1, 3) := by decide +kernel
theorem dX2_reach_90 : decode cX2_reach 90 = .ok (.goto (-67), 3) := by decide +kernel
theorem dX2_reach_93 : decode cX2_reach 93 = .ok (.iload_n 2, 1) := by decide +kernel
theorem dX2_reach_94 : decode cX2_reach 94 = .ok (.ireturn, 1) := by decide +kernel
set_option maxRecDepth 20000 in
theorem ggX2_suspect_X2_li : GoodIn wsX2_suspect wsX2_li := goodIn_r _ [7, 8, 9, 10, 11, 12, 13, 14] (by decide +kernel) (by decide +kernel)
set_option maxRecDepth 20000 in
theorem gX2_suspect_X2_li : GoodIn wsX2_suspect (wsV RX2 58 RX2 yX2_li wsX2_li) := goodIn_app (goodIn_of _ (by decide +kernel)) ggX2_suspect_X2_li
theorem dX2_suspect_0 : decode cX2_suspect 0 = .ok (.aload_n 0, 1) := by decide +kernel
theorem dX2_suspect_1 : decode cX2_suspect 1 = .ok (.iconst 0, 1) := by decide +kernel
theorem dX2_suspect_2 : decode cX2_suspect 2 = .ok (.putfield 19, 3) := by decide +kernel
theorem dX2_suspect_5 : decode cX2_suspect 5 = .ok (.iconst (-1), 1) := by decide +kernel
theorem dX2_suspect_6 : decode cX2_suspect 6 = .ok (.istore_n 1, 1) := by decide +kernel
theorem dX2_suspect_7 : decode cX2_suspect 7 = .ok (.iconst 0, 1) := by decide +kernel
theorem dX2_suspect_8 : decode cX2_suspect 8 = .ok (.istore_n 2, 1) := by decide +kernel
theorem dX2_suspect_9 : decode cX2_suspect 9 = .ok (.iload_n 2, 1) := by decide +kernel
theorem dX2_suspect_10 : decode cX2_suspect 10 = .ok (.aload_n 0, 1) := by decide +kernel
theorem dX2_suspect_11 : decode cX2_suspect 11 = .ok (.getfield 30, 3) := by decide +kernel
theorem dX2_suspect_14 : decode cX2_suspect 14 = .ok (.if_icmp .ge 37, 3) := by decide +kernel
theorem dX2_suspect_17 : decode cX2_suspect 17 = .ok (.aload_n 0, 1) := by decide +kernel
theorem dX2_suspect_18 : decode cX2_suspect 18 = .ok (.iload_n 2, 1) := by decide +kernel
theorem dX2_suspect_19 : decode cX2_suspect 19 = .ok (.bipush 6, 2) := by decide +kernel
theorem dX2_suspect_21 : decode cX2_suspect 21 = .ok (.invokevirtual 58, 3) := by decide +kernel
theorem dX2_suspect_24 : decode cX2_suspect 24 = .ok (.iload_n 1, 1) := by decide +kernel
theorem dX2_suspect_25 : decode cX2_suspect 25 = .ok (.iconst (-1), 1) := by decide +kernel
theorem dX2_suspect_26 : decode cX2_suspect 26 = .ok (.if_icmp .ne 7, 3) := by decide +kernel
theorem dX2_suspect_29 : decode cX2_suspect 29 = .ok (.iconst 0, 1) := by decide +kernel
theorem dX2_suspect_30 : decode cX2_suspect 30 = .ok (.goto 10, 3) := by decide +kernel
theorem dX2_suspect_33 : decode cX2_suspect 33 = .ok (.aload_n 0, 1) := by decide +kernel
theorem dX2_suspect_34 : decode cX2_suspect 34 = .ok (.iload_n 1, 1) := by decide +kernel
theorem dX2_suspect_35 : decode cX2_suspect 35 = .ok (.bipush 6, 2) := by decide +kernel
theorem dX2_suspect_37 : decode cX2_suspect 37 = .ok (.invokevirtual 58, 3) := by decide +kernel
theorem dX2_suspect_40 : decode cX2_suspect 40 = .ok (.if_icmp .le 5, 3) := by decide +kernel
theorem dX2_suspect_43 : decode cX2_suspect 43 = .ok (.iload_n 2, 1) := by decide +kernel
theorem dX2_suspect_44 : decode cX2_suspect 44 = .ok (.istore_n 1, 1) := by decide +kernel
theorem dX2_suspect_45 : decode cX2_suspect 45 = .ok (.iinc 2 1, 3) := by decide +kernel
theorem dX2_suspect_48 : decode cX2_suspect 48 = .ok (.goto (-39), 3) := by decide +kernel
theorem dX2_suspect_51 : decode cX2_suspect 51 = .ok (.iload_n 1, 1) := by decide +kernel
theorem dX2_suspect_52 : decode cX2_suspect 52 = .ok (.ireturn, 1) := by decide +kernel
set_option maxRecDepth 20000 in
theorem ggX2_pour_X2_la : GoodIn wsX2_pour wsX2_la := goodIn_r _ [12, 13, 18, 19, 20, 21, 22, 23] (by decide +kernel) (by decide +kernel)
set_option maxRecDepth 20000 in
theorem gX2_pour_X2_la : GoodIn wsX2_pour (wsV RX2 47 RX2 yX2_la wsX2_la) := goodIn_app (goodIn_of _ (by decide +kernel)) ggX2_pour_X2_la
set_option maxRecDepth 20000 in
theorem ggX2_pour_X2_setTank : GoodIn wsX2_pour wsX2_setTank := goodIn_r _ [17, 13, 18, 19, 20, 21, 22, 23] (by decide +kernel) (by decide +kernel)
set_option maxRecDepth 20000 in
theorem gX2_pour_X2_setTank : GoodIn wsX2_pour (wsV RX2 51 RX2 yX2_setTank wsX2_setTank) := goodIn_app (goodIn_of _ (by decide +kernel)) ggX2_pour_X2_setTank
theorem dX2_pour_0 : decode cX2_pour 0 = .ok (.aload_n 0, 1) := by decide +kernel
theorem dX2_pour_1 : decode cX2_pour 1 = .ok (.iload_n 1, 1) := by decide +kernel
theorem dX2_pour_2 : decode cX2_pour 2 = .ok (.iconst 3, 1) := by decide +kernel
theorem dX2_pour_3 : decode cX2_pour 3 = .ok (.invokevirtual 47, 3) := by decide +kernel
theorem dX2_pour_6 : decode cX2_pour 6 = .ok (.iload_n 2, 1) := by decide +kernel
theorem dX2_pour_7 : decode cX2_pour 7 = .ok (.iadd, 1) := by decide +kernel
theorem dX2_pour_8 : decode cX2_pour 8 = .ok (.istore 4, 2) := by decide +kernel
theorem dX2_pour_10 : decode cX2_pour 10 = .ok (.aload_n 0, 1) := by decide +kernel
theorem dX2_pour_11 : decode cX2_pour 11 = .ok (.iload_n 1, 1) := by decide +kernel
theorem dX2_pour_12 : decode cX2_pour 12 = .ok (.bipush 7, 2) := by decide +kernel
theorem dX2_pour_14 : decode cX2_pour 14 = .ok (.aload_n 0, 1) := by decide +kernel
theorem dX2_pour_15 : decode cX2_pour 15 = .ok (.iload_n 1, 1) := by decide +kernel
theorem dX2_pour_16 : decode cX2_pour 16 = .ok (.bipush 7, 2) := by decide +kernel
theorem dX2_pour_18 : decode cX2_pour 18 = .ok (.invokevirtual 47, 3) := by decide +kernel
theorem dX2_pour_21 : decode cX2_pour 21 = .ok (.iconst 0, 1) := by decide +kernel
theorem dX2_pour_22 : decode cX2_pour 22 = .ok (.iload 4, 2) := by decide +kernel
theorem dX2_pour_24 : decode cX2_pour 24 = .ok (.sipush 200, 3) := by decide +kernel
theorem dX2_pour_27 : decode cX2_pour 27 = .ok (.isub, 1) := by decide +kernel
theorem dX2_pour_28 : decode cX2_pour 28 = .ok (.invokestatic 67, 3) := by decide +kernel
theorem dX2_pour_31 : decode cX2_pour 31 = .ok (.iadd, 1) := by decide +kernel
theorem dX2_pour_32 : decode cX2_pour 32 = .ok (.invokevirtual 51, 3) := by decide +kernel
theorem dX2_pour_35 : decode cX2_pour 35 = .ok (.aload_n 0, 1) := by decide +kernel
theorem dX2_pour_36 : decode cX2_pour 36 = .ok (.iload_n 1, 1) := by decide +kernel
theorem dX2_pour_37 : decode cX2_pour 37 = .ok (.iconst 3, 1) := by decide +kernel
theorem dX2_pour_38 : decode cX2_pour 38 = .ok (.sipush 200, 3) := by decide +kernel
theorem dX2_pour_41 : decode cX2_pour 41 = .ok (.iload 4, 2) := by decide +kernel
theorem dX2_pour_43 : decode cX2_pour 43 = .ok (.invokestatic 72, 3) := by decide +kernel
theorem dX2_pour_46 : decode cX2_pour 46 = .ok (.invokevirtual 51, 3) := by decide +kernel
theorem dX2_pour_49 : decode cX2_pour 49 = .ok (.aload_n 0, 1) := by decide +kernel
theorem dX2_pour_50 : decode cX2_pour 50 = .ok (.iload_n 1, 1) := by decide +kernel
theorem dX2_pour_51 : decode cX2_pour 51 = .ok (.iconst 4, 1) := by decide +kernel
theorem dX2_pour_52 : decode cX2_pour 52 = .ok (.bipush 99, 2) := by decide +kernel
theorem dX2_pour_54 : decode cX2_pour 54 = .ok (.aload_n 0, 1) := by decide +kernel
theorem dX2_pour_55 : decode cX2_pour 55 = .ok (.iload_n 1, 1) := by decide +kernel
theorem dX2_pour_56 : decode cX2_pour 56 = .ok (.iconst 4, 1) := by decide +kernel
theorem dX2_pour_57 : decode cX2_pour 57 = .ok (.invokevirtual 47, 3) := by decide +kernel
theorem dX2_pour_60 : decode cX2_pour 60 = .ok (.iload_n 3, 1) := by decide +kernel
theorem dX2_pour_61 : decode cX2_pour 61 = .ok (.iadd, 1) := by decide +kernel
theorem dX2_pour_62 : decode cX2_pour 62 = .ok (.invokestatic 72, 3) := by decide +kernel
theorem dX2_pour_65 : decode cX2_pour 65 = .ok (.invokevirtual 51, 3) := by decide +kernel
theorem dX2_pour_68 : decode cX2_pour 68 = .ok (.return_, 1) := by decide +kernel
set_option maxRecDepth 20000 in
theorem ggX2_flow_X2_flows : GoodIn wsX2_flow wsX2_flows := goodIn_r _ [9, 10, 11, 3, 12, 1, 2, 4, 13, 14, 15, 8, 16, 17, 18, 19, 20, 21, 22, 23, 24, 25, 26, 39, 40, 41, 42, 43, 44] (by decide +kernel) (by decide +kernel)
set_option maxRecDepth 20000 in
theorem gX2_flow_X2_flows : GoodIn wsX2_flow (wsV RX2 75 RX2 yX2_flows wsX2_flows) := goodIn_app (goodIn_of _ (by decide +kernel)) ggX2_flow_X2_flows
set_option maxRecDepth 20000 in
theorem ggX2_flow_X2_li : GoodIn wsX2_flow wsX2_li := goodIn_r _ [16, 17, 39, 40, 41, 42, 43, 44] (by decide +kernel) (by decide +kernel)
set_option maxRecDepth 20000 in
theorem gX2_flow_X2_li : GoodIn wsX2_flow (wsV RX2 58 RX2 yX2_li wsX2_li) := goodIn_app (goodIn_of _ (by decide +kernel)) ggX2_flow_X2_li
set_option maxRecDepth 20000 in
theorem ggX2_flow_X2_setPipe : GoodIn wsX2_flow wsX2_setPipe := goodIn_r _ [30, 17, 39, 40, 41, 42, 43, 44] (by decide +kernel) (by decide +kernel)
set_option maxRecDepth 20000 in
theorem gX2_flow_X2_setPipe : GoodIn wsX2_flow (wsV RX2 61 RX2 yX2_setPipe wsX2_setPipe) := goodIn_app (goodIn_of _ (by decide +kernel)) ggX2_flow_X2_setPipe
set_option maxRecDepth 20000 in
theorem ggX2_flow_X2_la : GoodIn wsX2_flow wsX2_la := goodIn_r _ [25, 26, 39, 40, 41, 42, 43, 44] (by decide +kernel) (by decide +kernel)
set_option maxRecDepth 20000 in
theorem gX2_flow_X2_la : GoodIn wsX2_flow (wsV RX2 47 RX2 yX2_la wsX2_la) := goodIn_app (goodIn_of _ (by decide +kernel)) ggX2_flow_X2_la
set_option maxRecDepth 20000 in
theorem ggX2_flow_X2_setTank : GoodIn wsX2_flow wsX2_setTank := goodIn_r _ [34, 26, 39, 40, 41, 42, 43, 44] (by decide +kernel) (by decide +kernel)
set_option maxRecDepth 20000 in
theorem gX2_flow_X2_setTank : GoodIn wsX2_flow (wsV RX2 51 RX2 yX2_setTank wsX2_setTank) := goodIn_app (goodIn_of _ (by decide +kernel)) ggX2_flow_X2_setTank
set_option maxRecDepth 20000 in
theorem ggX2_flow_X2_pour : GoodIn wsX2_flow wsX2_pour := goodIn_r _ [38, 10, 11, 3, 12, 1, 2, 4, 22, 23, 24, 8, 25, 26, 31, 32, 33, 34, 39, 40, 41, 42, 43, 44] (by decide +kernel) (by decide +kernel)
set_option maxRecDepth 20000 in
theorem gX2_flow_X2_pour : GoodIn wsX2_flow (wsV RX2 90 RX2 yX2_pour wsX2_pour) := goodIn_app (goodIn_of _ (by decide +kernel)) ggX2_flow_X2_pour
theorem dX2_flow_0 : decode cX2_flow 0 = .ok (.aload_n 0, 1) := by decide +kernel
theorem dX2_flow_1 : decode cX2_flow 1 = .ok (.iload_n 1, 1) := by decide +kernel
theorem dX2_flow_2 : decode cX2_flow 2 = .ok (.invokevirtual 75, 3) := by decide +kernel
theorem dX2_flow_5 : decode cX2_flow 5 = .ok (.istore_n 2, 1) := by decide +kernel
theorem dX2_flow_6 : decode cX2_flow 6 = .ok (.aload_n 0, 1) := by decide +kernel
theorem dX2_flow_7 : decode cX2_flow 7 = .ok (.iload_n 1, 1) := by decide +kernel
theorem dX2_flow_8 : decode cX2_flow 8 = .ok (.iconst 0, 1) := by decide +kernel
theorem dX2_flow_9 : decode cX2_flow 9 = .ok (.invokevirtual 58, 3) := by decide +kernel
theorem dX2_flow_12 : decode cX2_flow 12 = .ok (.istore_n 3, 1) := by decide +kernel
theorem dX2_flow_13 : decode cX2_flow 13 = .ok (.iload_n 2, 1) := by decide +kernel
theorem dX2_flow_14 : decode cX2_flow 14 = .ok (.aload_n 0, 1) := by decide +kernel
theorem dX2_flow_15 : decode cX2_flow 15 = .ok (.iload_n 1, 1) := by decide +kernel
theorem dX2_flow_16 : decode cX2_flow 16 = .ok (.bipush 8, 2) := by decide +kernel
theorem dX2_flow_18 : decode cX2_flow 18 = .ok (.invokevirtual 58, 3) := by decide +kernel
theorem dX2_flow_21 : decode cX2_flow 21 = .ok (.invokestatic 72, 3) := by decide +kernel
theorem dX2_flow_24 : decode cX2_flow 24 = .ok (.istore 4, 2) := by decide +kernel
theorem dX2_flow_26 : decode cX2_flow 26 = .ok (.aload_n 0, 1) := by decide +kernel
theorem dX2_flow_27 : decode cX2_flow 27 = .ok (.iload_n 1, 1) := by decide +kernel
theorem dX2_flow_28 : decode cX2_flow 28 = .ok (.iconst 5, 1) := by decide +kernel
theorem dX2_flow_29 : decode cX2_flow 29 = .ok (.iload_n 2, 1) := by decide +kernel
theorem dX2_flow_30 : decode cX2_flow 30 = .ok (.invokevirtual 61, 3) := by decide +kernel
theorem dX2_flow_33 : decode cX2_flow 33 = .ok (.aload_n 0, 1) := by decide +kernel
theorem dX2_flow_34 : decode cX2_flow 34 = .ok (.iload_n 1, 1) := by decide +kernel
theorem dX2_flow_35 : decode cX2_flow 35 = .ok (.bipush 6, 2) := by decide +kernel
theorem dX2_flow_37 : decode cX2_flow 37 = .ok (.iload 4, 2) := by decide +kernel
theorem dX2_flow_39 : decode cX2_flow 39 = .ok (.invokevirtual 61, 3) := by decide +kernel
theorem dX2_flow_42 : decode cX2_flow 42 = .ok (.aload_n 0, 1) := by decide +kernel
theorem dX2_flow_43 : decode cX2_flow 43 = .ok (.iload_n 1, 1) := by decide +kernel
theorem dX2_flow_44 : decode cX2_flow 44 = .ok (.bipush 7, 2) := by decide +kernel
theorem dX2_flow_46 : decode cX2_flow 46 = .ok (.aload_n 0, 1) := by decide +kernel
theorem dX2_flow_47 : decode cX2_flow 47 = .ok (.iload_n 1, 1) := by decide +kernel
theorem dX2_flow_48 : decode cX2_flow 48 = .ok (.bipush 7, 2) := by decide +kernel
theorem dX2_flow_50 : decode cX2_flow 50 = .ok (.invokevirtual 58, 3) := by decide +kernel
theorem dX2_flow_53 : decode cX2_flow 53 = .ok (.iload 4, 2) := by decide +kernel
theorem dX2_flow_55 : decode cX2_flow 55 = .ok (.iadd, 1) := by decide +kernel
theorem dX2_flow_56 : decode cX2_flow 56 = .ok (.invokevirtual 61, 3) := by decide +kernel
theorem dX2_flow_59 : decode cX2_flow 59 = .ok (.iload_n 2, 1) := by decide +kernel
theorem dX2_flow_60 : decode cX2_flow 60 = .ok (.ifCond .ne 4, 3) := by decide +kernel
theorem dX2_flow_63 : decode cX2_flow 63 = .ok (.return_, 1) := by decide +kernel
theorem dX2_flow_64 : decode cX2_flow 64 = .ok (.aload_n 0, 1) := by decide +kernel
theorem dX2_flow_65 : decode cX2_flow 65 = .ok (.iload_n 3, 1) := by decide +kernel
theorem dX2_flow_66 : decode cX2_flow 66 = .ok (.iconst 4, 1) := by decide +kernel
theorem dX2_flow_67 : decode cX2_flow 67 = .ok (.invokevirtual 47, 3) := by decide +kernel
theorem dX2_flow_70 : decode cX2_flow 70 = .ok (.iload_n 2, 1) := by decide +kernel
theorem dX2_flow_71 : decode cX2_flow 71 = .ok (.imul, 1) := by decide +kernel
theorem dX2_flow_72 : decode cX2_flow 72 = .ok (.aload_n 0, 1) := by decide +kernel
theorem dX2_flow_73 : decode cX2_flow 73 = .ok (.iload_n 3, 1) := by decide +kernel
theorem dX2_flow_74 : decode cX2_flow 74 = .ok (.iconst 3, 1) := by decide +kernel
theorem dX2_flow_75 : decode cX2_flow 75 = .ok (.invokevirtual 47, 3) := by decide +kernel
theorem dX2_flow_78 : decode cX2_flow 78 = .ok (.idiv, 1) := by decide +kernel
theorem dX2_flow_79 : decode cX2_flow 79 = .ok (.istore 5, 2) := by decide +kernel
theorem dX2_flow_81 : decode cX2_flow 81 = .ok (.aload_n 0, 1) := by decide +kernel
theorem dX2_flow_82 : decode cX2_flow 82 = .ok (.iload_n 3, 1) := by decide +kernel
theorem dX2_flow_83 : decode cX2_flow 83 = .ok (.iconst 3, 1) := by decide +kernel
theorem dX2_flow_84 : decode cX2_flow 84 = .ok (.aload_n 0, 1) := by decide +kernel
theorem dX2_flow_85 : decode cX2_flow 85 = .ok (.iload_n 3, 1) := by decide +kernel
theorem dX2_flow_86 : decode cX2_flow 86 = .ok (.iconst 3, 1) := by decide +kernel
theorem dX2_flow_87 : decode cX2_flow 87 = .ok (.invokevirtual 47, 3) := by decide +kernel
theorem dX2_flow_90 : decode cX2_flow 90 = .ok (.iload_n 2, 1) := by decide +kernel
theorem dX2_flow_91 : decode cX2_flow 91 = .ok (.isub, 1) := by decide +kernel
theorem dX2_flow_92 : decode cX2_flow 92 = .ok (.invokevirtual 51, 3) := by decide +kernel
theorem dX2_flow_95 : decode cX2_flow 95 = .ok (.aload_n 0, 1) := by decide +kernel
theorem dX2_flow_96 : decode cX2_flow 96 = .ok (.iload_n 3, 1) := by decide +kernel
theorem dX2_flow_97 : decode cX2_flow 97 = .ok (.iconst 4, 1) := by decide +kernel
theorem dX2_flow_98 : decode cX2_flow 98 = .ok (.aload_n 0, 1) := by decide +kernel
theorem dX2_flow_99 : decode cX2_flow 99 = .ok (.iload_n 3, 1) := by decide +kernel
theorem dX2_flow_100 : decode cX2_flow 100 = .ok (.iconst 4, 1) := by decide +kernel
theorem dX2_flow_101 : decode cX2_flow 101 = .ok (.invokevirtual 47, 3) := by decide +kernel
theorem dX2_flow_104 : decode cX2_flow 104 = .ok (.iload 5, 2) := by decide +kernel
theorem dX2_flow_106 : decode cX2_flow 106 = .ok (.isub, 1) := by decide +kernel
theorem dX2_flow_107 : decode cX2_flow 107 = .ok (.invokevirtual 51, 3) := by decide +kernel
theorem dX2_flow_110 : decode cX2_flow 110 = .ok (.aload_n 0, 1) := by decide +kernel
theorem dX2_flow_111 : decode cX2_flow 111 = .ok (.aload_n 0, 1) := by decide +kernel
theorem dX2_flow_112 : decode cX2_flow 112 = .ok (.iload_n 1, 1) := by decide +kernel
theorem dX2_flow_113 : decode cX2_flow 113 = .ok (.iconst 1, 1) := by decide +kernel
theorem dX2_flow_114 : decode cX2_flow 114 = .ok (.invokevirtual 58, 3) := by decide +kernel
theorem dX2_flow_117 : decode cX2_flow 117 = .ok (.iload_n 2, 1) := by decide +kernel
theorem dX2_flow_118 : decode cX2_flow 118 = .ok (.iload 4, 2) := by decide +kernel
theorem dX2_flow_120 : decode cX2_flow 120 = .ok (.isub, 1) := by decide +kernel
theorem dX2_flow_121 : decode cX2_flow 121 = .ok (.iload 5, 2) := by decide +kernel
theorem dX2_flow_123 : decode cX2_flow 123 = .ok (.invokevirtual 90, 3) := by decide +kernel
theorem dX2_flow_126 : decode cX2_flow 126 = .ok (.return_, 1) := by decide +kernel
set_option maxRecDepth 20000 in
theorem ggX2_dayOn_X2_la : GoodIn wsX2_dayOn wsX2_la := goodIn_r _ [12, 13, 46, 47, 48, 49, 50, 51] (by decide +kernel) (by decide +kernel)
set_option maxRecDepth 20000 in
theorem gX2_dayOn_X2_la : GoodIn wsX2_dayOn (wsV RX2 47 RX2 yX2_la wsX2_la) := goodIn_app (goodIn_of _ (by decide +kernel)) ggX2_dayOn_X2_la
set_option maxRecDepth 20000 in
theorem ggX2_dayOn_X2_pour : GoodIn wsX2_dayOn wsX2_pour := goodIn_r _ [17, 18, 19, 6, 20, 4, 5, 7, 8, 9, 10, 11, 12, 13, 21, 22, 23, 24, 46, 47, 48, 49, 50, 51] (by decide +kernel) (by decide +kernel)
set_option maxRecDepth 20000 in
theorem gX2_dayOn_X2_pour : GoodIn wsX2_dayOn (wsV RX2 90 RX2 yX2_pour wsX2_pour) := goodIn_app (goodIn_of _ (by decide +kernel)) ggX2_dayOn_X2_pour
set_option maxRecDepth 20000 in
theorem ggX2_dayOn_X2_flow : GoodIn wsX2_dayOn wsX2_flow := goodIn_r _ [28, 4, 5, 6, 7, 29, 30, 31, 11, 32, 18, 19, 20, 33, 34, 35, 36, 37, 38, 39, 40, 41, 8, 9, 10, 12, 13, 42, 43, 44, 45, 21, 22, 23, 24, 14, 15, 16, 17, 46, 47, 48, 49, 50, 51] (by decide +kernel) (by decide +kernel)
set_option maxRecDepth 20000 in
theorem gX2_dayOn_X2_flow : GoodIn wsX2_dayOn (wsV RX2 93 RX2 yX2_flow wsX2_flow) := goodIn_app (goodIn_of _ (by decide +kernel)) ggX2_dayOn_X2_flow
set_option maxRecDepth 20000 in
theorem ggX2_dayOn_X2_li : GoodIn wsX2_dayOn wsX2_li := goodIn_r _ [36, 37, 46, 47, 48, 49, 50, 51] (by decide +kernel) (by decide +kernel)
set_option maxRecDepth 20000 in
theorem gX2_dayOn_X2_li : GoodIn wsX2_dayOn (wsV RX2 58 RX2 yX2_li wsX2_li) := goodIn_app (goodIn_of _ (by decide +kernel)) ggX2_dayOn_X2_li
set_option maxRecDepth 20000 in
theorem ggX2_dayOn_X2_setPipe : GoodIn wsX2_dayOn wsX2_setPipe := goodIn_r _ [45, 37, 46, 47, 48, 49, 50, 51] (by decide +kernel) (by decide +kernel)
set_option maxRecDepth 20000 in
theorem gX2_dayOn_X2_setPipe : GoodIn wsX2_dayOn (wsV RX2 61 RX2 yX2_setPipe wsX2_setPipe) := goodIn_app (goodIn_of _ (by decide +kernel)) ggX2_dayOn_X2_setPipe
set_option maxRecDepth 20000 in
theorem ggX2_dayOn_X2_setTank : GoodIn wsX2_dayOn wsX2_setTank := goodIn_r _ [24, 13, 46, 47, 48, 49, 50, 51] (by decide +kernel) (by decide +kernel)
set_option maxRecDepth 20000 in
theorem gX2_dayOn_X2_setTank : GoodIn wsX2_dayOn (wsV RX2 51 RX2 yX2_setTank wsX2_setTank) := goodIn_app (goodIn_of _ (by decide +kernel)) ggX2_dayOn_X2_setTank
theorem dX2_dayOn_0 : decode cX2_dayOn 0 = .ok (.iconst 0, 1) := by decide +kernel
theorem dX2_dayOn_1 : decode cX2_dayOn 1 = .ok (.istore_n 1, 1) := by decide +kernel
theorem dX2_dayOn_2 : decode cX2_dayOn 2 = .ok (.iload_n 1, 1) := by decide +kernel
theorem dX2_dayOn_3 : decode cX2_dayOn 3 = .ok (.aload_n 0, 1) := by decide +kernel
theorem dX2_dayOn_4 : decode cX2_dayOn 4 = .ok (.getfield 23, 3) := by decide +kernel
theorem dX2_dayOn_7 : decode cX2_dayOn 7 = .ok (.if_icmp .ge 28, 3) := by decide +kernel
theorem dX2_dayOn_10 : decode cX2_dayOn 10 = .ok (.aload_n 0, 1) := by decide +kernel
theorem dX2_dayOn_11 : decode cX2_dayOn 11 = .ok (.iload_n 1, 1) := by decide +kernel
theorem dX2_dayOn_12 : decode cX2_dayOn 12 = .ok (.aload_n 0, 1) := by decide +kernel
theorem dX2_dayOn_13 : decode cX2_dayOn 13 = .ok (.iload_n 1, 1) := by decide +kernel
theorem dX2_dayOn_14 : decode cX2_dayOn 14 = .ok (.iconst 1, 1) := by decide +kernel
theorem dX2_dayOn_15 : decode cX2_dayOn 15 = .ok (.invokevirtual 47, 3) := by decide +kernel
theorem dX2_dayOn_18 : decode cX2_dayOn 18 = .ok (.aload_n 0, 1) := by decide +kernel
theorem dX2_dayOn_19 : decode cX2_dayOn 19 = .ok (.iload_n 1, 1) := by decide +kernel
theorem dX2_dayOn_20 : decode cX2_dayOn 20 = .ok (.iconst 1, 1) := by decide +kernel
theorem dX2_dayOn_21 : decode cX2_dayOn 21 = .ok (.invokevirtual 47, 3) := by decide +kernel
theorem dX2_dayOn_24 : decode cX2_dayOn 24 = .ok (.iconst 4, 1) := by decide +kernel
theorem dX2_dayOn_25 : decode cX2_dayOn 25 = .ok (.idiv, 1) := by decide +kernel
theorem dX2_dayOn_26 : decode cX2_dayOn 26 = .ok (.invokevirtual 90, 3) := by decide +kernel
theorem dX2_dayOn_29 : decode cX2_dayOn 29 = .ok (.iinc 1 1, 3) := by decide +kernel
theorem dX2_dayOn_32 : decode cX2_dayOn 32 = .ok (.goto (-30), 3) := by decide +kernel
theorem dX2_dayOn_35 : decode cX2_dayOn 35 = .ok (.iconst 0, 1) := by decide +kernel
theorem dX2_dayOn_36 : decode cX2_dayOn 36 = .ok (.istore_n 1, 1) := by decide +kernel
theorem dX2_dayOn_37 : decode cX2_dayOn 37 = .ok (.iload_n 1, 1) := by decide +kernel
theorem dX2_dayOn_38 : decode cX2_dayOn 38 = .ok (.aload_n 0, 1) := by decide +kernel
theorem dX2_dayOn_39 : decode cX2_dayOn 39 = .ok (.getfield 30, 3) := by decide +kernel
theorem dX2_dayOn_42 : decode cX2_dayOn 42 = .ok (.if_icmp .ge 14, 3) := by decide +kernel
theorem dX2_dayOn_45 : decode cX2_dayOn 45 = .ok (.aload_n 0, 1) := by decide +kernel
theorem dX2_dayOn_46 : decode cX2_dayOn 46 = .ok (.iload_n 1, 1) := by decide +kernel
theorem dX2_dayOn_47 : decode cX2_dayOn 47 = .ok (.invokevirtual 93, 3) := by decide +kernel
theorem dX2_dayOn_50 : decode cX2_dayOn 50 = .ok (.iinc 1 1, 3) := by decide +kernel
theorem dX2_dayOn_53 : decode cX2_dayOn 53 = .ok (.goto (-16), 3) := by decide +kernel
theorem dX2_dayOn_56 : decode cX2_dayOn 56 = .ok (.iconst 0, 1) := by decide +kernel
theorem dX2_dayOn_57 : decode cX2_dayOn 57 = .ok (.istore_n 1, 1) := by decide +kernel
theorem dX2_dayOn_58 : decode cX2_dayOn 58 = .ok (.iload_n 1, 1) := by decide +kernel
theorem dX2_dayOn_59 : decode cX2_dayOn 59 = .ok (.aload_n 0, 1) := by decide +kernel
theorem dX2_dayOn_60 : decode cX2_dayOn 60 = .ok (.getfield 30, 3) := by decide +kernel
theorem dX2_dayOn_63 : decode cX2_dayOn 63 = .ok (.if_icmp .ge 48, 3) := by decide +kernel
theorem dX2_dayOn_66 : decode cX2_dayOn 66 = .ok (.aload_n 0, 1) := by decide +kernel
theorem dX2_dayOn_67 : decode cX2_dayOn 67 = .ok (.getfield 16, 3) := by decide +kernel
theorem dX2_dayOn_70 : decode cX2_dayOn 70 = .ok (.iconst 0, 1) := by decide +kernel
theorem dX2_dayOn_71 : decode cX2_dayOn 71 = .ok (.iaload, 1) := by decide +kernel
theorem dX2_dayOn_72 : decode cX2_dayOn 72 = .ok (.iconst 4, 1) := by decide +kernel
theorem dX2_dayOn_73 : decode cX2_dayOn 73 = .ok (.irem, 1) := by decide +kernel
theorem dX2_dayOn_74 : decode cX2_dayOn 74 = .ok (.ifCond .ne 37, 3) := by decide +kernel
theorem dX2_dayOn_77 : decode cX2_dayOn 77 = .ok (.aload_n 0, 1) := by decide +kernel
theorem dX2_dayOn_78 : decode cX2_dayOn 78 = .ok (.iload_n 1, 1) := by decide +kernel
theorem dX2_dayOn_79 : decode cX2_dayOn 79 = .ok (.iconst 5, 1) := by decide +kernel
theorem dX2_dayOn_80 : decode cX2_dayOn 80 = .ok (.invokevirtual 58, 3) := by decide +kernel
theorem dX2_dayOn_83 : decode cX2_dayOn 83 = .ok (.ifCond .le 22, 3) := by decide +kernel
theorem dX2_dayOn_86 : decode cX2_dayOn 86 = .ok (.aload_n 0, 1) := by decide +kernel
theorem dX2_dayOn_87 : decode cX2_dayOn 87 = .ok (.iload_n 1, 1) := by decide +kernel
theorem dX2_dayOn_88 : decode cX2_dayOn 88 = .ok (.iconst 4, 1) := by decide +kernel
theorem dX2_dayOn_89 : decode cX2_dayOn 89 = .ok (.bipush 20, 2) := by decide +kernel
theorem dX2_dayOn_91 : decode cX2_dayOn 91 = .ok (.aload_n 0, 1) := by decide +kernel
theorem dX2_dayOn_92 : decode cX2_dayOn 92 = .ok (.iload_n 1, 1) := by decide +kernel
theorem dX2_dayOn_93 : decode cX2_dayOn 93 = .ok (.iconst 4, 1) := by decide +kernel
theorem dX2_dayOn_94 : decode cX2_dayOn 94 = .ok (.invokevirtual 58, 3) := by decide +kernel
theorem dX2_dayOn_97 : decode cX2_dayOn 97 = .ok (.iconst 1, 1) := by decide +kernel
theorem dX2_dayOn_98 : decode cX2_dayOn 98 = .ok (.iadd, 1) := by decide +kernel
theorem dX2_dayOn_99 : decode cX2_dayOn 99 = .ok (.invokestatic 72, 3) := by decide +kernel
theorem dX2_dayOn_102 : decode cX2_dayOn 102 = .ok (.invokevirtual 61, 3) := by decide +kernel
theorem dX2_dayOn_105 : decode cX2_dayOn 105 = .ok (.iinc 1 1, 3) := by decide +kernel
theorem dX2_dayOn_108 : decode cX2_dayOn 108 = .ok (.goto (-50), 3) := by decide +kernel
theorem dX2_dayOn_111 : decode cX2_dayOn 111 = .ok (.iconst 0, 1) := by decide +kernel
theorem dX2_dayOn_112 : decode cX2_dayOn 112 = .ok (.istore_n 1, 1) := by decide +kernel
theorem dX2_dayOn_113 : decode cX2_dayOn 113 = .ok (.iload_n 1, 1) := by decide +kernel
theorem dX2_dayOn_114 : decode cX2_dayOn 114 = .ok (.aload_n 0, 1) := by decide +kernel
theorem dX2_dayOn_115 : decode cX2_dayOn 115 = .ok (.getfield 23, 3) := by decide +kernel
theorem dX2_dayOn_118 : decode cX2_dayOn 118 = .ok (.if_icmp .ge 86, 3) := by decide +kernel
theorem dX2_dayOn_121 : decode cX2_dayOn 121 = .ok (.aload_n 0, 1) := by decide +kernel
theorem dX2_dayOn_122 : decode cX2_dayOn 122 = .ok (.iload_n 1, 1) := by decide +kernel
theorem dX2_dayOn_123 : decode cX2_dayOn 123 = .ok (.iconst 4, 1) := by decide +kernel
theorem dX2_dayOn_124 : decode cX2_dayOn 124 = .ok (.invokevirtual 47, 3) := by decide +kernel
theorem dX2_dayOn_127 : decode cX2_dayOn 127 = .ok (.bipush 50, 2) := by decide +kernel
theorem dX2_dayOn_129 : decode cX2_dayOn 129 = .ok (.if_icmp .lt 14, 3) := by decide +kernel
theorem dX2_dayOn_132 : decode cX2_dayOn 132 = .ok (.aload_n 0, 1) := by decide +kernel
theorem dX2_dayOn_133 : decode cX2_dayOn 133 = .ok (.iload_n 1, 1) := by decide +kernel
theorem dX2_dayOn_134 : decode cX2_dayOn 134 = .ok (.iconst 2, 1) := by decide +kernel
theorem dX2_dayOn_135 : decode cX2_dayOn 135 = .ok (.invokevirtual 47, 3) := by decide +kernel
theorem dX2_dayOn_138 : decode cX2_dayOn 138 = .ok (.iconst 2, 1) := by decide +kernel
theorem dX2_dayOn_139 : decode cX2_dayOn 139 = .ok (.idiv, 1) := by decide +kernel
theorem dX2_dayOn_140 : decode cX2_dayOn 140 = .ok (.goto 9, 3) := by decide +kernel
theorem dX2_dayOn_143 : decode cX2_dayOn 143 = .ok (.aload_n 0, 1) := by decide +kernel
theorem dX2_dayOn_144 : decode cX2_dayOn 144 = .ok (.iload_n 1, 1) := by decide +kernel
theorem dX2_dayOn_145 : decode cX2_dayOn 145 = .ok (.iconst 2, 1) := by decide +kernel
theorem dX2_dayOn_146 : decode cX2_dayOn 146 = .ok (.invokevirtual 47, 3) := by decide +kernel
theorem dX2_dayOn_149 : decode cX2_dayOn 149 = .ok (.istore_n 2, 1) := by decide +kernel
theorem dX2_dayOn_150 : decode cX2_dayOn 150 = .ok (.iload_n 2, 1) := by decide +kernel
theorem dX2_dayOn_151 : decode cX2_dayOn 151 = .ok (.aload_n 0, 1) := by decide +kernel
theorem dX2_dayOn_152 : decode cX2_dayOn 152 = .ok (.iload_n 1, 1) := by decide +kernel
theorem dX2_dayOn_153 : decode cX2_dayOn 153 = .ok (.iconst 3, 1) := by decide +kernel
theorem dX2_dayOn_154 : decode cX2_dayOn 154 = .ok (.invokevirtual 47, 3) := by decide +kernel
theorem dX2_dayOn_157 : decode cX2_dayOn 157 = .ok (.invokestatic 72, 3) := by decide +kernel
theorem dX2_dayOn_160 : decode cX2_dayOn 160 = .ok (.istore_n 3, 1) := by decide +kernel
theorem dX2_dayOn_161 : decode cX2_dayOn 161 = .ok (.aload_n 0, 1) := by decide +kernel
theorem dX2_dayOn_162 : decode cX2_dayOn 162 = .ok (.iload_n 1, 1) := by decide +kernel
theorem dX2_dayOn_163 : decode cX2_dayOn 163 = .ok (.iconst 3, 1) := by decide +kernel
theorem dX2_dayOn_164 : decode cX2_dayOn 164 = .ok (.aload_n 0, 1) := by decide +kernel
theorem dX2_dayOn_165 : decode cX2_dayOn 165 = .ok (.iload_n 1, 1) := by decide +kernel
theorem dX2_dayOn_166 : decode cX2_dayOn 166 = .ok (.iconst 3, 1) := by decide +kernel
theorem dX2_dayOn_167 : decode cX2_dayOn 167 = .ok (.invokevirtual 47, 3) := by decide +kernel
theorem dX2_dayOn_170 : decode cX2_dayOn 170 = .ok (.iload_n 3, 1) := by decide +kernel
theorem dX2_dayOn_171 : decode cX2_dayOn 171 = .ok (.isub, 1) := by decide +kernel
theorem dX2_dayOn_172 : decode cX2_dayOn 172 = .ok (.invokevirtual 51, 3) := by decide +kernel
theorem dX2_dayOn_175 : decode cX2_dayOn 175 = .ok (.aload_n 0, 1) := by decide +kernel
theorem dX2_dayOn_176 : decode cX2_dayOn 176 = .ok (.iload_n 1, 1) := by decide +kernel
theorem dX2_dayOn_177 : decode cX2_dayOn 177 = .ok (.iconst 5, 1) := by decide +kernel
theorem dX2_dayOn_178 : decode cX2_dayOn 178 = .ok (.iload_n 3, 1) := by decide +kernel
theorem dX2_dayOn_179 : decode cX2_dayOn 179 = .ok (.invokevirtual 51, 3) := by decide +kernel
theorem dX2_dayOn_182 : decode cX2_dayOn 182 = .ok (.aload_n 0, 1) := by decide +kernel
theorem dX2_dayOn_183 : decode cX2_dayOn 183 = .ok (.iload_n 1, 1) := by decide +kernel
theorem dX2_dayOn_184 : decode cX2_dayOn 184 = .ok (.bipush 6, 2) := by decide +kernel
theorem dX2_dayOn_186 : decode cX2_dayOn 186 = .ok (.aload_n 0, 1) := by decide +kernel
theorem dX2_dayOn_187 : decode cX2_dayOn 187 = .ok (.iload_n 1, 1) := by decide +kernel
theorem dX2_dayOn_188 : decode cX2_dayOn 188 = .ok (.bipush 6, 2) := by decide +kernel
theorem dX2_dayOn_190 : decode cX2_dayOn 190 = .ok (.invokevirtual 47, 3) := by decide +kernel
theorem dX2_dayOn_193 : decode cX2_dayOn 193 = .ok (.iload_n 3, 1) := by decide +kernel
theorem dX2_dayOn_194 : decode cX2_dayOn 194 = .ok (.iadd, 1) := by decide +kernel
theorem dX2_dayOn_195 : decode cX2_dayOn 195 = .ok (.invokevirtual 51, 3) := by decide +kernel
theorem dX2_dayOn_198 : decode cX2_dayOn 198 = .ok (.iinc 1 1, 3) := by decide +kernel
theorem dX2_dayOn_201 : decode cX2_dayOn 201 = .ok (.goto (-88), 3) := by decide +kernel
theorem dX2_dayOn_204 : decode cX2_dayOn 204 = .ok (.aload_n 0, 1) := by decide +kernel
theorem dX2_dayOn_205 : decode cX2_dayOn 205 = .ok (.getfield 16, 3) := by decide +kernel
theorem dX2_dayOn_208 : decode cX2_dayOn 208 = .ok (.iconst 0, 1) := by decide +kernel
theorem dX2_dayOn_209 : decode cX2_dayOn 209 = .ok (.dup2, 1) := by decide +kernel
theorem dX2_dayOn_210 : decode cX2_dayOn 210 = .ok (.iaload, 1) := by decide +kernel
theorem dX2_dayOn_211 : decode cX2_dayOn 211 = .ok (.iconst 1, 1) := by decide +kernel
theorem dX2_dayOn_212 : decode cX2_dayOn 212 = .ok (.iadd, 1) := by decide +kernel
theorem dX2_dayOn_213 : decode cX2_dayOn 213 = .ok (.iastore, 1) := by decide +kernel
theorem dX2_dayOn_214 : decode cX2_dayOn 214 = .ok (.return_, 1) := by decide +kernel
set_option maxRecDepth 20000 in
theorem ggX2_daysOn_X2_dayOn : GoodIn wsX2_daysOn wsX2_dayOn := goodIn_r _ [5, 6, 7, 8, 9, 10, 11, 12, 13, 14, 15, 4, 16, 17, 18, 19, 20, 21, 22, 23, 24, 25, 26, 27, 28, 29, 30, 31, 32, 33, 34, 35, 36, 37, 38, 39, 40, 41, 42, 43, 44, 45, 46, 47, 48, 49, 50, 51, 52, 53, 54, 55] (by decide +kernel) (by decide +kernel)
set_option maxRecDepth 20000 in
theorem gX2_daysOn_X2_dayOn : GoodIn wsX2_daysOn (wsV RX2 97 RX2 yX2_dayOn wsX2_dayOn) := goodIn_app (goodIn_of _ (by decide +kernel)) ggX2_daysOn_X2_dayOn
theorem dX2_daysOn_0 : decode cX2_daysOn 0 = .ok (.iconst 0, 1) := by decide +kernel
theorem dX2_daysOn_1 : decode cX2_daysOn 1 = .ok (.istore_n 2, 1) := by decide +kernel
theorem dX2_daysOn_2 : decode cX2_daysOn 2 = .ok (.iload_n 2, 1) := by decide +kernel
theorem dX2_daysOn_3 : decode cX2_daysOn 3 = .ok (.iload_n 1, 1) := by decide +kernel
theorem dX2_daysOn_4 : decode cX2_daysOn 4 = .ok (.if_icmp .ge 13, 3) := by decide +kernel
theorem dX2_daysOn_7 : decode cX2_daysOn 7 = .ok (.aload_n 0, 1) := by decide +kernel
theorem dX2_daysOn_8 : decode cX2_daysOn 8 = .ok (.invokevirtual 97, 3) := by decide +kernel
theorem dX2_daysOn_11 : decode cX2_daysOn 11 = .ok (.iinc 2 1, 3) := by decide +kernel
theorem dX2_daysOn_14 : decode cX2_daysOn 14 = .ok (.goto (-12), 3) := by decide +kernel
theorem dX2_daysOn_17 : decode cX2_daysOn 17 = .ok (.return_, 1) := by decide +kernel
set_option maxRecDepth 20000 in
theorem ggX2_pass_X2_isIn : GoodIn wsX2_pass wsX2_isIn := goodIn_r _ [5] (by decide +kernel) (by decide +kernel)
set_option maxRecDepth 20000 in
theorem gX2_pass_X2_isIn : GoodIn wsX2_pass (va_wsS RX2 26 yX2_isIn wsX2_isIn) := goodIn_app (goodIn_of _ (by decide +kernel)) ggX2_pass_X2_isIn
set_option maxRecDepth 20000 in
theorem ggX2_pass_X2_fail : GoodIn wsX2_pass wsX2_fail := goodIn_r _ [9, 1, 66, 67, 68, 69, 70, 71] (by decide +kernel) (by decide +kernel)
set_option maxRecDepth 20000 in
theorem gX2_pass_X2_fail : GoodIn wsX2_pass (wsV RX2 33 RX2 yX2_fail wsX2_fail) := goodIn_app (goodIn_of _ (by decide +kernel)) ggX2_pass_X2_fail
set_option maxRecDepth 20000 in
theorem ggX2_pass_X2_all : GoodIn wsX2_pass wsX2_all := goodIn_r _ [13, 14, 15, 16, 17, 4, 18, 19, 66, 67, 68, 69, 70, 71] (by decide +kernel) (by decide +kernel)
set_option maxRecDepth 20000 in
theorem gX2_pass_X2_all : GoodIn wsX2_pass (wsV RX2 81 RX2 yX2_all wsX2_all) := goodIn_app (goodIn_of _ (by decide +kernel)) ggX2_pass_X2_all
set_option maxRecDepth 20000 in
theorem ggX2_pass_X2_daysOn : GoodIn wsX2_pass wsX2_daysOn := goodIn_r _ [23, 24, 25, 26, 4, 27, 14, 28, 29, 30, 31, 32, 33, 15, 16, 17, 18, 19, 34, 35, 36, 37, 38, 39, 40, 41, 42, 43, 44, 45, 46, 47, 48, 49, 50, 51, 52, 53, 54, 55, 56, 57, 58, 59, 60, 61, 62, 63, 64, 65, 66, 67, 68, 69, 70, 71] (by decide +kernel) (by decide +kernel)
set_option maxRecDepth 20000 in
theorem gX2_pass_X2_daysOn : GoodIn wsX2_pass (wsV RX2 100 RX2 yX2_daysOn wsX2_daysOn) := goodIn_app (goodIn_of _ (by decide +kernel)) ggX2_pass_X2_daysOn
theorem dX2_pass_0 : decode cX2_pass 0 = .ok (.aload_n 0, 1) := by decide +kernel
theorem dX2_pass_1 : decode cX2_pass 1 = .ok (.iconst 0, 1) := by decide +kernel
theorem dX2_pass_2 : decode cX2_pass 2 = .ok (.putfield 19, 3) := by decide +kernel
theorem dX2_pass_5 : decode cX2_pass 5 = .ok (.iload_n 1, 1) := by decide +kernel
theorem dX2_pass_6 : decode cX2_pass 6 = .ok (.iconst 1, 1) := by decide +kernel
theorem dX2_pass_7 : decode cX2_pass 7 = .ok (.bipush 100, 2) := by decide +kernel
theorem dX2_pass_9 : decode cX2_pass 9 = .ok (.invokestatic 26, 3) := by decide +kernel
theorem dX2_pass_12 : decode cX2_pass 12 = .ok (.ifCond .ne 9, 3) := by decide +kernel
theorem dX2_pass_15 : decode cX2_pass 15 = .ok (.aload_n 0, 1) := by decide +kernel
theorem dX2_pass_16 : decode cX2_pass 16 = .ok (.iconst 1, 1) := by decide +kernel
theorem dX2_pass_17 : decode cX2_pass 17 = .ok (.invokevirtual 33, 3) := by decide +kernel
theorem dX2_pass_20 : decode cX2_pass 20 = .ok (.ireturn, 1) := by decide +kernel
theorem dX2_pass_21 : decode cX2_pass 21 = .ok (.aload_n 0, 1) := by decide +kernel
theorem dX2_pass_22 : decode cX2_pass 22 = .ok (.bipush 6, 2) := by decide +kernel
theorem dX2_pass_24 : decode cX2_pass 24 = .ok (.invokevirtual 81, 3) := by decide +kernel
theorem dX2_pass_27 : decode cX2_pass 27 = .ok (.istore_n 2, 1) := by decide +kernel
theorem dX2_pass_28 : decode cX2_pass 28 = .ok (.aload_n 0, 1) := by decide +kernel
theorem dX2_pass_29 : decode cX2_pass 29 = .ok (.iload_n 1, 1) := by decide +kernel
theorem dX2_pass_30 : decode cX2_pass 30 = .ok (.invokevirtual 100, 3) := by decide +kernel
theorem dX2_pass_33 : decode cX2_pass 33 = .ok (.aload_n 0, 1) := by decide +kernel
theorem dX2_pass_34 : decode cX2_pass 34 = .ok (.bipush 6, 2) := by decide +kernel
theorem dX2_pass_36 : decode cX2_pass 36 = .ok (.invokevirtual 81, 3) := by decide +kernel
theorem dX2_pass_39 : decode cX2_pass 39 = .ok (.iload_n 2, 1) := by decide +kernel
theorem dX2_pass_40 : decode cX2_pass 40 = .ok (.isub, 1) := by decide +kernel
theorem dX2_pass_41 : decode cX2_pass 41 = .ok (.ireturn, 1) := by decide +kernel
theorem dX2_kept_0 : decode cX2_kept 0 = .ok (.iconst 3, 1) := by decide +kernel
theorem dX2_kept_1 : decode cX2_kept 1 = .ok (.anewarray 103, 3) := by decide +kernel
theorem dX2_kept_4 : decode cX2_kept 4 = .ok (.dup, 1) := by decide +kernel
theorem dX2_kept_5 : decode cX2_kept 5 = .ok (.iconst 0, 1) := by decide +kernel
theorem dX2_kept_6 : decode cX2_kept 6 = .ok (.aload_n 0, 1) := by decide +kernel
theorem dX2_kept_7 : decode cX2_kept 7 = .ok (.getfield 9, 3) := by decide +kernel
theorem dX2_kept_10 : decode cX2_kept 10 = .ok (.invokevirtual 104, 3) := by decide +kernel
theorem dX2_kept_13 : decode cX2_kept 13 = .ok (.checkcast 103, 3) := by decide +kernel
theorem dX2_kept_16 : decode cX2_kept 16 = .ok (.aastore, 1) := by decide +kernel
theorem dX2_kept_17 : decode cX2_kept 17 = .ok (.dup, 1) := by decide +kernel
theorem dX2_kept_18 : decode cX2_kept 18 = .ok (.iconst 1, 1) := by decide +kernel
theorem dX2_kept_19 : decode cX2_kept 19 = .ok (.aload_n 0, 1) := by decide +kernel
theorem dX2_kept_20 : decode cX2_kept 20 = .ok (.getfield 13, 3) := by decide +kernel
theorem dX2_kept_23 : decode cX2_kept 23 = .ok (.invokevirtual 104, 3) := by decide +kernel
theorem dX2_kept_26 : decode cX2_kept 26 = .ok (.checkcast 103, 3) := by decide +kernel
theorem dX2_kept_29 : decode cX2_kept 29 = .ok (.aastore, 1) := by decide +kernel
theorem dX2_kept_30 : decode cX2_kept 30 = .ok (.dup, 1) := by decide +kernel
theorem dX2_kept_31 : decode cX2_kept 31 = .ok (.iconst 2, 1) := by decide +kernel
theorem dX2_kept_32 : decode cX2_kept 32 = .ok (.aload_n 0, 1) := by decide +kernel
theorem dX2_kept_33 : decode cX2_kept 33 = .ok (.getfield 16, 3) := by decide +kernel
theorem dX2_kept_36 : decode cX2_kept 36 = .ok (.invokevirtual 104, 3) := by decide +kernel
theorem dX2_kept_39 : decode cX2_kept 39 = .ok (.checkcast 103, 3) := by decide +kernel
theorem dX2_kept_42 : decode cX2_kept 42 = .ok (.aastore, 1) := by decide +kernel
theorem dX2_kept_43 : decode cX2_kept 43 = .ok (.areturn, 1) := by decide +kernel
theorem dX2_bringBack_0 : decode cX2_bringBack 0 = .ok (.aload_n 1, 1) := by decide +kernel
theorem dX2_bringBack_1 : decode cX2_bringBack 1 = .ok (.iconst 0, 1) := by decide +kernel
theorem dX2_bringBack_2 : decode cX2_bringBack 2 = .ok (.aaload, 1) := by decide +kernel
theorem dX2_bringBack_3 : decode cX2_bringBack 3 = .ok (.iconst 0, 1) := by decide +kernel
theorem dX2_bringBack_4 : decode cX2_bringBack 4 = .ok (.aload_n 0, 1) := by decide +kernel
theorem dX2_bringBack_5 : decode cX2_bringBack 5 = .ok (.getfield 9, 3) := by decide +kernel
theorem dX2_bringBack_8 : decode cX2_bringBack 8 = .ok (.iconst 0, 1) := by decide +kernel
theorem dX2_bringBack_9 : decode cX2_bringBack 9 = .ok (.aload_n 0, 1) := by decide +kernel
theorem dX2_bringBack_10 : decode cX2_bringBack 10 = .ok (.getfield 9, 3) := by decide +kernel
theorem dX2_bringBack_13 : decode cX2_bringBack 13 = .ok (.arraylength, 1) := by decide +kernel
theorem dX2_bringBack_14 : decode cX2_bringBack 14 = .ok (.invokestatic 37, 3) := by decide +kernel
theorem dX2_bringBack_17 : decode cX2_bringBack 17 = .ok (.aload_n 1, 1) := by decide +kernel
theorem dX2_bringBack_18 : decode cX2_bringBack 18 = .ok (.iconst 1, 1) := by decide +kernel
theorem dX2_bringBack_19 : decode cX2_bringBack 19 = .ok (.aaload, 1) := by decide +kernel
theorem dX2_bringBack_20 : decode cX2_bringBack 20 = .ok (.iconst 0, 1) := by decide +kernel
theorem dX2_bringBack_21 : decode cX2_bringBack 21 = .ok (.aload_n 0, 1) := by decide +kernel
theorem dX2_bringBack_22 : decode cX2_bringBack 22 = .ok (.getfield 13, 3) := by decide +kernel
theorem dX2_bringBack_25 : decode cX2_bringBack 25 = .ok (.iconst 0, 1) := by decide +kernel
theorem dX2_bringBack_26 : decode cX2_bringBack 26 = .ok (.aload_n 0, 1) := by decide +kernel
theorem dX2_bringBack_27 : decode cX2_bringBack 27 = .ok (.getfield 13, 3) := by decide +kernel
theorem dX2_bringBack_30 : decode cX2_bringBack 30 = .ok (.arraylength, 1) := by decide +kernel
theorem dX2_bringBack_31 : decode cX2_bringBack 31 = .ok (.invokestatic 37, 3) := by decide +kernel
theorem dX2_bringBack_34 : decode cX2_bringBack 34 = .ok (.aload_n 0, 1) := by decide +kernel
theorem dX2_bringBack_35 : decode cX2_bringBack 35 = .ok (.getfield 16, 3) := by decide +kernel
theorem dX2_bringBack_38 : decode cX2_bringBack 38 = .ok (.iconst 0, 1) := by decide +kernel
theorem dX2_bringBack_39 : decode cX2_bringBack 39 = .ok (.aload_n 1, 1) := by decide +kernel
theorem dX2_bringBack_40 : decode cX2_bringBack 40 = .ok (.iconst 2, 1) := by decide +kernel
theorem dX2_bringBack_41 : decode cX2_bringBack 41 = .ok (.aaload, 1) := by decide +kernel
theorem dX2_bringBack_42 : decode cX2_bringBack 42 = .ok (.iconst 0, 1) := by decide +kernel
theorem dX2_bringBack_43 : decode cX2_bringBack 43 = .ok (.iaload, 1) := by decide +kernel
theorem dX2_bringBack_44 : decode cX2_bringBack 44 = .ok (.iastore, 1) := by decide +kernel
theorem dX2_bringBack_45 : decode cX2_bringBack 45 = .ok (.return_, 1) := by decide +kernel
set_option maxRecDepth 20000 in
theorem ggX2_foresee_X2_isIn : GoodIn wsX2_foresee wsX2_isIn := goodIn_r _ [5] (by decide +kernel) (by decide +kernel)
set_option maxRecDepth 20000 in
theorem gX2_foresee_X2_isIn : GoodIn wsX2_foresee (va_wsS RX2 26 yX2_isIn wsX2_isIn) := goodIn_app (goodIn_of _ (by decide +kernel)) ggX2_foresee_X2_isIn
set_option maxRecDepth 20000 in
theorem ggX2_foresee_X2_fail : GoodIn wsX2_foresee wsX2_fail := goodIn_r _ [9, 1, 88, 89, 90, 91, 92, 93] (by decide +kernel) (by decide +kernel)
set_option maxRecDepth 20000 in
theorem gX2_foresee_X2_fail : GoodIn wsX2_foresee (wsV RX2 33 RX2 yX2_fail wsX2_fail) := goodIn_app (goodIn_of _ (by decide +kernel)) ggX2_foresee_X2_fail
set_option maxRecDepth 20000 in
theorem ggX2_foresee_X2_kept : GoodIn wsX2_foresee wsX2_kept := goodIn_r _ [13, 14, 15, 16, 17, 18, 19, 20, 21, 22, 88, 89, 90, 91, 92, 93] (by decide +kernel) (by decide +kernel)
set_option maxRecDepth 20000 in
theorem gX2_foresee_X2_kept : GoodIn wsX2_foresee (wsV RX2 108 RX2 yX2_kept wsX2_kept) := goodIn_app (goodIn_of _ (by decide +kernel)) ggX2_foresee_X2_kept
set_option maxRecDepth 20000 in
theorem ggX2_foresee_X2_all : GoodIn wsX2_foresee wsX2_all := goodIn_r _ [26, 27, 28, 29, 30, 4, 31, 15, 88, 89, 90, 91, 92, 93] (by decide +kernel) (by decide +kernel)
set_option maxRecDepth 20000 in
theorem gX2_foresee_X2_all : GoodIn wsX2_foresee (wsV RX2 81 RX2 yX2_all wsX2_all) := goodIn_app (goodIn_of _ (by decide +kernel)) ggX2_foresee_X2_all
set_option maxRecDepth 20000 in
theorem ggX2_foresee_X2_allPipes : GoodIn wsX2_foresee wsX2_allPipes := goodIn_r _ [35, 36, 37, 38, 39, 4, 40, 21, 88, 89, 90, 91, 92, 93] (by decide +kernel) (by decide +kernel)
set_option maxRecDepth 20000 in
theorem gX2_foresee_X2_allPipes : GoodIn wsX2_foresee (wsV RX2 84 RX2 yX2_allPipes wsX2_allPipes) := goodIn_app (goodIn_of _ (by decide +kernel)) ggX2_foresee_X2_allPipes
set_option maxRecDepth 20000 in
theorem ggX2_foresee_X2_daysOn : GoodIn wsX2_foresee wsX2_daysOn := goodIn_r _ [44, 45, 46, 47, 4, 48, 27, 36, 22, 49, 50, 51, 52, 28, 29, 30, 31, 15, 53, 54, 55, 56, 57, 58, 59, 60, 61, 62, 63, 64, 65, 66, 67, 68, 69, 70, 71, 37, 38, 39, 40, 21, 72, 73, 74, 75, 76, 77, 78, 79, 88, 89, 90, 91, 92, 93] (by decide +kernel) (by decide +kernel)
set_option maxRecDepth 20000 in
theorem gX2_foresee_X2_daysOn : GoodIn wsX2_foresee (wsV RX2 100 RX2 yX2_daysOn wsX2_daysOn) := goodIn_app (goodIn_of _ (by decide +kernel)) ggX2_foresee_X2_daysOn
set_option maxRecDepth 20000 in
theorem ggX2_foresee_X2_bringBack : GoodIn wsX2_foresee wsX2_bringBack := goodIn_r _ [83, 15, 84, 85, 86, 87, 21, 22, 88, 89, 90, 91, 92, 93] (by decide +kernel) (by decide +kernel)
set_option maxRecDepth 20000 in
theorem gX2_foresee_X2_bringBack : GoodIn wsX2_foresee (wsV RX2 112 RX2 yX2_bringBack wsX2_bringBack) := goodIn_app (goodIn_of _ (by decide +kernel)) ggX2_foresee_X2_bringBack
theorem dX2_foresee_0 : decode cX2_foresee 0 = .ok (.aload_n 0, 1) := by decide +kernel
theorem dX2_foresee_1 : decode cX2_foresee 1 = .ok (.iconst 0, 1) := by decide +kernel
theorem dX2_foresee_2 : decode cX2_foresee 2 = .ok (.putfield 19, 3) := by decide +kernel
theorem dX2_foresee_5 : decode cX2_foresee 5 = .ok (.iload_n 1, 1) := by decide +kernel
theorem dX2_foresee_6 : decode cX2_foresee 6 = .ok (.iconst 1, 1) := by decide +kernel
theorem dX2_foresee_7 : decode cX2_foresee 7 = .ok (.bipush 100, 2) := by decide +kernel
theorem dX2_foresee_9 : decode cX2_foresee 9 = .ok (.invokestatic 26, 3) := by decide +kernel
theorem dX2_foresee_12 : decode cX2_foresee 12 = .ok (.ifCond .ne 9, 3) := by decide +kernel
theorem dX2_foresee_15 : decode cX2_foresee 15 = .ok (.aload_n 0, 1) := by decide +kernel
theorem dX2_foresee_16 : decode cX2_foresee 16 = .ok (.iconst 1, 1) := by decide +kernel
theorem dX2_foresee_17 : decode cX2_foresee 17 = .ok (.invokevirtual 33, 3) := by decide +kernel
theorem dX2_foresee_20 : decode cX2_foresee 20 = .ok (.ireturn, 1) := by decide +kernel
theorem dX2_foresee_21 : decode cX2_foresee 21 = .ok (.iload_n 2, 1) := by decide +kernel
theorem dX2_foresee_22 : decode cX2_foresee 22 = .ok (.iconst 0, 1) := by decide +kernel
theorem dX2_foresee_23 : decode cX2_foresee 23 = .ok (.iconst 3, 1) := by decide +kernel
theorem dX2_foresee_24 : decode cX2_foresee 24 = .ok (.invokestatic 26, 3) := by decide +kernel
theorem dX2_foresee_27 : decode cX2_foresee 27 = .ok (.ifCond .ne 9, 3) := by decide +kernel
theorem dX2_foresee_30 : decode cX2_foresee 30 = .ok (.aload_n 0, 1) := by decide +kernel
theorem dX2_foresee_31 : decode cX2_foresee 31 = .ok (.iconst 2, 1) := by decide +kernel
theorem dX2_foresee_32 : decode cX2_foresee 32 = .ok (.invokevirtual 33, 3) := by decide +kernel
theorem dX2_foresee_35 : decode cX2_foresee 35 = .ok (.ireturn, 1) := by decide +kernel
theorem dX2_foresee_36 : decode cX2_foresee 36 = .ok (.aload_n 0, 1) := by decide +kernel
theorem dX2_foresee_37 : decode cX2_foresee 37 = .ok (.invokevirtual 108, 3) := by decide +kernel
theorem dX2_foresee_40 : decode cX2_foresee 40 = .ok (.astore_n 3, 1) := by decide +kernel
theorem dX2_foresee_41 : decode cX2_foresee 41 = .ok (.aload_n 0, 1) := by decide +kernel
theorem dX2_foresee_42 : decode cX2_foresee 42 = .ok (.bipush 6, 2) := by decide +kernel
theorem dX2_foresee_44 : decode cX2_foresee 44 = .ok (.invokevirtual 81, 3) := by decide +kernel
theorem dX2_foresee_47 : decode cX2_foresee 47 = .ok (.istore 4, 2) := by decide +kernel
theorem dX2_foresee_49 : decode cX2_foresee 49 = .ok (.aload_n 0, 1) := by decide +kernel
theorem dX2_foresee_50 : decode cX2_foresee 50 = .ok (.bipush 7, 2) := by decide +kernel
theorem dX2_foresee_52 : decode cX2_foresee 52 = .ok (.invokevirtual 84, 3) := by decide +kernel
theorem dX2_foresee_55 : decode cX2_foresee 55 = .ok (.istore 5, 2) := by decide +kernel
theorem dX2_foresee_57 : decode cX2_foresee 57 = .ok (.aload_n 0, 1) := by decide +kernel
theorem dX2_foresee_58 : decode cX2_foresee 58 = .ok (.iload_n 1, 1) := by decide +kernel
theorem dX2_foresee_59 : decode cX2_foresee 59 = .ok (.invokevirtual 100, 3) := by decide +kernel
theorem dX2_foresee_62 : decode cX2_foresee 62 = .ok (.iload_n 2, 1) := by decide +kernel
theorem dX2_foresee_63 : decode cX2_foresee 63 = .ok (.ifCond .ne 15, 3) := by decide +kernel
theorem dX2_foresee_66 : decode cX2_foresee 66 = .ok (.aload_n 0, 1) := by decide +kernel
theorem dX2_foresee_67 : decode cX2_foresee 67 = .ok (.bipush 6, 2) := by decide +kernel
theorem dX2_foresee_69 : decode cX2_foresee 69 = .ok (.invokevirtual 81, 3) := by decide +kernel
theorem dX2_foresee_72 : decode cX2_foresee 72 = .ok (.iload 4, 2) := by decide +kernel
theorem dX2_foresee_74 : decode cX2_foresee 74 = .ok (.isub, 1) := by decide +kernel
theorem dX2_foresee_75 : decode cX2_foresee 75 = .ok (.goto 38, 3) := by decide +kernel
theorem dX2_foresee_78 : decode cX2_foresee 78 = .ok (.iload_n 2, 1) := by decide +kernel
theorem dX2_foresee_79 : decode cX2_foresee 79 = .ok (.iconst 1, 1) := by decide +kernel
theorem dX2_foresee_80 : decode cX2_foresee 80 = .ok (.if_icmp .ne 15, 3) := by decide +kernel
theorem dX2_foresee_83 : decode cX2_foresee 83 = .ok (.aload_n 0, 1) := by decide +kernel
theorem dX2_foresee_84 : decode cX2_foresee 84 = .ok (.bipush 7, 2) := by decide +kernel
theorem dX2_foresee_86 : decode cX2_foresee 86 = .ok (.invokevirtual 84, 3) := by decide +kernel
theorem dX2_foresee_89 : decode cX2_foresee 89 = .ok (.iload 5, 2) := by decide +kernel
theorem dX2_foresee_91 : decode cX2_foresee 91 = .ok (.isub, 1) := by decide +kernel
theorem dX2_foresee_92 : decode cX2_foresee 92 = .ok (.goto 21, 3) := by decide +kernel
theorem dX2_foresee_95 : decode cX2_foresee 95 = .ok (.iload_n 2, 1) := by decide +kernel
theorem dX2_foresee_96 : decode cX2_foresee 96 = .ok (.iconst 2, 1) := by decide +kernel
theorem dX2_foresee_97 : decode cX2_foresee 97 = .ok (.if_icmp .ne 11, 3) := by decide +kernel
theorem dX2_foresee_100 : decode cX2_foresee 100 = .ok (.aload_n 0, 1) := by decide +kernel
theorem dX2_foresee_101 : decode cX2_foresee 101 = .ok (.iconst 3, 1) := by decide +kernel
theorem dX2_foresee_102 : decode cX2_foresee 102 = .ok (.invokevirtual 81, 3) := by decide +kernel
theorem dX2_foresee_105 : decode cX2_foresee 105 = .ok (.goto 8, 3) := by decide +kernel
theorem dX2_foresee_108 : decode cX2_foresee 108 = .ok (.aload_n 0, 1) := by decide +kernel
theorem dX2_foresee_109 : decode cX2_foresee 109 = .ok (.iconst 4, 1) := by decide +kernel
theorem dX2_foresee_110 : decode cX2_foresee 110 = .ok (.invokevirtual 84, 3) := by decide +kernel
theorem dX2_foresee_113 : decode cX2_foresee 113 = .ok (.istore 6, 2) := by decide +kernel
theorem dX2_foresee_115 : decode cX2_foresee 115 = .ok (.aload_n 0, 1) := by decide +kernel
theorem dX2_foresee_116 : decode cX2_foresee 116 = .ok (.aload_n 3, 1) := by decide +kernel
theorem dX2_foresee_117 : decode cX2_foresee 117 = .ok (.invokevirtual 112, 3) := by decide +kernel
theorem dX2_foresee_120 : decode cX2_foresee 120 = .ok (.iload 6, 2) := by decide +kernel
theorem dX2_foresee_122 : decode cX2_foresee 122 = .ok (.ireturn, 1) := by decide +kernel
set_option maxRecDepth 20000 in
theorem ggX2_advise_X2_isIn : GoodIn wsX2_advise wsX2_isIn := goodIn_r _ [6] (by decide +kernel) (by decide +kernel)
set_option maxRecDepth 20000 in
theorem gX2_advise_X2_isIn : GoodIn wsX2_advise (va_wsS RX2 26 yX2_isIn wsX2_isIn) := goodIn_app (goodIn_of _ (by decide +kernel)) ggX2_advise_X2_isIn
set_option maxRecDepth 20000 in
theorem ggX2_advise_X2_fail : GoodIn wsX2_advise wsX2_fail := goodIn_r _ [10, 1, 84, 85, 86, 87, 88, 89] (by decide +kernel) (by decide +kernel)
set_option maxRecDepth 20000 in
theorem gX2_advise_X2_fail : GoodIn wsX2_advise (wsV RX2 33 RX2 yX2_fail wsX2_fail) := goodIn_app (goodIn_of _ (by decide +kernel)) ggX2_advise_X2_fail
set_option maxRecDepth 20000 in
theorem ggX2_advise_X2_kept : GoodIn wsX2_advise wsX2_kept := goodIn_r _ [14, 15, 16, 17, 18, 19, 20, 21, 22, 23, 84, 85, 86, 87, 88, 89] (by decide +kernel) (by decide +kernel)
set_option maxRecDepth 20000 in
theorem gX2_advise_X2_kept : GoodIn wsX2_advise (wsV RX2 108 RX2 yX2_kept wsX2_kept) := goodIn_app (goodIn_of _ (by decide +kernel)) ggX2_advise_X2_kept
set_option maxRecDepth 20000 in
theorem ggX2_advise_X2_daysOn : GoodIn wsX2_advise wsX2_daysOn := goodIn_r _ [27, 28, 29, 30, 5, 31, 32, 2, 23, 33, 34, 35, 36, 37, 38, 39, 40, 16, 41, 42, 43, 44, 45, 46, 47, 48, 49, 50, 51, 52, 53, 54, 55, 56, 57, 58, 59, 60, 61, 62, 63, 22, 64, 65, 66, 67, 68, 69, 70, 71, 84, 85, 86, 87, 88, 89] (by decide +kernel) (by decide +kernel)
set_option maxRecDepth 20000 in
theorem gX2_advise_X2_daysOn : GoodIn wsX2_advise (wsV RX2 100 RX2 yX2_daysOn wsX2_daysOn) := goodIn_app (goodIn_of _ (by decide +kernel)) ggX2_advise_X2_daysOn
set_option maxRecDepth 20000 in
theorem ggX2_advise_X2_all : GoodIn wsX2_advise wsX2_all := goodIn_r _ [75, 32, 37, 38, 39, 5, 40, 16, 84, 85, 86, 87, 88, 89] (by decide +kernel) (by decide +kernel)
set_option maxRecDepth 20000 in
theorem gX2_advise_X2_all : GoodIn wsX2_advise (wsV RX2 81 RX2 yX2_all wsX2_all) := goodIn_app (goodIn_of _ (by decide +kernel)) ggX2_advise_X2_all
set_option maxRecDepth 20000 in
theorem ggX2_advise_X2_bringBack : GoodIn wsX2_advise wsX2_bringBack := goodIn_r _ [79, 16, 80, 81, 82, 83, 22, 23, 84, 85, 86, 87, 88, 89] (by decide +kernel) (by decide +kernel)
set_option maxRecDepth 20000 in
theorem gX2_advise_X2_bringBack : GoodIn wsX2_advise (wsV RX2 112 RX2 yX2_bringBack wsX2_bringBack) := goodIn_app (goodIn_of _ (by decide +kernel)) ggX2_advise_X2_bringBack
set_option maxRecDepth 20000 in
theorem ggX2_advise_X2_setPipe : GoodIn wsX2_advise wsX2_setPipe := goodIn_r _ [71, 22, 84, 85, 86, 87, 88, 89] (by decide +kernel) (by decide +kernel)
set_option maxRecDepth 20000 in
theorem gX2_advise_X2_setPipe : GoodIn wsX2_advise (wsV RX2 61 RX2 yX2_setPipe wsX2_setPipe) := goodIn_app (goodIn_of _ (by decide +kernel)) ggX2_advise_X2_setPipe
theorem dX2_advise_0 : decode cX2_advise 0 = .ok (.aload_n 0, 1) := by decide +kernel
theorem dX2_advise_1 : decode cX2_advise 1 = .ok (.iconst 0, 1) := by decide +kernel
theorem dX2_advise_2 : decode cX2_advise 2 = .ok (.putfield 19, 3) := by decide +kernel
theorem dX2_advise_5 : decode cX2_advise 5 = .ok (.iload_n 1, 1) := by decide +kernel
theorem dX2_advise_6 : decode cX2_advise 6 = .ok (.iconst 1, 1) := by decide +kernel
theorem dX2_advise_7 : decode cX2_advise 7 = .ok (.bipush 60, 2) := by decide +kernel
theorem dX2_advise_9 : decode cX2_advise 9 = .ok (.invokestatic 26, 3) := by decide +kernel
theorem dX2_advise_12 : decode cX2_advise 12 = .ok (.ifCond .ne 9, 3) := by decide +kernel
theorem dX2_advise_15 : decode cX2_advise 15 = .ok (.aload_n 0, 1) := by decide +kernel
theorem dX2_advise_16 : decode cX2_advise 16 = .ok (.iconst 1, 1) := by decide +kernel
theorem dX2_advise_17 : decode cX2_advise 17 = .ok (.invokevirtual 33, 3) := by decide +kernel
theorem dX2_advise_20 : decode cX2_advise 20 = .ok (.ireturn, 1) := by decide +kernel
theorem dX2_advise_21 : decode cX2_advise 21 = .ok (.aload_n 0, 1) := by decide +kernel
theorem dX2_advise_22 : decode cX2_advise 22 = .ok (.invokevirtual 108, 3) := by decide +kernel
theorem dX2_advise_25 : decode cX2_advise 25 = .ok (.astore_n 2, 1) := by decide +kernel
theorem dX2_advise_26 : decode cX2_advise 26 = .ok (.aload_n 0, 1) := by decide +kernel
theorem dX2_advise_27 : decode cX2_advise 27 = .ok (.iload_n 1, 1) := by decide +kernel
theorem dX2_advise_28 : decode cX2_advise 28 = .ok (.invokevirtual 100, 3) := by decide +kernel
theorem dX2_advise_31 : decode cX2_advise 31 = .ok (.iconst (-1), 1) := by decide +kernel
theorem dX2_advise_32 : decode cX2_advise 32 = .ok (.istore_n 3, 1) := by decide +kernel
theorem dX2_advise_33 : decode cX2_advise 33 = .ok (.aload_n 0, 1) := by decide +kernel
theorem dX2_advise_34 : decode cX2_advise 34 = .ok (.bipush 6, 2) := by decide +kernel
theorem dX2_advise_36 : decode cX2_advise 36 = .ok (.invokevirtual 81, 3) := by decide +kernel
theorem dX2_advise_39 : decode cX2_advise 39 = .ok (.istore 4, 2) := by decide +kernel
theorem dX2_advise_41 : decode cX2_advise 41 = .ok (.aload_n 0, 1) := by decide +kernel
theorem dX2_advise_42 : decode cX2_advise 42 = .ok (.aload_n 2, 1) := by decide +kernel
theorem dX2_advise_43 : decode cX2_advise 43 = .ok (.invokevirtual 112, 3) := by decide +kernel
theorem dX2_advise_46 : decode cX2_advise 46 = .ok (.iconst 0, 1) := by decide +kernel
theorem dX2_advise_47 : decode cX2_advise 47 = .ok (.istore 5, 2) := by decide +kernel
theorem dX2_advise_49 : decode cX2_advise 49 = .ok (.iload 5, 2) := by decide +kernel
theorem dX2_advise_51 : decode cX2_advise 51 = .ok (.aload_n 0, 1) := by decide +kernel
theorem dX2_advise_52 : decode cX2_advise 52 = .ok (.getfield 30, 3) := by decide +kernel
theorem dX2_advise_55 : decode cX2_advise 55 = .ok (.if_icmp .ge 52, 3) := by decide +kernel
theorem dX2_advise_58 : decode cX2_advise 58 = .ok (.aload_n 0, 1) := by decide +kernel
theorem dX2_advise_59 : decode cX2_advise 59 = .ok (.iload 5, 2) := by decide +kernel
theorem dX2_advise_61 : decode cX2_advise 61 = .ok (.iconst 4, 1) := by decide +kernel
theorem dX2_advise_62 : decode cX2_advise 62 = .ok (.iconst 0, 1) := by decide +kernel
theorem dX2_advise_63 : decode cX2_advise 63 = .ok (.invokevirtual 61, 3) := by decide +kernel
theorem dX2_advise_66 : decode cX2_advise 66 = .ok (.aload_n 0, 1) := by decide +kernel
theorem dX2_advise_67 : decode cX2_advise 67 = .ok (.iload_n 1, 1) := by decide +kernel
theorem dX2_advise_68 : decode cX2_advise 68 = .ok (.invokevirtual 100, 3) := by decide +kernel
theorem dX2_advise_71 : decode cX2_advise 71 = .ok (.aload_n 0, 1) := by decide +kernel
theorem dX2_advise_72 : decode cX2_advise 72 = .ok (.bipush 6, 2) := by decide +kernel
theorem dX2_advise_74 : decode cX2_advise 74 = .ok (.invokevirtual 81, 3) := by decide +kernel
theorem dX2_advise_77 : decode cX2_advise 77 = .ok (.istore 6, 2) := by decide +kernel
theorem dX2_advise_79 : decode cX2_advise 79 = .ok (.aload_n 0, 1) := by decide +kernel
theorem dX2_advise_80 : decode cX2_advise 80 = .ok (.aload_n 2, 1) := by decide +kernel
theorem dX2_advise_81 : decode cX2_advise 81 = .ok (.invokevirtual 112, 3) := by decide +kernel
theorem dX2_advise_84 : decode cX2_advise 84 = .ok (.iload 6, 2) := by decide +kernel
theorem dX2_advise_86 : decode cX2_advise 86 = .ok (.iload 4, 2) := by decide +kernel
theorem dX2_advise_88 : decode cX2_advise 88 = .ok (.if_icmp .gt 6, 3) := by decide +kernel
theorem dX2_advise_91 : decode cX2_advise 91 = .ok (.goto 10, 3) := by decide +kernel
theorem dX2_advise_94 : decode cX2_advise 94 = .ok (.iload 5, 2) := by decide +kernel
theorem dX2_advise_96 : decode cX2_advise 96 = .ok (.istore_n 3, 1) := by decide +kernel
theorem dX2_advise_97 : decode cX2_advise 97 = .ok (.iload 6, 2) := by decide +kernel
theorem dX2_advise_99 : decode cX2_advise 99 = .ok (.istore 4, 2) := by decide +kernel
theorem dX2_advise_101 : decode cX2_advise 101 = .ok (.iinc 5 1, 3) := by decide +kernel
theorem dX2_advise_104 : decode cX2_advise 104 = .ok (.goto (-55), 3) := by decide +kernel
theorem dX2_advise_107 : decode cX2_advise 107 = .ok (.iload_n 3, 1) := by decide +kernel
theorem dX2_advise_108 : decode cX2_advise 108 = .ok (.ireturn, 1) := by decide +kernel
set_option maxRecDepth 20000 in
theorem ggX2_sated_X2_isTank : GoodIn wsX2_sated wsX2_isTank := goodIn_r _ [6, 7, 8, 9, 5, 10, 80, 81, 82, 83, 84, 85] (by decide +kernel) (by decide +kernel)
set_option maxRecDepth 20000 in
theorem gX2_sated_X2_isTank : GoodIn wsX2_sated (wsV RX2 43 RX2 yX2_isTank wsX2_isTank) := goodIn_app (goodIn_of _ (by decide +kernel)) ggX2_sated_X2_isTank
set_option maxRecDepth 20000 in
theorem ggX2_sated_X2_fail : GoodIn wsX2_sated wsX2_fail := goodIn_r _ [14, 1, 80, 81, 82, 83, 84, 85] (by decide +kernel) (by decide +kernel)
set_option maxRecDepth 20000 in
theorem gX2_sated_X2_fail : GoodIn wsX2_sated (wsV RX2 33 RX2 yX2_fail wsX2_fail) := goodIn_app (goodIn_of _ (by decide +kernel)) ggX2_sated_X2_fail
set_option maxRecDepth 20000 in
theorem ggX2_sated_X2_kept : GoodIn wsX2_sated wsX2_kept := goodIn_r _ [18, 19, 20, 21, 22, 23, 24, 25, 26, 27, 80, 81, 82, 83, 84, 85] (by decide +kernel) (by decide +kernel)
set_option maxRecDepth 20000 in
theorem gX2_sated_X2_kept : GoodIn wsX2_sated (wsV RX2 108 RX2 yX2_kept wsX2_kept) := goodIn_app (goodIn_of _ (by decide +kernel)) ggX2_sated_X2_kept
set_option maxRecDepth 20000 in
theorem ggX2_sated_X2_dayOn : GoodIn wsX2_sated wsX2_dayOn := goodIn_r _ [31, 7, 32, 27, 33, 34, 35, 36, 37, 38, 39, 5, 40, 20, 41, 42, 43, 44, 45, 46, 47, 48, 49, 50, 51, 52, 53, 54, 55, 56, 57, 58, 59, 60, 61, 62, 63, 26, 64, 65, 66, 67, 68, 69, 70, 71, 80, 81, 82, 83, 84, 85] (by decide +kernel) (by decide +kernel)
set_option maxRecDepth 20000 in
theorem gX2_sated_X2_dayOn : GoodIn wsX2_sated (wsV RX2 97 RX2 yX2_dayOn wsX2_dayOn) := goodIn_app (goodIn_of _ (by decide +kernel)) ggX2_sated_X2_dayOn
set_option maxRecDepth 20000 in
theorem ggX2_sated_X2_la : GoodIn wsX2_sated wsX2_la := goodIn_r _ [40, 20, 80, 81, 82, 83, 84, 85] (by decide +kernel) (by decide +kernel)
set_option maxRecDepth 20000 in
theorem gX2_sated_X2_la : GoodIn wsX2_sated (wsV RX2 47 RX2 yX2_la wsX2_la) := goodIn_app (goodIn_of _ (by decide +kernel)) ggX2_sated_X2_la
set_option maxRecDepth 20000 in
theorem ggX2_sated_X2_bringBack : GoodIn wsX2_sated wsX2_bringBack := goodIn_r _ [75, 20, 76, 77, 78, 79, 26, 27, 80, 81, 82, 83, 84, 85] (by decide +kernel) (by decide +kernel)
set_option maxRecDepth 20000 in
theorem gX2_sated_X2_bringBack : GoodIn wsX2_sated (wsV RX2 112 RX2 yX2_bringBack wsX2_bringBack) := goodIn_app (goodIn_of _ (by decide +kernel)) ggX2_sated_X2_bringBack
theorem dX2_sated_0 : decode cX2_sated 0 = .ok (.aload_n 0, 1) := by decide +kernel
theorem dX2_sated_1 : decode cX2_sated 1 = .ok (.iconst 0, 1) := by decide +kernel
theorem dX2_sated_2 : decode cX2_sated 2 = .ok (.putfield 19, 3) := by decide +kernel
theorem dX2_sated_5 : decode cX2_sated 5 = .ok (.aload_n 0, 1) := by decide +kernel
theorem dX2_sated_6 : decode cX2_sated 6 = .ok (.iload_n 1, 1) := by decide +kernel
theorem dX2_sated_7 : decode cX2_sated 7 = .ok (.invokevirtual 43, 3) := by decide +kernel
theorem dX2_sated_10 : decode cX2_sated 10 = .ok (.ifCond .ne 9, 3) := by decide +kernel
theorem dX2_sated_13 : decode cX2_sated 13 = .ok (.aload_n 0, 1) := by decide +kernel
theorem dX2_sated_14 : decode cX2_sated 14 = .ok (.iconst 1, 1) := by decide +kernel
theorem dX2_sated_15 : decode cX2_sated 15 = .ok (.invokevirtual 33, 3) := by decide +kernel
theorem dX2_sated_18 : decode cX2_sated 18 = .ok (.ireturn, 1) := by decide +kernel
theorem dX2_sated_19 : decode cX2_sated 19 = .ok (.aload_n 0, 1) := by decide +kernel
theorem dX2_sated_20 : decode cX2_sated 20 = .ok (.invokevirtual 108, 3) := by decide +kernel
theorem dX2_sated_23 : decode cX2_sated 23 = .ok (.astore_n 2, 1) := by decide +kernel
theorem dX2_sated_24 : decode cX2_sated 24 = .ok (.iconst (-1), 1) := by decide +kernel
theorem dX2_sated_25 : decode cX2_sated 25 = .ok (.istore_n 3, 1) := by decide +kernel
theorem dX2_sated_26 : decode cX2_sated 26 = .ok (.iconst 1, 1) := by decide +kernel
theorem dX2_sated_27 : decode cX2_sated 27 = .ok (.istore 4, 2) := by decide +kernel
theorem dX2_sated_29 : decode cX2_sated 29 = .ok (.iload 4, 2) := by decide +kernel
theorem dX2_sated_31 : decode cX2_sated 31 = .ok (.bipush 100, 2) := by decide +kernel
theorem dX2_sated_33 : decode cX2_sated 33 = .ok (.if_icmp .gt 36, 3) := by decide +kernel
theorem dX2_sated_36 : decode cX2_sated 36 = .ok (.iload_n 3, 1) := by decide +kernel
theorem dX2_sated_37 : decode cX2_sated 37 = .ok (.iconst (-1), 1) := by decide +kernel
theorem dX2_sated_38 : decode cX2_sated 38 = .ok (.if_icmp .ne 31, 3) := by decide +kernel
theorem dX2_sated_41 : decode cX2_sated 41 = .ok (.aload_n 0, 1) := by decide +kernel
theorem dX2_sated_42 : decode cX2_sated 42 = .ok (.invokevirtual 97, 3) := by decide +kernel
theorem dX2_sated_45 : decode cX2_sated 45 = .ok (.aload_n 0, 1) := by decide +kernel
theorem dX2_sated_46 : decode cX2_sated 46 = .ok (.iload_n 1, 1) := by decide +kernel
theorem dX2_sated_47 : decode cX2_sated 47 = .ok (.iconst 5, 1) := by decide +kernel
theorem dX2_sated_48 : decode cX2_sated 48 = .ok (.invokevirtual 47, 3) := by decide +kernel
theorem dX2_sated_51 : decode cX2_sated 51 = .ok (.aload_n 0, 1) := by decide +kernel
theorem dX2_sated_52 : decode cX2_sated 52 = .ok (.iload_n 1, 1) := by decide +kernel
theorem dX2_sated_53 : decode cX2_sated 53 = .ok (.iconst 2, 1) := by decide +kernel
theorem dX2_sated_54 : decode cX2_sated 54 = .ok (.invokevirtual 47, 3) := by decide +kernel
theorem dX2_sated_57 : decode cX2_sated 57 = .ok (.if_icmp .ne 6, 3) := by decide +kernel
theorem dX2_sated_60 : decode cX2_sated 60 = .ok (.iload 4, 2) := by decide +kernel
theorem dX2_sated_62 : decode cX2_sated 62 = .ok (.istore_n 3, 1) := by decide +kernel
theorem dX2_sated_63 : decode cX2_sated 63 = .ok (.iinc 4 1, 3) := by decide +kernel
theorem dX2_sated_66 : decode cX2_sated 66 = .ok (.goto (-37), 3) := by decide +kernel
theorem dX2_sated_69 : decode cX2_sated 69 = .ok (.aload_n 0, 1) := by decide +kernel
theorem dX2_sated_70 : decode cX2_sated 70 = .ok (.aload_n 2, 1) := by decide +kernel
theorem dX2_sated_71 : decode cX2_sated 71 = .ok (.invokevirtual 112, 3) := by decide +kernel
theorem dX2_sated_74 : decode cX2_sated 74 = .ok (.iload_n 3, 1) := by decide +kernel
theorem dX2_sated_75 : decode cX2_sated 75 = .ok (.ireturn, 1) := by decide +kernel
set_option maxRecDepth 20000 in
theorem ggX2_mean_X2_all : GoodIn wsX2_mean wsX2_all := goodIn_r _ [7, 8, 9, 10, 11, 6, 12, 13, 14, 15, 16, 17, 18, 19] (by decide +kernel) (by decide +kernel)
set_option maxRecDepth 20000 in
theorem gX2_mean_X2_all : GoodIn wsX2_mean (wsV RX2 81 RX2 yX2_all wsX2_all) := goodIn_app (goodIn_of _ (by decide +kernel)) ggX2_mean_X2_all
theorem dX2_mean_0 : decode cX2_mean 0 = .ok (.aload_n 0, 1) := by decide +kernel
theorem dX2_mean_1 : decode cX2_mean 1 = .ok (.iconst 0, 1) := by decide +kernel
theorem dX2_mean_2 : decode cX2_mean 2 = .ok (.putfield 19, 3) := by decide +kernel
theorem dX2_mean_5 : decode cX2_mean 5 = .ok (.aload_n 0, 1) := by decide +kernel
theorem dX2_mean_6 : decode cX2_mean 6 = .ok (.getfield 16, 3) := by decide +kernel
theorem dX2_mean_9 : decode cX2_mean 9 = .ok (.iconst 0, 1) := by decide +kernel
theorem dX2_mean_10 : decode cX2_mean 10 = .ok (.iaload, 1) := by decide +kernel
theorem dX2_mean_11 : decode cX2_mean 11 = .ok (.ifCond .ne 7, 3) := by decide +kernel
theorem dX2_mean_14 : decode cX2_mean 14 = .ok (.dconst 0, 1) := by decide +kernel
theorem dX2_mean_15 : decode cX2_mean 15 = .ok (.goto 18, 3) := by decide +kernel
theorem dX2_mean_18 : decode cX2_mean 18 = .ok (.aload_n 0, 1) := by decide +kernel
theorem dX2_mean_19 : decode cX2_mean 19 = .ok (.bipush 6, 2) := by decide +kernel
theorem dX2_mean_21 : decode cX2_mean 21 = .ok (.invokevirtual 81, 3) := by decide +kernel
theorem dX2_mean_24 : decode cX2_mean 24 = .ok (.i2d, 1) := by decide +kernel
theorem dX2_mean_25 : decode cX2_mean 25 = .ok (.aload_n 0, 1) := by decide +kernel
theorem dX2_mean_26 : decode cX2_mean 26 = .ok (.getfield 16, 3) := by decide +kernel
theorem dX2_mean_29 : decode cX2_mean 29 = .ok (.iconst 0, 1) := by decide +kernel
theorem dX2_mean_30 : decode cX2_mean 30 = .ok (.iaload, 1) := by decide +kernel
theorem dX2_mean_31 : decode cX2_mean 31 = .ok (.i2d, 1) := by decide +kernel
theorem dX2_mean_32 : decode cX2_mean 32 = .ok (.ddiv, 1) := by decide +kernel
theorem dX2_mean_33 : decode cX2_mean 33 = .ok (.dreturn, 1) := by decide +kernel
set_option maxRecDepth 20000 in
theorem ggX2_digest_X2_counted : GoodIn wsX2_digest wsX2_counted := goodIn_r _ [10, 11, 4, 5, 12, 13, 14, 9, 15, 16, 17, 18, 19, 20, 21, 22, 23, 24, 25, 26, 27, 28, 29, 49, 50, 51, 52, 53, 54] (by decide +kernel) (by decide +kernel)
set_option maxRecDepth 20000 in
theorem gX2_digest_X2_counted : GoodIn wsX2_digest (wsV RX2 87 RX2 yX2_counted wsX2_counted) := goodIn_app (goodIn_of _ (by decide +kernel)) ggX2_digest_X2_counted
set_option maxRecDepth 20000 in
theorem ggX2_digest_X2_la : GoodIn wsX2_digest wsX2_la := goodIn_r _ [19, 20, 49, 50, 51, 52, 53, 54] (by decide +kernel) (by decide +kernel)
set_option maxRecDepth 20000 in
theorem gX2_digest_X2_la : GoodIn wsX2_digest (wsV RX2 47 RX2 yX2_la wsX2_la) := goodIn_app (goodIn_of _ (by decide +kernel)) ggX2_digest_X2_la
set_option maxRecDepth 20000 in
theorem ggX2_digest_X2_pipeTold : GoodIn wsX2_digest wsX2_pipeTold := goodIn_r _ [33, 34, 35, 36, 9, 37, 38, 39, 40, 41, 42, 43, 44, 25, 26, 27, 28, 29, 45, 46, 47, 48, 16, 17, 18, 19, 20, 49, 50, 51, 52, 53, 54] (by decide +kernel) (by decide +kernel)
set_option maxRecDepth 20000 in
theorem gX2_digest_X2_pipeTold : GoodIn wsX2_digest (wsV RX2 78 RX2 yX2_pipeTold wsX2_pipeTold) := goodIn_app (goodIn_of _ (by decide +kernel)) ggX2_digest_X2_pipeTold
set_option maxRecDepth 20000 in
theorem ggX2_digest_X2_li : GoodIn wsX2_digest wsX2_li := goodIn_r _ [28, 29, 49, 50, 51, 52, 53, 54] (by decide +kernel) (by decide +kernel)
set_option maxRecDepth 20000 in
theorem gX2_digest_X2_li : GoodIn wsX2_digest (wsV RX2 58 RX2 yX2_li wsX2_li) := goodIn_app (goodIn_of _ (by decide +kernel)) ggX2_digest_X2_li
theorem dX2_digest_0 : decode cX2_digest 0 = .ok (.aload_n 0, 1) := by decide +kernel
theorem dX2_digest_1 : decode cX2_digest 1 = .ok (.iconst 0, 1) := by decide +kernel
theorem dX2_digest_2 : decode cX2_digest 2 = .ok (.putfield 19, 3) := by decide +kernel
theorem dX2_digest_5 : decode cX2_digest 5 = .ok (.ldc2_w 116, 3) := by decide +kernel
theorem dX2_digest_8 : decode cX2_digest 8 = .ok (.lstore_n 1, 1) := by decide +kernel
theorem dX2_digest_9 : decode cX2_digest 9 = .ok (.iconst 0, 1) := by decide +kernel
theorem dX2_digest_10 : decode cX2_digest 10 = .ok (.istore_n 3, 1) := by decide +kernel
theorem dX2_digest_11 : decode cX2_digest 11 = .ok (.iload_n 3, 1) := by decide +kernel
theorem dX2_digest_12 : decode cX2_digest 12 = .ok (.bipush 9, 2) := by decide +kernel
theorem dX2_digest_14 : decode cX2_digest 14 = .ok (.if_icmp .ge 22, 3) := by decide +kernel
theorem dX2_digest_17 : decode cX2_digest 17 = .ok (.lload_n 1, 1) := by decide +kernel
theorem dX2_digest_18 : decode cX2_digest 18 = .ok (.ldc2_w 118, 3) := by decide +kernel
theorem dX2_digest_21 : decode cX2_digest 21 = .ok (.lmul, 1) := by decide +kernel
theorem dX2_digest_22 : decode cX2_digest 22 = .ok (.aload_n 0, 1) := by decide +kernel
theorem dX2_digest_23 : decode cX2_digest 23 = .ok (.iload_n 3, 1) := by decide +kernel
theorem dX2_digest_24 : decode cX2_digest 24 = .ok (.invokevirtual 87, 3) := by decide +kernel
theorem dX2_digest_27 : decode cX2_digest 27 = .ok (.i2l, 1) := by decide +kernel
theorem dX2_digest_28 : decode cX2_digest 28 = .ok (.ladd, 1) := by decide +kernel
theorem dX2_digest_29 : decode cX2_digest 29 = .ok (.lstore_n 1, 1) := by decide +kernel
theorem dX2_digest_30 : decode cX2_digest 30 = .ok (.iinc 3 1, 3) := by decide +kernel
theorem dX2_digest_33 : decode cX2_digest 33 = .ok (.goto (-22), 3) := by decide +kernel
theorem dX2_digest_36 : decode cX2_digest 36 = .ok (.iconst 0, 1) := by decide +kernel
theorem dX2_digest_37 : decode cX2_digest 37 = .ok (.istore_n 3, 1) := by decide +kernel
theorem dX2_digest_38 : decode cX2_digest 38 = .ok (.iload_n 3, 1) := by decide +kernel
theorem dX2_digest_39 : decode cX2_digest 39 = .ok (.aload_n 0, 1) := by decide +kernel
theorem dX2_digest_40 : decode cX2_digest 40 = .ok (.getfield 23, 3) := by decide +kernel
theorem dX2_digest_43 : decode cX2_digest 43 = .ok (.if_icmp .ge 40, 3) := by decide +kernel
theorem dX2_digest_46 : decode cX2_digest 46 = .ok (.iconst 0, 1) := by decide +kernel
theorem dX2_digest_47 : decode cX2_digest 47 = .ok (.istore 4, 2) := by decide +kernel
theorem dX2_digest_49 : decode cX2_digest 49 = .ok (.iload 4, 2) := by decide +kernel
theorem dX2_digest_51 : decode cX2_digest 51 = .ok (.bipush 8, 2) := by decide +kernel
theorem dX2_digest_53 : decode cX2_digest 53 = .ok (.if_icmp .ge 24, 3) := by decide +kernel
theorem dX2_digest_56 : decode cX2_digest 56 = .ok (.lload_n 1, 1) := by decide +kernel
theorem dX2_digest_57 : decode cX2_digest 57 = .ok (.ldc2_w 118, 3) := by decide +kernel
theorem dX2_digest_60 : decode cX2_digest 60 = .ok (.lmul, 1) := by decide +kernel
theorem dX2_digest_61 : decode cX2_digest 61 = .ok (.aload_n 0, 1) := by decide +kernel
theorem dX2_digest_62 : decode cX2_digest 62 = .ok (.iload_n 3, 1) := by decide +kernel
theorem dX2_digest_63 : decode cX2_digest 63 = .ok (.iload 4, 2) := by decide +kernel
theorem dX2_digest_65 : decode cX2_digest 65 = .ok (.invokevirtual 47, 3) := by decide +kernel
theorem dX2_digest_68 : decode cX2_digest 68 = .ok (.i2l, 1) := by decide +kernel
theorem dX2_digest_69 : decode cX2_digest 69 = .ok (.ladd, 1) := by decide +kernel
theorem dX2_digest_70 : decode cX2_digest 70 = .ok (.lstore_n 1, 1) := by decide +kernel
theorem dX2_digest_71 : decode cX2_digest 71 = .ok (.iinc 4 1, 3) := by decide +kernel
theorem dX2_digest_74 : decode cX2_digest 74 = .ok (.goto (-25), 3) := by decide +kernel
theorem dX2_digest_77 : decode cX2_digest 77 = .ok (.iinc 3 1, 3) := by decide +kernel
theorem dX2_digest_80 : decode cX2_digest 80 = .ok (.goto (-42), 3) := by decide +kernel
theorem dX2_digest_83 : decode cX2_digest 83 = .ok (.iconst 0, 1) := by decide +kernel
theorem dX2_digest_84 : decode cX2_digest 84 = .ok (.istore_n 3, 1) := by decide +kernel
theorem dX2_digest_85 : decode cX2_digest 85 = .ok (.iload_n 3, 1) := by decide +kernel
theorem dX2_digest_86 : decode cX2_digest 86 = .ok (.aload_n 0, 1) := by decide +kernel
theorem dX2_digest_87 : decode cX2_digest 87 = .ok (.getfield 30, 3) := by decide +kernel
theorem dX2_digest_90 : decode cX2_digest 90 = .ok (.if_icmp .ge 55, 3) := by decide +kernel
theorem dX2_digest_93 : decode cX2_digest 93 = .ok (.iconst 0, 1) := by decide +kernel
theorem dX2_digest_94 : decode cX2_digest 94 = .ok (.istore 4, 2) := by decide +kernel
theorem dX2_digest_96 : decode cX2_digest 96 = .ok (.iload 4, 2) := by decide +kernel
theorem dX2_digest_98 : decode cX2_digest 98 = .ok (.bipush 9, 2) := by decide +kernel
theorem dX2_digest_100 : decode cX2_digest 100 = .ok (.if_icmp .ge 24, 3) := by decide +kernel
theorem dX2_digest_103 : decode cX2_digest 103 = .ok (.lload_n 1, 1) := by decide +kernel
theorem dX2_digest_104 : decode cX2_digest 104 = .ok (.ldc2_w 118, 3) := by decide +kernel
theorem dX2_digest_107 : decode cX2_digest 107 = .ok (.lmul, 1) := by decide +kernel
theorem dX2_digest_108 : decode cX2_digest 108 = .ok (.aload_n 0, 1) := by decide +kernel
theorem dX2_digest_109 : decode cX2_digest 109 = .ok (.iload_n 3, 1) := by decide +kernel
theorem dX2_digest_110 : decode cX2_digest 110 = .ok (.iload 4, 2) := by decide +kernel
theorem dX2_digest_112 : decode cX2_digest 112 = .ok (.invokevirtual 78, 3) := by decide +kernel
theorem dX2_digest_115 : decode cX2_digest 115 = .ok (.i2l, 1) := by decide +kernel
theorem dX2_digest_116 : decode cX2_digest 116 = .ok (.ladd, 1) := by decide +kernel
theorem dX2_digest_117 : decode cX2_digest 117 = .ok (.lstore_n 1, 1) := by decide +kernel
theorem dX2_digest_118 : decode cX2_digest 118 = .ok (.iinc 4 1, 3) := by decide +kernel
theorem dX2_digest_121 : decode cX2_digest 121 = .ok (.goto (-25), 3) := by decide +kernel
theorem dX2_digest_124 : decode cX2_digest 124 = .ok (.lload_n 1, 1) := by decide +kernel
theorem dX2_digest_125 : decode cX2_digest 125 = .ok (.ldc2_w 118, 3) := by decide +kernel
theorem dX2_digest_128 : decode cX2_digest 128 = .ok (.lmul, 1) := by decide +kernel
theorem dX2_digest_129 : decode cX2_digest 129 = .ok (.aload_n 0, 1) := by decide +kernel
theorem dX2_digest_130 : decode cX2_digest 130 = .ok (.iload_n 3, 1) := by decide +kernel
theorem dX2_digest_131 : decode cX2_digest 131 = .ok (.bipush 8, 2) := by decide +kernel
theorem dX2_digest_133 : decode cX2_digest 133 = .ok (.invokevirtual 58, 3) := by decide +kernel
theorem dX2_digest_136 : decode cX2_digest 136 = .ok (.i2l, 1) := by decide +kernel
theorem dX2_digest_137 : decode cX2_digest 137 = .ok (.ladd, 1) := by decide +kernel
theorem dX2_digest_138 : decode cX2_digest 138 = .ok (.lstore_n 1, 1) := by decide +kernel
theorem dX2_digest_139 : decode cX2_digest 139 = .ok (.iinc 3 1, 3) := by decide +kernel
theorem dX2_digest_142 : decode cX2_digest 142 = .ok (.goto (-57), 3) := by decide +kernel
theorem dX2_digest_145 : decode cX2_digest 145 = .ok (.lload_n 1, 1) := by decide +kernel
theorem dX2_digest_146 : decode cX2_digest 146 = .ok (.lreturn, 1) := by decide +kernel
theorem dJ9_max_7cf53_0 : decode cJ9_max_7cf53 0 = .ok (.iload_n 0, 1) := by decide +kernel
theorem dJ9_max_7cf53_1 : decode cJ9_max_7cf53 1 = .ok (.iload_n 1, 1) := by decide +kernel
theorem dJ9_max_7cf53_2 : decode cJ9_max_7cf53 2 = .ok (.if_icmp .lt 7, 3) := by decide +kernel
theorem dJ9_max_7cf53_5 : decode cJ9_max_7cf53 5 = .ok (.iload_n 0, 1) := by decide +kernel
theorem dJ9_max_7cf53_6 : decode cJ9_max_7cf53 6 = .ok (.goto 4, 3) := by decide +kernel
theorem dJ9_max_7cf53_9 : decode cJ9_max_7cf53 9 = .ok (.iload_n 1, 1) := by decide +kernel
theorem dJ9_max_7cf53_10 : decode cJ9_max_7cf53 10 = .ok (.ireturn, 1) := by decide +kernel
theorem dJ9_min_7cf53_0 : decode cJ9_min_7cf53 0 = .ok (.iload_n 0, 1) := by decide +kernel
theorem dJ9_min_7cf53_1 : decode cJ9_min_7cf53 1 = .ok (.iload_n 1, 1) := by decide +kernel
theorem dJ9_min_7cf53_2 : decode cJ9_min_7cf53 2 = .ok (.if_icmp .gt 7, 3) := by decide +kernel
theorem dJ9_min_7cf53_5 : decode cJ9_min_7cf53 5 = .ok (.iload_n 0, 1) := by decide +kernel
theorem dJ9_min_7cf53_6 : decode cJ9_min_7cf53 6 = .ok (.goto 4, 3) := by decide +kernel
theorem dJ9_min_7cf53_9 : decode cJ9_min_7cf53 9 = .ok (.iload_n 1, 1) := by decide +kernel
theorem dJ9_min_7cf53_10 : decode cJ9_min_7cf53 10 = .ok (.ireturn, 1) := by decide +kernel
set_option maxRecDepth 20000 in
theorem ggL_build_X1_build : GoodIn wsL_build wsX1_build := goodIn_ca (goodIn_ca (goodIn_r _ [7, 8, 9, 10, 11, 12, 6, 13, 14, 15, 16, 17, 18, 19, 20, 21, 22, 23, 24, 25, 26, 27, 28, 29, 30, 31, 32, 33, 34, 35] (by decide +kernel) (by decide +kernel)) (goodIn_sub (fun _ h => List.mem_cons_of_mem _ (List.mem_append_left _ (List.mem_append_right _ h))) (by decide +kernel))) (goodIn_sub (fun _ h => List.mem_cons_of_mem _ (List.mem_append_right _ h)) (by decide +kernel))
set_option maxRecDepth 20000 in
theorem gL_build_X1_build : GoodIn wsL_build (wsV RL 7 RX1 yX1_build wsX1_build) := goodIn_app (goodIn_of _ (by decide +kernel)) ggL_build_X1_build
end
section
/-! PART 20: what the reference's methods do, as functions -/
def mSetT (M : QMs) (i k : Nat) (x : Int32) : QMs := uA M (upd (mA M) (8 * i + k) x)
def mSetP (M : QMs) (i k : Nat) (x : Int32) : QMs := uB M (upd (mB M) (9 * i + k) x)
def mf (M : QMs) (k : Nat) : Nat := (mB M (9 * k + 0)).toNatClampNeg
def mo (M : QMs) (k : Nat) : Nat := (mB M (9 * k + 1)).toNatClampNeg
def MOk (M : QMs) : Prop := mt_ M ≤ 10 ∧ mp_ M ≤ 14 ∧ ∀ k, k < mp_ M → mf M k < mt_ M ∧ mo M k < mt_ M ∧ mf M k ≠ mo M k ∧ mB M (9 * k + 0) = nI (mf M k) ∧ mB M (9 * k + 1) = nI (mo M k)
def mhead (M : QMs) (i : Nat) : Int32 := 10 * mA M (8 * i + 0) + mA M (8 * i + 3)
def mflows (M : QMs) (k : Nat) : Int32 :=
  let d := mhead M (mf M k) - mhead M (mo M k)
  if d ≤ 0 then 0 else if mB M (9 * k + 3) ≤ d then qmin (mA M (8 * mf M k + 3)) (qmin (d / 10 + 1) (qmax 0 (mB M (9 * k + 2) - mB M (9 * k + 4)))) else 0
def mtold (M : QMs) (k w : Nat) : Int32 := if w = 8 then mflows M k else mB M (9 * k + w)
def mall (M : QMs) (k : Nat) : Int32 := qsum (fun j => mA M (8 * j + k)) (mt_ M)
def mallP (M : QMs) (k : Nat) : Int32 := qsum (fun j => mB M (9 * j + k)) (mp_ M)
/-- x is one of 0 .. n - 1 -/
abbrev qin (x : Int32) (n : Nat) : Prop := 0 ≤ x ∧ x < nI n
theorem qin_of {x : Int32} {n : Nat} (hn : n < 2147483648) (h : qin x n) : ∃ i, i < n ∧ x = nI i := by
  obtain ⟨i, hi, rfl⟩ := nI_of (Int32.not_lt.mpr h.1)
  exact ⟨i, (nI_ltI hi hn).mp h.2, rfl⟩
theorem qin_nI {n i : Nat} (hn : n < 2147483648) (h : i < n) : qin (nI i) n := ⟨nI_pos' (by omega), nI_lt h hn⟩
theorem q_pred {n : Nat} (hn : n < 2147483648) : (nI n - 1).toInt = (n : Int) - 1 := by
  rcases n with _ | n
  · decide
  · rw [nI_pred, nI_toInt (by omega)]; omega
theorem qin_iff {x : Int32} {n : Nat} (hn : n < 2147483648) : (0 ≤ x ∧ x ≤ nI n - 1) ↔ qin x n := by
  constructor
  · intro h
    refine ⟨h.1, ?_⟩
    have h2 := h.2
    rw [Int32.lt_iff_toInt_lt, nI_toInt hn]
    rw [Int32.le_iff_toInt_le, q_pred hn] at h2
    omega
  · intro h
    refine ⟨h.1, ?_⟩
    have h2 := h.2
    rw [Int32.le_iff_toInt_le, q_pred hn]
    rw [Int32.lt_iff_toInt_lt, nI_toInt hn] at h2
    omega
theorem q_isin {x : Int32} {n : Nat} (hn : n < 2147483648) : (if 0 ≤ x ∧ x ≤ nI n - 1 then (1 : Int32) else 0) = if qin x n then 1 else 0 := by
  by_cases h : qin x n
  · rw [if_pos h, if_pos ((qin_iff hn).mpr h)]
  · rw [if_neg h, if_neg (fun q => h ((qin_iff hn).mp q))]
theorem mB_uB (M : QMs) (f : Nat → Int32) : mB (uB M f) = f := rfl
theorem mB_uA (M : QMs) (f : Nat → Int32) : mB (uA M f) = mB M := rfl
theorem mA_uA (M : QMs) (f : Nat → Int32) : mA (uA M f) = f := rfl
theorem mA_uB (M : QMs) (f : Nat → Int32) : mA (uB M f) = mA M := rfl
def mPour (M : QMs) (i : Nat) (x y : Int32) : QMs :=
  let v := mA M (8 * i + 3) + x
  let M1 := mSetT M i 7 (mA M (8 * i + 7) + qmax 0 (v - 200))
  let M2 := mSetT M1 i 3 (qmin 200 v)
  mSetT M2 i 4 (qmin 99 (mA M2 (8 * i + 4) + y))
def mflow (M : QMs) (k : Nat) : QMs :=
  let x := mflows M k
  let y := qmin x (mB M (9 * k + 8))
  let M1 := mSetP M k 5 x
  let M2 := mSetP M1 k 6 y
  let M3 := mSetP M2 k 7 (mB M2 (9 * k + 7) + y)
  if x = 0 then M3 else
    let v := mA M3 (8 * mf M k + 4) * x / mA M3 (8 * mf M k + 3)
    let M4 := mSetT M3 (mf M k) 3 (mA M3 (8 * mf M k + 3) - x)
    let M5 := mSetT M4 (mf M k) 4 (mA M4 (8 * mf M k + 4) - v)
    mPour M5 (mo M k) (x - y) v
def mcrust (M : QMs) (k : Nat) : QMs := if mB M (9 * k + 5) ≤ 0 then M else mSetP M k 4 (qmin 20 (mB M (9 * k + 4) + 1))
def mdrink (M : QMs) (i : Nat) : QMs :=
  let v := if mA M (8 * i + 4) < 50 then mA M (8 * i + 2) else mA M (8 * i + 2) / 2
  let x := qmin v (mA M (8 * i + 3))
  let M1 := mSetT M i 3 (mA M (8 * i + 3) - x)
  let M2 := mSetT M1 i 5 x
  mSetT M2 i 6 (mA M2 (8 * i + 6) + x)
abbrev mfeedF : Nat → QMs → QMs := fun i X => mPour X i (mA X (8 * i + 1)) (mA X (8 * i + 1) / 4)
abbrev mflowF : Nat → QMs → QMs := fun k X => mflow X k
abbrev mcrustF : Nat → QMs → QMs := fun k X => mcrust X k
abbrev mdrinkF : Nat → QMs → QMs := fun i X => mdrink X i
def mday (M : QMs) : QMs :=
  let M1 := itN mfeedF (mt_ M) M
  let M2 := itN mflowF (mp_ M1) M1
  let M3 := if mY M2 0 - mY M2 0 / 4 * 4 = 0 then itN mcrustF (mp_ M2) M2 else M2
  let M4 := itN mdrinkF (mt_ M3) M3
  uY M4 (upd (mY M4) 0 (mY M4 0 + 1))
abbrev mdayF : Nat → QMs → QMs := fun _ X => mday X
/-- the same shape -/
def MShp (M M2 : QMs) : Prop := mt_ M2 = mt_ M ∧ mp_ M2 = mp_ M ∧ (∀ k, mB M2 (9 * k + 0) = mB M (9 * k + 0) ∧ mB M2 (9 * k + 1) = mB M (9 * k + 1)) ∧ mH M2 = mH M
theorem MShp.rf {M : QMs} : MShp M M := ⟨rfl, rfl, fun _ => ⟨rfl, rfl⟩, rfl⟩
theorem MShp.trans {M M2 M3 : QMs} (h : MShp M M2) (h2 : MShp M2 M3) : MShp M M3 := ⟨h2.1.trans h.1, h2.2.1.trans h.2.1, fun k => ⟨(h2.2.2.1 k).1.trans (h.2.2.1 k).1, (h2.2.2.1 k).2.trans (h.2.2.1 k).2⟩, h2.2.2.2.trans h.2.2.2⟩
theorem MShp.ok {M M2 : QMs} (h : MShp M M2) (hk : MOk M) : MOk M2 := by
  obtain ⟨h1, h2, h3, -⟩ := h
  obtain ⟨k1, k2, k3⟩ := hk
  have e0 : ∀ k, mf M2 k = mf M k := fun k => by unfold mf; rw [(h3 k).1]
  have e1 : ∀ k, mo M2 k = mo M k := fun k => by unfold mo; rw [(h3 k).2]
  refine ⟨by rw [h1]; exact k1, by rw [h2]; exact k2, fun k hk => ?_⟩
  rw [h2] at hk
  rw [e0, e1, h1, (h3 k).1, (h3 k).2]
  exact k3 k hk
theorem mshp_setT {M : QMs} {i k : Nat} {x : Int32} : MShp M (mSetT M i k x) := ⟨rfl, rfl, fun _ => ⟨rfl, rfl⟩, rfl⟩
theorem mshp_setP {M : QMs} {i j : Nat} {x : Int32} (h1 : 2 ≤ j) (h2 : j < 9) : MShp M (mSetP M i j x) := by
  refine ⟨rfl, rfl, fun k => ?_, rfl⟩
  show upd (mB M) (9 * i + j) x (9 * k + 0) = _ ∧ upd (mB M) (9 * i + j) x (9 * k + 1) = _
  exact ⟨pk_un (by omega), pk_un (by omega)⟩
theorem mshp_uY {M : QMs} {f : Nat → Int32} : MShp M (uY M f) := ⟨rfl, rfl, fun _ => ⟨rfl, rfl⟩, rfl⟩
theorem mshp_it {f : Nat → QMs → QMs} (hf : ∀ i M, MShp M (f i M)) (M : QMs) : ∀ n, MShp M (itN f n M)
  | 0 => MShp.rf
  | n + 1 => (mshp_it hf M n).trans (hf n _)
theorem mshp_pour {M : QMs} {i : Nat} {x y : Int32} : MShp M (mPour M i x y) := (mshp_setT.trans mshp_setT).trans mshp_setT
theorem mshp_flow {M : QMs} {k : Nat} : MShp M (mflow M k) := by
  have h3 : ∀ x y v : Int32, MShp M (mSetP (mSetP (mSetP M k 5 x) k 6 y) k 7 v) := fun x y v => ((mshp_setP (by decide) (by decide)).trans (mshp_setP (by decide) (by decide))).trans (mshp_setP (by decide) (by decide))
  unfold mflow
  simp only []
  split
  · exact h3 _ _ _
  · exact (((h3 _ _ _).trans mshp_setT).trans mshp_setT).trans mshp_pour
theorem mshp_crust {M : QMs} {k : Nat} : MShp M (mcrust M k) := by
  unfold mcrust
  split
  · exact MShp.rf
  · exact mshp_setP (by decide) (by decide)
theorem mshp_drink {M : QMs} {i : Nat} : MShp M (mdrink M i) := (mshp_setT.trans mshp_setT).trans mshp_setT
theorem mshp_day (M : QMs) : MShp M (mday M) := by
  unfold mday
  refine MShp.trans ?_ mshp_uY
  refine MShp.trans ?_ (mshp_it (f := mdrinkF) (fun _ _ => mshp_drink) _ _)
  refine MShp.trans ((mshp_it (f := mfeedF) (fun _ _ => mshp_pour) M (mt_ M)).trans (mshp_it (f := mflowF) (fun _ _ => mshp_flow) _ (mp_ (itN mfeedF (mt_ M) M)))) ?_
  show MShp _ (if _ then _ else _)
  split
  · exact mshp_it (f := mcrustF) (fun _ _ => mshp_crust) _ _
  · exact MShp.rf
theorem mshp_days (M : QMs) (n : Nat) : MShp M (itN mdayF n M) := mshp_it (f := mdayF) (fun _ X => mshp_day X) M n
theorem mcrust_Y (M : QMs) : ∀ n, mY (itN mcrustF n M) = mY M
  | 0 => rfl
  | n + 1 => by
    show mY (mcrust (itN mcrustF n M) n) = _
    rw [← mcrust_Y M n]
    unfold mcrust
    split <;> rfl
theorem q_tenth {d : Int32} (h : ¬ d ≤ 0) : 0 < d / 10 + 1 := by
  have h1 : (0 : Int) < d.toInt := by
    have := Int32.not_le.mp h
    rw [Int32.lt_iff_toInt_lt] at this
    simpa using this
  have h2 : d.toInt < 2147483648 := by have := Int32.toInt_lt d; simpa using this
  have h3 : (d / 10).toInt = d.toInt / 10 := by
    rw [Int32.toInt_div_of_ne_right _ _ (by decide)]
    show d.toInt.tdiv 10 = _
    exact Int.tdiv_eq_ediv_of_nonneg (by omega)
  have h4 : (d / 10 + 1).toInt = d.toInt / 10 + 1 := by
    rw [Int32.toInt_add, h3]
    show (d.toInt / 10 + 1).bmod _ = _
    apply Int.bmod_eq_of_le <;> omega
  rw [Int32.lt_iff_toInt_lt, h4]
  show (0 : Int) < _
  omega
theorem mflows_ne {M : QMs} {k : Nat} (h : ¬ mflows M k = 0) : ¬ mA M (8 * mf M k + 3) = 0 := by
  intro q
  apply h
  unfold mflows
  simp only []
  split
  · rfl
  · rename_i hd
    split
    · rw [q]
      have h1 := q_tenth hd
      generalize (mhead M (mf M k) - mhead M (mo M k)) / 10 + 1 = y at h1
      generalize mB M (9 * k + 2) - mB M (9 * k + 4) = v
      have h2 : ¬ qmin y (qmax 0 v) < 0 := by
        by_cases a : qmax 0 v < y
        · rw [show qmin y (qmax 0 v) = qmax 0 v from if_pos a]
          by_cases b : 0 < v
          · rw [show qmax 0 v = v from if_pos b]
            exact fun z => Int32.lt_irrefl (Int32.lt_trans b z)
          · rw [show qmax 0 v = 0 from if_neg b]
            exact Int32.lt_irrefl
        · rw [show qmin y (qmax 0 v) = y from if_neg a]
          exact fun z => Int32.lt_irrefl (Int32.lt_trans h1 z)
      show (if qmin y (qmax 0 v) < 0 then _ else (0 : Int32)) = 0
      rw [if_neg h2]
    · rfl
theorem q_rng (a b : Nat) {x y v : Int32} {k : Nat} (hx : x = nI a) (hy : y = nI b) (h : v = nI k ∧ a ≤ k ∧ k ≤ b ∧ b < 2147483648 := by first | exact ⟨rfl, by omega, by omega, by omega⟩ | exact ⟨rfl, by omega⟩) : x ≤ v ∧ v ≤ y := by
  obtain ⟨rfl, h1, h2, h3⟩ := h
  rw [hx, hy]
  exact ⟨nI_le h1 (by omega), nI_le h2 h3⟩
def mthc (M : QMs) : Nat → Int32
  | 0 => 0
  | n + 1 => if mA M (8 * n + 5) < mA M (8 * n + 2) then mthc M n + 1 else mthc M n + 0
def mcount (M : QMs) : Nat → Int32
  | 0 => mY M 0
  | 1 => nI (mt_ M)
  | 2 => nI (mp_ M)
  | 3 => mall M 3
  | 4 => mall M 4
  | 5 => mall M 6
  | 6 => mallP M 7
  | 7 => mall M 7
  | _ => mthc M (mt_ M)
def mrStep (M : QMs) (x : Int32) (k : Nat) (r : Int32) : Int32 :=
  if mB M (9 * k + 0) = x then r ||| (1 <<< (mB M (9 * k + 1) &&& 31)) else if ¬ (r >>> (mB M (9 * k + 0) &&& 31)) &&& 1 = 1 then r else r ||| (1 <<< (mB M (9 * k + 1) &&& 31))
theorem mrStep_a {M : QMs} {x r : Int32} {k : Nat} (h : mB M (9 * k + 0) = x) : mrStep M x k r = r ||| (1 <<< (mB M (9 * k + 1) &&& 31)) := if_pos h
theorem mrStep_b {M : QMs} {x r : Int32} {k : Nat} (h : ¬ mB M (9 * k + 0) = x) (h2 : ¬ (r >>> (mB M (9 * k + 0) &&& 31)) &&& 1 = 1) : mrStep M x k r = r := (if_neg h).trans (if_pos h2)
theorem mrStep_c {M : QMs} {x r : Int32} {k : Nat} (h : ¬ mB M (9 * k + 0) = x) (h2 : (r >>> (mB M (9 * k + 0) &&& 31)) &&& 1 = 1) : mrStep M x k r = r ||| (1 <<< (mB M (9 * k + 1) &&& 31)) := (if_neg h).trans (if_neg (fun q => q h2))
def mrRound (M : QMs) (x : Int32) (r : Int32) : Int32 := itN (mrStep M x) (mp_ M) r
def mreach (M : QMs) (x : Int32) : Int32 := itN (fun _ r => mrRound M x r) (mt_ M + 1) 0
theorem mthc_uh (M : QMs) (x : Int32) : ∀ n, mthc (uh M x) n = mthc M n
  | 0 => rfl
  | n + 1 => by
    simp only [mthc]
    rw [mthc_uh M x n]
    rfl
theorem mcount_uh (M : QMs) (x : Int32) (n : Nat) : mcount (uh M x) n = mcount M n := by
  match n with
  | 0 => rfl
  | 1 => rfl
  | 2 => rfl
  | 3 => rfl
  | 4 => rfl
  | 5 => rfl
  | 6 => rfl
  | 7 => rfl
  | n + 8 => exact mthc_uh M x (mt_ M)
/-- the pipe that lost the most, among the first ones -/
def msus (M : QMs) : Nat → Int32
  | 0 => -1
  | n + 1 => if mB M (9 * n + 6) ≤ (if msus M n = -1 then 0 else mB M (9 * (msus M n).toNatClampNeg + 6)) then msus M n else nI n
theorem msus_c (M : QMs) : ∀ n, msus M n = -1 ∨ ∃ j, j < n ∧ msus M n = nI j
  | 0 => Or.inl rfl
  | n + 1 => by
    have e : msus M (n + 1) = (if mB M (9 * n + 6) ≤ (if msus M n = -1 then 0 else mB M (9 * (msus M n).toNatClampNeg + 6)) then msus M n else nI n) := rfl
    rw [e]
    generalize (if msus M n = -1 then (0 : Int32) else mB M (9 * (msus M n).toNatClampNeg + 6)) = y
    split
    · rcases msus_c M n with h | ⟨j, hj, h⟩
      · exact Or.inl h
      · exact Or.inr ⟨j, by omega, h⟩
    · exact Or.inr ⟨n, by omega, rfl⟩
theorem msus_v {M : QMs} {n j : Nat} (h : ¬ msus M n = -1) (ej : msus M n = nI j) (hj : j < 2147483648) : (if msus M n = -1 then (0 : Int32) else mB M (9 * (msus M n).toNatClampNeg + 6)) = mB M (9 * j + 6) := by
  rw [if_neg h, ej, nI_clamp hj]
theorem msus_j {M : QMs} {n j : Nat} (hj : j < 2147483648) (ej : msus M n = nI j) : (msus M n).toNatClampNeg = j := by rw [ej, nI_clamp hj]
theorem msus_a {M : QMs} {n j : Nat} (h : ¬ msus M n = -1) (ej : msus M n = nI j) (c : mB M (9 * n + 6) ≤ mB M (9 * j + 6)) (hj : j < 2147483648 := by omega) : msus M (n + 1) = msus M n := by
  show (if _ then _ else _) = _
  rw [msus_v h ej hj, if_pos c]
theorem msus_b {M : QMs} {n j : Nat} (h : ¬ msus M n = -1) (ej : msus M n = nI j) (c : ¬ mB M (9 * n + 6) ≤ mB M (9 * j + 6)) (hj : j < 2147483648 := by omega) : msus M (n + 1) = nI n := by
  show (if _ then _ else _) = _
  rw [msus_v h ej hj, if_neg c]
theorem msus_c2 {M : QMs} {n : Nat} (h : msus M n = -1) : (if msus M n = -1 then (0 : Int32) else mB M (9 * (msus M n).toNatClampNeg + 6)) = 0 := if_pos h
theorem msus_e {M : QMs} {n : Nat} (h : msus M n = -1) (c : mB M (9 * n + 6) ≤ 0) : msus M (n + 1) = msus M n := by
  show (if _ then _ else _) = _
  rw [msus_c2 h, if_pos c]
theorem msus_d {M : QMs} {n : Nat} (h : msus M n = -1) (c : ¬ mB M (9 * n + 6) ≤ 0) : msus M (n + 1) = nI n := by
  show (if _ then _ else _) = _
  rw [msus_c2 h, if_neg c]
def qlong (f : Nat → Int32) : Nat → Int64 → Int64
  | 0, d => d
  | n + 1, d => qlong f n d * 31 + (f n).toInt64
def mdigT (M : QMs) : Nat → Int64 → Int64
  | 0, d => d
  | n + 1, d => qlong (fun w => mA M (8 * n + w)) 8 (mdigT M n d)
def mdigP (M : QMs) : Nat → Int64 → Int64
  | 0, d => d
  | n + 1, d => qlong (fun w => mtold M n w) 9 (mdigP M n d) * 31 + (mB M (9 * n + 8)).toInt64
def mmean (M : QMs) : UInt64 := if mY M 0 = 0 then FP.dconst0 else FP.ddiv (FP.i2d (mall M 6)) (FP.i2d (mY M 0))
theorem q_ddiv {x y : Int32} (h : ¬ y = 0) : vf_n64 (FP.ddiv (FP.i2d x) (FP.i2d y)) := by
  have h1 : FP.Core.dIsNaN (FP.Core.ddiv (FP.Core.i2d x) (FP.Core.i2d y)) = false := FP.Core.ddiv_out (FP.Core.i2d_fin x).notNaN (FP.Core.i2d_fin y) (fun hz => FP.Core.i2d_ne_zero h ((FP.Core.zero_bits2 _).mp hz))
  have h2 : ¬ 9218868437227405312 < (FP.Core.ddiv (FP.Core.i2d x) (FP.Core.i2d y)).toNat % 2 ^ 63 := fun q => by
    rw [(FP.Core.isNaN_bits _).mpr q] at h1; cases h1
  show (FP.Core.ddiv (FP.Core.i2d x) (FP.Core.i2d y)) &&& 0x7fffffffffffffff ≤ 0x7ff0000000000000
  rw [UInt64.le_iff_toNat_le, UInt64.toNat_and]
  have e1 : (0x7fffffffffffffff : UInt64).toNat = 2 ^ 63 - 1 := by decide
  have e2 : (0x7ff0000000000000 : UInt64).toNat = 9218868437227405312 := by decide
  rw [e1, e2, Nat.and_two_pow_sub_one_eq_mod]
  omega
end
section
set_option maxHeartbeats 4000000 in
set_option maxRecDepth 100000 in
theorem c_X2_thrown (l : Launch) (z : QZ) (M : QMs) : GI l yX2_thrown wsX2_thrown ({ frames := 0, cells := 0, slots := 0, locals := 0 } : Room) z [.ref (za z 55)] 0 0 (MAt z) 55 59 M (fun r M' => r = mH M ∧ M' = M) := by
  intro ct sz hn hq hat
  refine q_entry (lo := 55) (cc := cX2_thrown) (maxL := 1) (ret := (some .int)) (by decide) rfl (Nat.le_of_ble_eq_true rfl) hn hq hat ?_
  intro p e s m below meth c ls C0 hK hsz h hl
  subst hsz
  obtain ⟨hx, hb, hr, hml, hown, hts, hlocks⟩ := id C0
  have hin2 : ∀ w ∈ u_ws RX2 TX2 6, w ∈ wsX2_thrown := by decide +kernel
  have hl : lv_has ls 1 [(0, .ref (za z 55))] := hl
  refine lv_aload_n hx hb dX2_thrown_0 rfl (lv_at hl 0 rfl) ?_
  refine M_g C0 hK h hin2 0 (by decide) (by decide +kernel) rfl dX2_thrown_1 ?_
  exact G_iret C0 hK h ⟨rfl, rfl⟩ (Nat.le_of_ble_eq_true rfl) (Nat.le_of_ble_eq_true rfl) dX2_thrown_4
set_option maxHeartbeats 4000000 in
set_option maxRecDepth 100000 in
theorem c_X2_fail (l : Launch) (z : QZ) (M : QMs) (x : Int32) : GI l yX2_fail wsX2_fail ({ frames := 0, cells := 0, slots := 0, locals := 0 } : Room) z [.ref (za z 55), .int x] 0 0 (MAt z) 55 59 M (fun r M' => r = 0 ∧ M' = uh M x) := by
  intro ct sz hn hq hat
  refine q_entry (lo := 55) (cc := cX2_fail) (maxL := 2) (ret := (some .int)) (by decide) rfl (Nat.le_of_ble_eq_true rfl) hn hq hat ?_
  intro p e s m below meth c ls C0 hK hsz h hl
  subst hsz
  obtain ⟨hx, hb, hr, hml, hown, hts, hlocks⟩ := id C0
  have hin2 : ∀ w ∈ u_ws RX2 TX2 6, w ∈ wsX2_fail := by decide +kernel
  have hl : lv_has ls 2 [(0, .ref (za z 55)), (1, .int x)] := hl
  refine lv_aload_n hx hb dX2_fail_0 rfl (lv_at hl 0 rfl) ?_
  refine lv_iload_n hx hb dX2_fail_1 rfl (lv_at hl 1 rfl) ?_
  refine N_ph C0 hK h hin2 (by decide +kernel) dX2_fail_2 (fun H locs M1 eM1 h => ?_)
  subst eM1
  refine lv_iconst (v := 0) hx hb dX2_fail_5 (by decide) ?_
  exact G_iret C0 hK h ⟨rfl, by rfl⟩ (Nat.le_of_ble_eq_true rfl) (Nat.le_of_ble_eq_true rfl) dX2_fail_6
set_option maxHeartbeats 4000000 in
set_option maxRecDepth 100000 in
theorem c_X2_isIn (l : Launch) (z : QZ) (M : QMs) (x y v : Int32) : GI l yX2_isIn wsX2_isIn ({ frames := 0, cells := 0, slots := 0, locals := 0 } : Room) z [.int x, .int y, .int v] 0 0 (MAt z) 55 59 M (fun r M' => r = (if y ≤ x ∧ x ≤ v then 1 else 0) ∧ M' = M) := by
  intro ct sz hn hq hat
  refine q_entry (lo := 55) (cc := cX2_isIn) (maxL := 3) (ret := (some .boolean)) (by decide) rfl (Nat.le_of_ble_eq_true rfl) hn hq hat ?_
  intro p e s m below meth c ls C0 hK hsz h hl
  subst hsz
  obtain ⟨hx, hb, hr, hml, hown, hts, hlocks⟩ := id C0
  have hl : lv_has ls 3 [(0, .int x), (1, .int y), (2, .int v)] := hl
  refine lv_iload_n hx hb dX2_isIn_0 rfl (lv_at hl 0 rfl) ?_
  refine lv_iload_n hx hb dX2_isIn_1 rfl (lv_at hl 1 rfl) ?_
  refine lv_icmp_lt (tgt := 14) hx hb dX2_isIn_2 (by decide) (fun c_2 => ?_) (fun c_2 => ?_)
  · refine lv_iconst (v := 0) hx hb dX2_isIn_14 (by decide) ?_
    exact G_zret C0 hK h ⟨by rw [if_neg (fun q => absurd c_2 (Int32.not_lt.mpr q.1))], rfl⟩ (by decide) (Nat.le_of_ble_eq_true rfl) (Nat.le_of_ble_eq_true rfl) dX2_isIn_15
  · refine lv_iload_n hx hb dX2_isIn_5 rfl (lv_at hl 0 rfl) ?_
    refine lv_iload_n hx hb dX2_isIn_6 rfl (lv_at hl 2 rfl) ?_
    refine lv_icmp_gt (tgt := 14) hx hb dX2_isIn_7 (by decide) (fun c_7 => ?_) (fun c_7 => ?_)
    · refine lv_iconst (v := 0) hx hb dX2_isIn_14 (by decide) ?_
      exact G_zret C0 hK h ⟨by rw [if_neg (fun q => absurd c_7 (Int32.not_lt.mpr q.2))], rfl⟩ (by decide) (Nat.le_of_ble_eq_true rfl) (Nat.le_of_ble_eq_true rfl) dX2_isIn_15
    · refine lv_iconst (v := 1) hx hb dX2_isIn_10 (by decide) ?_
      refine lv_goto (tgt := 15) hx hb dX2_isIn_11 (by decide) ?_
      exact G_zret C0 hK h ⟨by rw [if_pos ⟨Int32.not_lt.mp c_2, Int32.not_lt.mp c_7⟩], rfl⟩ (by decide) (Nat.le_of_ble_eq_true rfl) (Nat.le_of_ble_eq_true rfl) dX2_isIn_15
set_option maxHeartbeats 4000000 in
set_option maxRecDepth 100000 in
theorem c_X2_isTank (l : Launch) (z : QZ) (M : QMs) (x : Int32) (hk : MOk M) : GI l yX2_isTank wsX2_isTank ({ frames := 1, cells := 0, slots := 0, locals := 22 } : Room) z [.ref (za z 55), .int x] 0 0 (MAt z) 55 59 M (fun r M' => r = (if qin x (mt_ M) then 1 else 0) ∧ M' = M) := by
  intro ct sz hn hq hat
  refine q_entry (lo := 55) (cc := cX2_isTank) (maxL := 2) (ret := (some .boolean)) (by decide) rfl (Nat.le_of_ble_eq_true rfl) hn hq hat ?_
  intro p e s m below meth c ls C0 hK hsz h hl
  subst hsz
  obtain ⟨hx, hb, hr, hml, hown, hts, hlocks⟩ := id C0
  have hin2 : ∀ w ∈ u_ws RX2 TX2 6, w ∈ wsX2_isTank := by decide +kernel
  have hl : lv_has ls 2 [(0, .ref (za z 55)), (1, .int x)] := hl
  refine lv_iload_n hx hb dX2_isTank_0 rfl (lv_at hl 1 rfl) ?_
  refine lv_iconst (v := 0) hx hb dX2_isTank_1 (by decide) ?_
  refine lv_aload_n hx hb dX2_isTank_2 rfl (lv_at hl 0 rfl) ?_
  refine M_g C0 hK h hin2 1 (by decide) (by decide +kernel) rfl dX2_isTank_3 ?_
  refine lv_iconst (v := 1) hx hb dX2_isTank_6 (by decide) ?_
  refine lv_isub hx hb dX2_isTank_7 ?_
  refine S_callSi C0 hK h (c_X2_isIn l z M x 0 ((nI (mt_ M)) - 1)) (va_cwS 3 hts gX2_isTank_X2_isIn rfl rfl rfl (by decide +kernel) ⟨Nat.le_of_ble_eq_true rfl, Nat.le_of_ble_eq_true rfl⟩) rfl hl.1 (rest := []) rfl (Nat.le_of_ble_eq_true rfl) ⟨Nat.le_of_ble_eq_true rfl, Nat.le_of_ble_eq_true rfl⟩ dX2_isTank_8 (fun r u H locs hp h => ?_)
  obtain ⟨hr9, hu9⟩ := hp
  rw [hu9] at h
  exact G_zret C0 hK h ⟨hr9.trans (q_isin (by have := hk.1; have := hk.2.1; omega)), rfl⟩ (by rw [hr9]; split <;> simp) (Nat.le_of_ble_eq_true rfl) (Nat.le_of_ble_eq_true rfl) dX2_isTank_11
set_option maxHeartbeats 4000000 in
set_option maxRecDepth 100000 in
theorem c_X2_isPipe (l : Launch) (z : QZ) (M : QMs) (x : Int32) (hk : MOk M) : GI l yX2_isPipe wsX2_isPipe ({ frames := 1, cells := 0, slots := 0, locals := 22 } : Room) z [.ref (za z 55), .int x] 0 0 (MAt z) 55 59 M (fun r M' => r = (if qin x (mp_ M) then 1 else 0) ∧ M' = M) := by
  intro ct sz hn hq hat
  refine q_entry (lo := 55) (cc := cX2_isPipe) (maxL := 2) (ret := (some .boolean)) (by decide) rfl (Nat.le_of_ble_eq_true rfl) hn hq hat ?_
  intro p e s m below meth c ls C0 hK hsz h hl
  subst hsz
  obtain ⟨hx, hb, hr, hml, hown, hts, hlocks⟩ := id C0
  have hin2 : ∀ w ∈ u_ws RX2 TX2 6, w ∈ wsX2_isPipe := by decide +kernel
  have hl : lv_has ls 2 [(0, .ref (za z 55)), (1, .int x)] := hl
  refine lv_iload_n hx hb dX2_isPipe_0 rfl (lv_at hl 1 rfl) ?_
  refine lv_iconst (v := 0) hx hb dX2_isPipe_1 (by decide) ?_
  refine lv_aload_n hx hb dX2_isPipe_2 rfl (lv_at hl 0 rfl) ?_
  refine M_g C0 hK h hin2 2 (by decide) (by decide +kernel) rfl dX2_isPipe_3 ?_
  refine lv_iconst (v := 1) hx hb dX2_isPipe_6 (by decide) ?_
  refine lv_isub hx hb dX2_isPipe_7 ?_
  refine S_callSi C0 hK h (c_X2_isIn l z M x 0 ((nI (mp_ M)) - 1)) (va_cwS 3 hts gX2_isPipe_X2_isIn rfl rfl rfl (by decide +kernel) ⟨Nat.le_of_ble_eq_true rfl, Nat.le_of_ble_eq_true rfl⟩) rfl hl.1 (rest := []) rfl (Nat.le_of_ble_eq_true rfl) ⟨Nat.le_of_ble_eq_true rfl, Nat.le_of_ble_eq_true rfl⟩ dX2_isPipe_8 (fun r u H locs hp h => ?_)
  obtain ⟨hr9, hu9⟩ := hp
  rw [hu9] at h
  exact G_zret C0 hK h ⟨hr9.trans (q_isin (by have := hk.1; have := hk.2.1; omega)), rfl⟩ (by rw [hr9]; split <;> simp) (Nat.le_of_ble_eq_true rfl) (Nat.le_of_ble_eq_true rfl) dX2_isPipe_11
set_option maxHeartbeats 4000000 in
set_option maxRecDepth 100000 in
theorem c_X2_la (l : Launch) (z : QZ) (M : QMs) (i : Nat) (hi : i < 10) (k : Nat) (hk : k < 8) : GI l yX2_la wsX2_la ({ frames := 0, cells := 0, slots := 0, locals := 0 } : Room) z [.ref (za z 55), .int (nI i), .int (nI k)] 0 0 (MAt z) 55 59 M (fun r M' => r = mA M (8 * i + k) ∧ M' = M) := by
  intro ct sz hn hq hat
  refine q_entry (lo := 55) (cc := cX2_la) (maxL := 3) (ret := (some .int)) (by decide) rfl (Nat.le_of_ble_eq_true rfl) hn hq hat ?_
  intro p e s m below meth c ls C0 hK hsz h hl
  subst hsz
  obtain ⟨hx, hb, hr, hml, hown, hts, hlocks⟩ := id C0
  have hin2 : ∀ w ∈ u_ws RX2 TX2 6, w ∈ wsX2_la := by decide +kernel
  have hl : lv_has ls 3 [(0, .ref (za z 55)), (1, .int (nI i)), (2, .int (nI k))] := hl
  refine lv_aload_n hx hb dX2_la_0 rfl (lv_at hl 0 rfl) ?_
  refine M_g C0 hK h hin2 3 (by decide) (by decide +kernel) rfl dX2_la_1 ?_
  refine lv_bipush (v := 8) hx hb dX2_la_4 (by decide) ?_
  refine lv_iload_n hx hb dX2_la_6 rfl (lv_at hl 1 rfl) ?_
  refine lv_imul hx hb dX2_la_7 ?_
  refine lv_iload_n hx hb dX2_la_8 rfl (lv_at hl 2 rfl) ?_
  refine lv_iadd hx hb dX2_la_9 ?_
  refine M_ldA C0 hK h (k := (8 * i) + k) (q_add (q_mul rfl rfl) rfl) (by omega) dX2_la_10 ?_
  exact G_iret C0 hK h ⟨rfl, rfl⟩ (Nat.le_of_ble_eq_true rfl) (Nat.le_of_ble_eq_true rfl) dX2_la_11
set_option maxHeartbeats 4000000 in
set_option maxRecDepth 100000 in
theorem c_X2_li (l : Launch) (z : QZ) (M : QMs) (i : Nat) (hi : i < 14) (k : Nat) (hk : k < 9) : GI l yX2_li wsX2_li ({ frames := 0, cells := 0, slots := 0, locals := 0 } : Room) z [.ref (za z 55), .int (nI i), .int (nI k)] 0 0 (MAt z) 55 59 M (fun r M' => r = mB M (9 * i + k) ∧ M' = M) := by
  intro ct sz hn hq hat
  refine q_entry (lo := 55) (cc := cX2_li) (maxL := 3) (ret := (some .int)) (by decide) rfl (Nat.le_of_ble_eq_true rfl) hn hq hat ?_
  intro p e s m below meth c ls C0 hK hsz h hl
  subst hsz
  obtain ⟨hx, hb, hr, hml, hown, hts, hlocks⟩ := id C0
  have hin2 : ∀ w ∈ u_ws RX2 TX2 6, w ∈ wsX2_li := by decide +kernel
  have hl : lv_has ls 3 [(0, .ref (za z 55)), (1, .int (nI i)), (2, .int (nI k))] := hl
  refine lv_aload_n hx hb dX2_li_0 rfl (lv_at hl 0 rfl) ?_
  refine M_g C0 hK h hin2 4 (by decide) (by decide +kernel) rfl dX2_li_1 ?_
  refine lv_bipush (v := 9) hx hb dX2_li_4 (by decide) ?_
  refine lv_iload_n hx hb dX2_li_6 rfl (lv_at hl 1 rfl) ?_
  refine lv_imul hx hb dX2_li_7 ?_
  refine lv_iload_n hx hb dX2_li_8 rfl (lv_at hl 2 rfl) ?_
  refine lv_iadd hx hb dX2_li_9 ?_
  refine M_ldB C0 hK h (k := (9 * i) + k) (q_add (q_mul rfl rfl) rfl) (by omega) dX2_li_10 ?_
  exact G_iret C0 hK h ⟨rfl, rfl⟩ (Nat.le_of_ble_eq_true rfl) (Nat.le_of_ble_eq_true rfl) dX2_li_11
set_option maxHeartbeats 4000000 in
set_option maxRecDepth 100000 in
theorem c_X2_setTank (l : Launch) (z : QZ) (M : QMs) (i : Nat) (hi : i < 10) (k : Nat) (hk : k < 8) (x : Int32) : GV l yX2_setTank wsX2_setTank ({ frames := 0, cells := 0, slots := 0, locals := 0 } : Room) z [.ref (za z 55), .int (nI i), .int (nI k), .int x] 0 0 (MAt z) 55 59 M (fun M' => M' = mSetT M i k x) := by
  intro ct sz hn hq hat
  refine q_entry (lo := 55) (cc := cX2_setTank) (maxL := 4) (ret := none) (by decide) rfl (Nat.le_of_ble_eq_true rfl) hn hq hat ?_
  intro p e s m below meth c ls C0 hK hsz h hl
  subst hsz
  obtain ⟨hx, hb, hr, hml, hown, hts, hlocks⟩ := id C0
  have hin2 : ∀ w ∈ u_ws RX2 TX2 6, w ∈ wsX2_setTank := by decide +kernel
  have hl : lv_has ls 4 [(0, .ref (za z 55)), (1, .int (nI i)), (2, .int (nI k)), (3, .int x)] := hl
  refine lv_aload_n hx hb dX2_setTank_0 rfl (lv_at hl 0 rfl) ?_
  refine M_g C0 hK h hin2 3 (by decide) (by decide +kernel) rfl dX2_setTank_1 ?_
  refine lv_bipush (v := 8) hx hb dX2_setTank_4 (by decide) ?_
  refine lv_iload_n hx hb dX2_setTank_6 rfl (lv_at hl 1 rfl) ?_
  refine lv_imul hx hb dX2_setTank_7 ?_
  refine lv_iload_n hx hb dX2_setTank_8 rfl (lv_at hl 2 rfl) ?_
  refine lv_iadd hx hb dX2_setTank_9 ?_
  refine lv_iload_n hx hb dX2_setTank_10 rfl (lv_at hl 3 rfl) ?_
  refine N_stA C0 hK h (k := (8 * i) + k) (q_add (q_mul rfl rfl) rfl) (by omega) dX2_setTank_11 (fun H locs M1 eM1 h => ?_)
  exact G_vret C0 hK h (by subst eM1; rfl) (Nat.le_of_ble_eq_true rfl) (Nat.le_of_ble_eq_true rfl) dX2_setTank_12
set_option maxHeartbeats 4000000 in
set_option maxRecDepth 100000 in
theorem c_X2_setPipe (l : Launch) (z : QZ) (M : QMs) (i : Nat) (hi : i < 14) (k : Nat) (hk : k < 9) (x : Int32) : GV l yX2_setPipe wsX2_setPipe ({ frames := 0, cells := 0, slots := 0, locals := 0 } : Room) z [.ref (za z 55), .int (nI i), .int (nI k), .int x] 0 0 (MAt z) 55 59 M (fun M' => M' = mSetP M i k x) := by
  intro ct sz hn hq hat
  refine q_entry (lo := 55) (cc := cX2_setPipe) (maxL := 4) (ret := none) (by decide) rfl (Nat.le_of_ble_eq_true rfl) hn hq hat ?_
  intro p e s m below meth c ls C0 hK hsz h hl
  subst hsz
  obtain ⟨hx, hb, hr, hml, hown, hts, hlocks⟩ := id C0
  have hin2 : ∀ w ∈ u_ws RX2 TX2 6, w ∈ wsX2_setPipe := by decide +kernel
  have hl : lv_has ls 4 [(0, .ref (za z 55)), (1, .int (nI i)), (2, .int (nI k)), (3, .int x)] := hl
  refine lv_aload_n hx hb dX2_setPipe_0 rfl (lv_at hl 0 rfl) ?_
  refine M_g C0 hK h hin2 4 (by decide) (by decide +kernel) rfl dX2_setPipe_1 ?_
  refine lv_bipush (v := 9) hx hb dX2_setPipe_4 (by decide) ?_
  refine lv_iload_n hx hb dX2_setPipe_6 rfl (lv_at hl 1 rfl) ?_
  refine lv_imul hx hb dX2_setPipe_7 ?_
  refine lv_iload_n hx hb dX2_setPipe_8 rfl (lv_at hl 2 rfl) ?_
  refine lv_iadd hx hb dX2_setPipe_9 ?_
  refine lv_iload_n hx hb dX2_setPipe_10 rfl (lv_at hl 3 rfl) ?_
  refine N_stB C0 hK h (k := (9 * i) + k) (q_add (q_mul rfl rfl) rfl) (by omega) dX2_setPipe_11 (fun H locs M1 eM1 h => ?_)
  exact G_vret C0 hK h (by subst eM1; rfl) (Nat.le_of_ble_eq_true rfl) (Nat.le_of_ble_eq_true rfl) dX2_setPipe_12
set_option maxHeartbeats 4000000 in
set_option maxRecDepth 100000 in
theorem c_X2_head (l : Launch) (z : QZ) (M : QMs) (i : Nat) (hi : i < 10) : GI l yX2_head wsX2_head ({ frames := 1, cells := 0, slots := 0, locals := 22 } : Room) z [.ref (za z 55), .int (nI i)] 0 0 (MAt z) 55 59 M (fun r M' => r = mhead M i ∧ M' = M) := by
  intro ct sz hn hq hat
  refine q_entry (lo := 55) (cc := cX2_head) (maxL := 2) (ret := (some .int)) (by decide) rfl (Nat.le_of_ble_eq_true rfl) hn hq hat ?_
  intro p e s m below meth c ls C0 hK hsz h hl
  subst hsz
  obtain ⟨hx, hb, hr, hml, hown, hts, hlocks⟩ := id C0
  have hl : lv_has ls 2 [(0, .ref (za z 55)), (1, .int (nI i))] := hl
  refine lv_bipush (v := 10) hx hb dX2_head_0 (by decide) ?_
  refine lv_aload_n hx hb dX2_head_2 rfl (lv_at hl 0 rfl) ?_
  refine lv_iload_n hx hb dX2_head_3 rfl (lv_at hl 1 rfl) ?_
  refine lv_iconst (v := 0) hx hb dX2_head_4 (by decide) ?_
  refine S_callVi C0 hK h (c_X2_la l z M i (by omega) 0 (by omega)) (cwV 2 hts gX2_head_X2_la rfl rfl rfl (by decide +kernel) ⟨Nat.le_of_ble_eq_true rfl, Nat.le_of_ble_eq_true rfl⟩) (k := 55) (ci := 2) (by omega) (fun ct hA => hA.1) rfl rfl rfl hl.1 (rest := [.int 10]) rfl (Nat.le_of_ble_eq_true rfl) ⟨Nat.le_of_ble_eq_true rfl, Nat.le_of_ble_eq_true rfl⟩ dX2_head_5 (fun r u H locs hp h => ?_)
  obtain ⟨rfl, hu9⟩ := hp
  rw [hu9] at h
  refine lv_imul hx hb dX2_head_8 ?_
  refine lv_aload_n hx hb dX2_head_9 rfl (lv_at hl 0 rfl) ?_
  refine lv_iload_n hx hb dX2_head_10 rfl (lv_at hl 1 rfl) ?_
  refine lv_iconst (v := 3) hx hb dX2_head_11 (by decide) ?_
  refine S_callVi C0 hK h (c_X2_la l z M i (by omega) 3 (by omega)) (cwV 2 hts gX2_head_X2_la rfl rfl rfl (by decide +kernel) ⟨Nat.le_of_ble_eq_true rfl, Nat.le_of_ble_eq_true rfl⟩) (k := 55) (ci := 2) (by omega) (fun ct hA => hA.1) rfl rfl rfl hl.1 (rest := [.int (10 * (mA M (8 * i + 0)))]) rfl (Nat.le_of_ble_eq_true rfl) ⟨Nat.le_of_ble_eq_true rfl, Nat.le_of_ble_eq_true rfl⟩ dX2_head_12 (fun r u H locs hp h => ?_)
  obtain ⟨rfl, hu9⟩ := hp
  rw [hu9] at h
  refine lv_iadd hx hb dX2_head_15 ?_
  exact G_iret C0 hK h ⟨rfl, rfl⟩ (Nat.le_of_ble_eq_true rfl) (Nat.le_of_ble_eq_true rfl) dX2_head_16
set_option maxHeartbeats 4000000 in
set_option maxRecDepth 100000 in
theorem c_X2_flows (l : Launch) (z : QZ) (M : QMs) (hk : MOk M) (k : Nat) (hkp : k < mp_ M) : GI l yX2_flows wsX2_flows ({ frames := 2, cells := 0, slots := 0, locals := 43 } : Room) z [.ref (za z 55), .int (nI k)] 0 0 (MAt z) 55 59 M (fun r M' => r = mflows M k ∧ M' = M) := by
  intro ct sz hn hq hat
  refine q_entry (lo := 55) (cc := cX2_flows) (maxL := 3) (ret := (some .int)) (by decide) rfl (Nat.le_of_ble_eq_true rfl) hn hq hat ?_
  intro p e s m below meth c ls C0 hK hsz h hl
  subst hsz
  obtain ⟨hx, hb, hr, hml, hown, hts, hlocks⟩ := id C0
  have hl : lv_has ls 3 [(0, .ref (za z 55)), (1, .int (nI k))] := hl
  have hk1 := hk.1
  have hk2 := hk.2.1
  obtain ⟨hk3, hk4, hk5, hF0, hF1⟩ := hk.2.2 k hkp
  have hk6 : k < 14 := by omega
  have hk7 : mf M k < 10 := by omega
  have hk8 : mo M k < 10 := by omega
  refine lv_aload_n hx hb dX2_flows_0 rfl (lv_at hl 0 rfl) ?_
  refine lv_aload_n hx hb dX2_flows_1 rfl (lv_at hl 0 rfl) ?_
  refine lv_iload_n hx hb dX2_flows_2 rfl (lv_at hl 1 rfl) ?_
  refine lv_iconst (v := 0) hx hb dX2_flows_3 (by decide) ?_
  refine S_callVi C0 hK h (c_X2_li l z M k (by omega) 0 (by omega)) (cwV 2 hts gX2_flows_X2_li rfl rfl rfl (by decide +kernel) ⟨Nat.le_of_ble_eq_true rfl, Nat.le_of_ble_eq_true rfl⟩) (k := 55) (ci := 2) (by omega) (fun ct hA => hA.1) rfl rfl rfl hl.1 (rest := [.ref (za z 55)]) rfl (Nat.le_of_ble_eq_true rfl) ⟨Nat.le_of_ble_eq_true rfl, Nat.le_of_ble_eq_true rfl⟩ dX2_flows_4 (fun r u H locs hp h => ?_)
  obtain ⟨rfl, hu9⟩ := hp
  rw [hu9] at h
  refine S_callVi C0 hK h (c_X2_head l z M (mf M k) (by omega)) (cwV 1 hts gX2_flows_X2_head rfl rfl rfl (by decide +kernel) ⟨Nat.le_of_ble_eq_true rfl, Nat.le_of_ble_eq_true rfl⟩) (k := 55) (ci := 2) (by omega) (fun ct hA => hA.1) rfl rfl rfl hl.1 (rest := []) (by rw [hF0]; rfl) (Nat.le_of_ble_eq_true rfl) ⟨Nat.le_of_ble_eq_true rfl, Nat.le_of_ble_eq_true rfl⟩ dX2_flows_7 (fun r u H locs hp h => ?_)
  obtain ⟨rfl, hu9⟩ := hp
  rw [hu9] at h
  refine lv_aload_n hx hb dX2_flows_10 rfl (lv_at hl 0 rfl) ?_
  refine lv_aload_n hx hb dX2_flows_11 rfl (lv_at hl 0 rfl) ?_
  refine lv_iload_n hx hb dX2_flows_12 rfl (lv_at hl 1 rfl) ?_
  refine lv_iconst (v := 1) hx hb dX2_flows_13 (by decide) ?_
  refine S_callVi C0 hK h (c_X2_li l z M k (by omega) 1 (by omega)) (cwV 2 hts gX2_flows_X2_li rfl rfl rfl (by decide +kernel) ⟨Nat.le_of_ble_eq_true rfl, Nat.le_of_ble_eq_true rfl⟩) (k := 55) (ci := 2) (by omega) (fun ct hA => hA.1) rfl rfl rfl hl.1 (rest := [.ref (za z 55), .int (mhead M (mf M k))]) rfl (Nat.le_of_ble_eq_true rfl) ⟨Nat.le_of_ble_eq_true rfl, Nat.le_of_ble_eq_true rfl⟩ dX2_flows_14 (fun r u H locs hp h => ?_)
  obtain ⟨rfl, hu9⟩ := hp
  rw [hu9] at h
  refine S_callVi C0 hK h (c_X2_head l z M (mo M k) (by omega)) (cwV 1 hts gX2_flows_X2_head rfl rfl rfl (by decide +kernel) ⟨Nat.le_of_ble_eq_true rfl, Nat.le_of_ble_eq_true rfl⟩) (k := 55) (ci := 2) (by omega) (fun ct hA => hA.1) rfl rfl rfl hl.1 (rest := [.int (mhead M (mf M k))]) (by rw [hF1]; rfl) (Nat.le_of_ble_eq_true rfl) ⟨Nat.le_of_ble_eq_true rfl, Nat.le_of_ble_eq_true rfl⟩ dX2_flows_17 (fun r u H locs hp h => ?_)
  obtain ⟨rfl, hu9⟩ := hp
  rw [hu9] at h
  refine lv_isub hx hb dX2_flows_20 ?_
  refine lv_istore_n (lv' := [(2, .int ((mhead M (mf M k)) - (mhead M (mo M k)))), (0, .ref (za z 55)), (1, .int (nI k))]) hx hb dX2_flows_21 rfl hl (by decide) rfl (fun ls hl => ?_)
  refine lv_iload_n hx hb dX2_flows_22 rfl (lv_at hl 0 rfl) ?_
  refine lv_if_le (tgt := 36) hx hb dX2_flows_23 (by decide) (fun c_23 => ?_) (fun c_23 => ?_)
  · refine lv_iconst (v := 0) hx hb dX2_flows_36 (by decide) ?_
    exact G_iret C0 hK h ⟨by simp only [mflows]; rw [if_pos c_23], rfl⟩ (Nat.le_of_ble_eq_true rfl) (Nat.le_of_ble_eq_true rfl) dX2_flows_37
  · refine lv_iload_n hx hb dX2_flows_26 rfl (lv_at hl 0 rfl) ?_
    refine lv_aload_n hx hb dX2_flows_27 rfl (lv_at hl 1 rfl) ?_
    refine lv_iload_n hx hb dX2_flows_28 rfl (lv_at hl 2 rfl) ?_
    refine lv_iconst (v := 3) hx hb dX2_flows_29 (by decide) ?_
    refine S_callVi C0 hK h (c_X2_li l z M k (by omega) 3 (by omega)) (cwV 2 hts gX2_flows_X2_li rfl rfl rfl (by decide +kernel) ⟨Nat.le_of_ble_eq_true rfl, Nat.le_of_ble_eq_true rfl⟩) (k := 55) (ci := 2) (by omega) (fun ct hA => hA.1) rfl rfl rfl hl.1 (rest := [.int ((mhead M (mf M k)) - (mhead M (mo M k)))]) rfl (Nat.le_of_ble_eq_true rfl) ⟨Nat.le_of_ble_eq_true rfl, Nat.le_of_ble_eq_true rfl⟩ dX2_flows_30 (fun r u H locs hp h => ?_)
    obtain ⟨rfl, hu9⟩ := hp
    rw [hu9] at h
    refine lv_icmp_ge (tgt := 38) hx hb dX2_flows_33 (by decide) (fun c_33 => ?_) (fun c_33 => ?_)
    · refine lv_aload_n hx hb dX2_flows_38 rfl (lv_at hl 1 rfl) ?_
      refine lv_aload_n hx hb dX2_flows_39 rfl (lv_at hl 1 rfl) ?_
      refine lv_iload_n hx hb dX2_flows_40 rfl (lv_at hl 2 rfl) ?_
      refine lv_iconst (v := 0) hx hb dX2_flows_41 (by decide) ?_
      refine S_callVi C0 hK h (c_X2_li l z M k (by omega) 0 (by omega)) (cwV 2 hts gX2_flows_X2_li rfl rfl rfl (by decide +kernel) ⟨Nat.le_of_ble_eq_true rfl, Nat.le_of_ble_eq_true rfl⟩) (k := 55) (ci := 2) (by omega) (fun ct hA => hA.1) rfl rfl rfl hl.1 (rest := [.ref (za z 55)]) rfl (Nat.le_of_ble_eq_true rfl) ⟨Nat.le_of_ble_eq_true rfl, Nat.le_of_ble_eq_true rfl⟩ dX2_flows_42 (fun r u H locs hp h => ?_)
      obtain ⟨rfl, hu9⟩ := hp
      rw [hu9] at h
      refine lv_iconst (v := 3) hx hb dX2_flows_45 (by decide) ?_
      refine S_callVi C0 hK h (c_X2_la l z M (mf M k) (by omega) 3 (by omega)) (cwV 2 hts gX2_flows_X2_la rfl rfl rfl (by decide +kernel) ⟨Nat.le_of_ble_eq_true rfl, Nat.le_of_ble_eq_true rfl⟩) (k := 55) (ci := 2) (by omega) (fun ct hA => hA.1) rfl rfl rfl hl.1 (rest := []) (by rw [hF0]; rfl) (Nat.le_of_ble_eq_true rfl) ⟨Nat.le_of_ble_eq_true rfl, Nat.le_of_ble_eq_true rfl⟩ dX2_flows_46 (fun r u H locs hp h => ?_)
      obtain ⟨rfl, hu9⟩ := hp
      rw [hu9] at h
      refine lv_iload_n hx hb dX2_flows_49 rfl (lv_at hl 0 rfl) ?_
      refine lv_bipush (v := 10) hx hb dX2_flows_50 (by decide) ?_
      refine lv_idiv hx hb dX2_flows_52 (by decide) ?_
      refine lv_iconst (v := 1) hx hb dX2_flows_53 (by decide) ?_
      refine lv_iadd hx hb dX2_flows_54 ?_
      refine lv_iconst (v := 0) hx hb dX2_flows_55 (by decide) ?_
      refine lv_aload_n hx hb dX2_flows_56 rfl (lv_at hl 1 rfl) ?_
      refine lv_iload_n hx hb dX2_flows_57 rfl (lv_at hl 2 rfl) ?_
      refine lv_iconst (v := 2) hx hb dX2_flows_58 (by decide) ?_
      refine S_callVi C0 hK h (c_X2_li l z M k (by omega) 2 (by omega)) (cwV 2 hts gX2_flows_X2_li rfl rfl rfl (by decide +kernel) ⟨Nat.le_of_ble_eq_true rfl, Nat.le_of_ble_eq_true rfl⟩) (k := 55) (ci := 2) (by omega) (fun ct hA => hA.1) rfl rfl rfl hl.1 (rest := [.int 0, .int ((((mhead M (mf M k)) - (mhead M (mo M k))) / 10) + 1), .int (mA M (8 * (mf M k) + 3))]) rfl (Nat.le_of_ble_eq_true rfl) ⟨Nat.le_of_ble_eq_true rfl, Nat.le_of_ble_eq_true rfl⟩ dX2_flows_59 (fun r u H locs hp h => ?_)
      obtain ⟨rfl, hu9⟩ := hp
      rw [hu9] at h
      refine lv_aload_n hx hb dX2_flows_62 rfl (lv_at hl 1 rfl) ?_
      refine lv_iload_n hx hb dX2_flows_63 rfl (lv_at hl 2 rfl) ?_
      refine lv_iconst (v := 4) hx hb dX2_flows_64 (by decide) ?_
      refine S_callVi C0 hK h (c_X2_li l z M k (by omega) 4 (by omega)) (cwV 2 hts gX2_flows_X2_li rfl rfl rfl (by decide +kernel) ⟨Nat.le_of_ble_eq_true rfl, Nat.le_of_ble_eq_true rfl⟩) (k := 55) (ci := 2) (by omega) (fun ct hA => hA.1) rfl rfl rfl hl.1 (rest := [.int (mB M (9 * k + 2)), .int 0, .int ((((mhead M (mf M k)) - (mhead M (mo M k))) / 10) + 1), .int (mA M (8 * (mf M k) + 3))]) rfl (Nat.le_of_ble_eq_true rfl) ⟨Nat.le_of_ble_eq_true rfl, Nat.le_of_ble_eq_true rfl⟩ dX2_flows_65 (fun r u H locs hp h => ?_)
      obtain ⟨rfl, hu9⟩ := hp
      rw [hu9] at h
      refine lv_isub hx hb dX2_flows_68 ?_
      refine G_mmax C0 hl.1 (by decide +kernel) (by decide +kernel) (by decide +kernel) (by decide +kernel) ⟨Nat.le_of_ble_eq_true rfl, Nat.le_of_ble_eq_true rfl, Nat.le_of_ble_eq_true rfl, Nat.le_of_ble_eq_true rfl⟩ dX2_flows_69 ?_
      refine G_mmin C0 hl.1 (by decide +kernel) (by decide +kernel) (by decide +kernel) (by decide +kernel) ⟨Nat.le_of_ble_eq_true rfl, Nat.le_of_ble_eq_true rfl, Nat.le_of_ble_eq_true rfl, Nat.le_of_ble_eq_true rfl⟩ dX2_flows_72 ?_
      refine G_mmin C0 hl.1 (by decide +kernel) (by decide +kernel) (by decide +kernel) (by decide +kernel) ⟨Nat.le_of_ble_eq_true rfl, Nat.le_of_ble_eq_true rfl, Nat.le_of_ble_eq_true rfl, Nat.le_of_ble_eq_true rfl⟩ dX2_flows_75 ?_
      exact G_iret C0 hK h ⟨by simp only [mflows]; rw [if_neg c_23, if_pos c_33], rfl⟩ (Nat.le_of_ble_eq_true rfl) (Nat.le_of_ble_eq_true rfl) dX2_flows_78
    · refine lv_iconst (v := 0) hx hb dX2_flows_36 (by decide) ?_
      exact G_iret C0 hK h ⟨by simp only [mflows]; rw [if_neg c_23, if_neg c_33], rfl⟩ (Nat.le_of_ble_eq_true rfl) (Nat.le_of_ble_eq_true rfl) dX2_flows_37
set_option maxHeartbeats 4000000 in
set_option maxRecDepth 100000 in
theorem c_X2_pipeTold (l : Launch) (z : QZ) (M : QMs) (hk : MOk M) (k : Nat) (hkp : k < mp_ M) (n : Nat) (hn9 : n < 9) : GI l yX2_pipeTold wsX2_pipeTold ({ frames := 3, cells := 0, slots := 0, locals := 65 } : Room) z [.ref (za z 55), .int (nI k), .int (nI n)] 0 0 (MAt z) 55 59 M (fun r M' => r = mtold M k n ∧ M' = M) := by
  intro ct sz hn hq hat
  refine q_entry (lo := 55) (cc := cX2_pipeTold) (maxL := 3) (ret := (some .int)) (by decide) rfl (Nat.le_of_ble_eq_true rfl) hn hq hat ?_
  intro p e s m below meth c ls C0 hK hsz h hl
  subst hsz
  obtain ⟨hx, hb, hr, hml, hown, hts, hlocks⟩ := id C0
  have hl : lv_has ls 3 [(0, .ref (za z 55)), (1, .int (nI k)), (2, .int (nI n))] := hl
  have hk2 := hk.2.1
  have hk6 : k < 14 := by omega
  refine lv_iload_n hx hb dX2_pipeTold_0 rfl (lv_at hl 2 rfl) ?_
  refine lv_bipush (v := 8) hx hb dX2_pipeTold_1 (by decide) ?_
  refine lv_icmp_ne (tgt := 14) hx hb dX2_pipeTold_3 (by decide) (fun c_3 => ?_) (fun c_3 => ?_)
  · refine lv_aload_n hx hb dX2_pipeTold_14 rfl (lv_at hl 0 rfl) ?_
    refine lv_iload_n hx hb dX2_pipeTold_15 rfl (lv_at hl 1 rfl) ?_
    refine lv_iload_n hx hb dX2_pipeTold_16 rfl (lv_at hl 2 rfl) ?_
    refine S_callVi C0 hK h (c_X2_li l z M k (by omega) n (by omega)) (cwV 2 hts gX2_pipeTold_X2_li rfl rfl rfl (by decide +kernel) ⟨Nat.le_of_ble_eq_true rfl, Nat.le_of_ble_eq_true rfl⟩) (k := 55) (ci := 2) (by omega) (fun ct hA => hA.1) rfl rfl rfl hl.1 (rest := []) rfl (Nat.le_of_ble_eq_true rfl) ⟨Nat.le_of_ble_eq_true rfl, Nat.le_of_ble_eq_true rfl⟩ dX2_pipeTold_17 (fun r u H locs hp h => ?_)
    obtain ⟨rfl, hu9⟩ := hp
    rw [hu9] at h
    exact G_iret C0 hK h ⟨by unfold mtold; rw [if_neg (fun q => c_3 (by rw [q]; rfl))], rfl⟩ (Nat.le_of_ble_eq_true rfl) (Nat.le_of_ble_eq_true rfl) dX2_pipeTold_20
  · refine lv_aload_n hx hb dX2_pipeTold_6 rfl (lv_at hl 0 rfl) ?_
    refine lv_iload_n hx hb dX2_pipeTold_7 rfl (lv_at hl 1 rfl) ?_
    refine S_callVi C0 hK h (c_X2_flows l z M hk k hkp) (cwV 1 hts gX2_pipeTold_X2_flows rfl rfl rfl (by decide +kernel) ⟨Nat.le_of_ble_eq_true rfl, Nat.le_of_ble_eq_true rfl⟩) (k := 55) (ci := 2) (by omega) (fun ct hA => hA.1) rfl rfl rfl hl.1 (rest := []) rfl (Nat.le_of_ble_eq_true rfl) ⟨Nat.le_of_ble_eq_true rfl, Nat.le_of_ble_eq_true rfl⟩ dX2_pipeTold_8 (fun r u H locs hp h => ?_)
    obtain ⟨rfl, hu9⟩ := hp
    rw [hu9] at h
    refine lv_goto (tgt := 20) hx hb dX2_pipeTold_11 (by decide) ?_
    exact G_iret C0 hK h ⟨by unfold mtold; rw [if_pos ((nI_eq (a := n) (b := 8) (by omega) (by decide)).mp c_3)], rfl⟩ (Nat.le_of_ble_eq_true rfl) (Nat.le_of_ble_eq_true rfl) dX2_pipeTold_20
set_option maxHeartbeats 4000000 in
set_option maxRecDepth 100000 in
theorem c_X2_all (l : Launch) (z : QZ) (M : QMs) (hk : MOk M) (k : Nat) (hk9 : k < 8) : GI l yX2_all wsX2_all ({ frames := 1, cells := 0, slots := 0, locals := 22 } : Room) z [.ref (za z 55), .int (nI k)] 0 0 (MAt z) 55 59 M (fun r M' => r = mall M k ∧ M' = M) := by
  intro ct sz hn hq hat
  refine q_entry (lo := 55) (cc := cX2_all) (maxL := 4) (ret := (some .int)) (by decide) rfl (Nat.le_of_ble_eq_true rfl) hn hq hat ?_
  intro p e s m below meth c ls C0 hK hsz h hl
  subst hsz
  obtain ⟨hx, hb, hr, hml, hown, hts, hlocks⟩ := id C0
  have hin2 : ∀ w ∈ u_ws RX2 TX2 6, w ∈ wsX2_all := by decide +kernel
  have hl : lv_has ls 4 [(0, .ref (za z 55)), (1, .int (nI k))] := hl
  have hk1 := hk.1
  have hk2 := hk.2.1
  have L4 : ∀ (d i : Nat), i + d = mt_ M → ∀ (H : Heap) (locs : List Loc) (ls : Array Slot), GW z (MAt z) 55 59 s.heap ct M H locs → lv_has ls 4 [(3, .int (nI i)), (2, .int (qsum (fun j => mA M (8 * j + k)) i)), (0, .ref (za z 55)), (1, .int (nI k))] → W p l e ({ frames := 1, cells := 0, slots := 0, locals := 22 } : Room) s m [.ref (za z 55), .int (nI k)].toArray below meth c H locs 0 0 (EI z (MAt z) 55 59 ct s below [.ref (za z 55), .int (nI k)] 0 0 (fun r M' => r = mall M k ∧ M' = M)) (F0 m 4 ls []) := by
    intro  d
    induction d with
    | zero =>
      intro i hdi H locs ls h hl
      have hEi : i = mt_ M := by omega
      refine lv_iload_n hx hb dX2_all_4 rfl (lv_at hl 0 rfl) ?_
      refine lv_aload_n hx hb dX2_all_5 rfl (lv_at hl 2 rfl) ?_
      refine M_g C0 hK h hin2 1 (by decide) (by decide +kernel) rfl dX2_all_6 ?_
      refine lv_icmp_ge (tgt := 27) hx hb dX2_all_9 (by decide) (fun _ => ?_) (fun q9 => absurd (nI_le (by omega) (by omega)) q9)
      refine lv_iload_n hx hb dX2_all_27 rfl (lv_at hl 1 rfl) ?_
      exact G_iret C0 hK h ⟨by rw [hEi]; rfl, rfl⟩ (Nat.le_of_ble_eq_true rfl) (Nat.le_of_ble_eq_true rfl) dX2_all_28
    | succ d ihL4 =>
      intro i hdi H locs ls h hl
      have hEi : i < mt_ M := by omega
      refine lv_iload_n hx hb dX2_all_4 rfl (lv_at hl 0 rfl) ?_
      refine lv_aload_n hx hb dX2_all_5 rfl (lv_at hl 2 rfl) ?_
      refine M_g C0 hK h hin2 1 (by decide) (by decide +kernel) rfl dX2_all_6 ?_
      refine lv_icmp_ge (tgt := 27) hx hb dX2_all_9 (by decide) (fun q9 => absurd q9 (nI_ge (by omega) (by omega))) (fun _ => ?_)
      refine lv_iload_n hx hb dX2_all_12 rfl (lv_at hl 1 rfl) ?_
      refine lv_aload_n hx hb dX2_all_13 rfl (lv_at hl 2 rfl) ?_
      refine lv_iload_n hx hb dX2_all_14 rfl (lv_at hl 0 rfl) ?_
      refine lv_iload_n hx hb dX2_all_15 rfl (lv_at hl 3 rfl) ?_
      refine S_callVi C0 hK h (c_X2_la l z M i (by omega) k (by omega)) (cwV 2 hts gX2_all_X2_la rfl rfl rfl (by decide +kernel) ⟨Nat.le_of_ble_eq_true rfl, Nat.le_of_ble_eq_true rfl⟩) (k := 55) (ci := 2) (by omega) (fun ct hA => hA.1) rfl rfl rfl hl.1 (rest := [.int (qsum (fun j => mA M (8 * j + k)) i)]) rfl (Nat.le_of_ble_eq_true rfl) ⟨Nat.le_of_ble_eq_true rfl, Nat.le_of_ble_eq_true rfl⟩ dX2_all_16 (fun r u H locs hp h => ?_)
      obtain ⟨rfl, hu9⟩ := hp
      rw [hu9] at h
      refine lv_iadd hx hb dX2_all_19 ?_
      refine lv_istore_n (lv' := [(2, .int ((qsum (fun j => mA M (8 * j + k)) i) + (mA M (8 * i + k)))), (3, .int (nI i)), (0, .ref (za z 55)), (1, .int (nI k))]) hx hb dX2_all_20 rfl hl (by decide) rfl (fun ls hl => ?_)
      refine lv_iinc (v := nI (i + 1)) (lv' := [(3, .int (nI (i + 1))), (2, .int ((qsum (fun j => mA M (8 * j + k)) i) + (mA M (8 * i + k)))), (0, .ref (za z 55)), (1, .int (nI k))]) hx hb dX2_all_21 hl (k := 1) rfl (q_inc i 1) (by decide) rfl (fun ls hl => ?_)
      refine lv_goto (tgt := 4) hx hb dX2_all_24 (by decide) ?_
      exact ihL4 (i + 1) (by omega) _ _ _ h (lv_sub hl [0, 1, 2, 3] rfl)
  refine lv_iconst (v := 0) hx hb dX2_all_0 (by decide) ?_
  refine lv_istore_n (lv' := [(2, .int 0), (0, .ref (za z 55)), (1, .int (nI k))]) hx hb dX2_all_1 rfl hl (by decide) rfl (fun ls hl => ?_)
  refine lv_iconst (v := 0) hx hb dX2_all_2 (by decide) ?_
  refine lv_istore_n (lv' := [(3, .int 0), (2, .int 0), (0, .ref (za z 55)), (1, .int (nI k))]) hx hb dX2_all_3 rfl hl (by decide) rfl (fun ls hl => ?_)
  exact L4 (mt_ M) 0 (by omega) _ _ _ h (lv_sub hl [0, 1, 2, 3] rfl)
set_option maxHeartbeats 4000000 in
set_option maxRecDepth 100000 in
theorem c_X2_allPipes (l : Launch) (z : QZ) (M : QMs) (hk : MOk M) (k : Nat) (hk9 : k < 9) : GI l yX2_allPipes wsX2_allPipes ({ frames := 1, cells := 0, slots := 0, locals := 22 } : Room) z [.ref (za z 55), .int (nI k)] 0 0 (MAt z) 55 59 M (fun r M' => r = mallP M k ∧ M' = M) := by
  intro ct sz hn hq hat
  refine q_entry (lo := 55) (cc := cX2_allPipes) (maxL := 4) (ret := (some .int)) (by decide) rfl (Nat.le_of_ble_eq_true rfl) hn hq hat ?_
  intro p e s m below meth c ls C0 hK hsz h hl
  subst hsz
  obtain ⟨hx, hb, hr, hml, hown, hts, hlocks⟩ := id C0
  have hin2 : ∀ w ∈ u_ws RX2 TX2 6, w ∈ wsX2_allPipes := by decide +kernel
  have hl : lv_has ls 4 [(0, .ref (za z 55)), (1, .int (nI k))] := hl
  have hk1 := hk.1
  have hk2 := hk.2.1
  have L4 : ∀ (d i : Nat), i + d = mp_ M → ∀ (H : Heap) (locs : List Loc) (ls : Array Slot), GW z (MAt z) 55 59 s.heap ct M H locs → lv_has ls 4 [(3, .int (nI i)), (2, .int (qsum (fun j => mB M (9 * j + k)) i)), (0, .ref (za z 55)), (1, .int (nI k))] → W p l e ({ frames := 1, cells := 0, slots := 0, locals := 22 } : Room) s m [.ref (za z 55), .int (nI k)].toArray below meth c H locs 0 0 (EI z (MAt z) 55 59 ct s below [.ref (za z 55), .int (nI k)] 0 0 (fun r M' => r = mallP M k ∧ M' = M)) (F0 m 4 ls []) := by
    intro  d
    induction d with
    | zero =>
      intro i hdi H locs ls h hl
      have hEi : i = mp_ M := by omega
      refine lv_iload_n hx hb dX2_allPipes_4 rfl (lv_at hl 0 rfl) ?_
      refine lv_aload_n hx hb dX2_allPipes_5 rfl (lv_at hl 2 rfl) ?_
      refine M_g C0 hK h hin2 2 (by decide) (by decide +kernel) rfl dX2_allPipes_6 ?_
      refine lv_icmp_ge (tgt := 27) hx hb dX2_allPipes_9 (by decide) (fun _ => ?_) (fun q9 => absurd (nI_le (by omega) (by omega)) q9)
      refine lv_iload_n hx hb dX2_allPipes_27 rfl (lv_at hl 1 rfl) ?_
      exact G_iret C0 hK h ⟨by rw [hEi]; rfl, rfl⟩ (Nat.le_of_ble_eq_true rfl) (Nat.le_of_ble_eq_true rfl) dX2_allPipes_28
    | succ d ihL4 =>
      intro i hdi H locs ls h hl
      have hEi : i < mp_ M := by omega
      refine lv_iload_n hx hb dX2_allPipes_4 rfl (lv_at hl 0 rfl) ?_
      refine lv_aload_n hx hb dX2_allPipes_5 rfl (lv_at hl 2 rfl) ?_
      refine M_g C0 hK h hin2 2 (by decide) (by decide +kernel) rfl dX2_allPipes_6 ?_
      refine lv_icmp_ge (tgt := 27) hx hb dX2_allPipes_9 (by decide) (fun q9 => absurd q9 (nI_ge (by omega) (by omega))) (fun _ => ?_)
      refine lv_iload_n hx hb dX2_allPipes_12 rfl (lv_at hl 1 rfl) ?_
      refine lv_aload_n hx hb dX2_allPipes_13 rfl (lv_at hl 2 rfl) ?_
      refine lv_iload_n hx hb dX2_allPipes_14 rfl (lv_at hl 0 rfl) ?_
      refine lv_iload_n hx hb dX2_allPipes_15 rfl (lv_at hl 3 rfl) ?_
      refine S_callVi C0 hK h (c_X2_li l z M i (by omega) k (by omega)) (cwV 2 hts gX2_allPipes_X2_li rfl rfl rfl (by decide +kernel) ⟨Nat.le_of_ble_eq_true rfl, Nat.le_of_ble_eq_true rfl⟩) (k := 55) (ci := 2) (by omega) (fun ct hA => hA.1) rfl rfl rfl hl.1 (rest := [.int (qsum (fun j => mB M (9 * j + k)) i)]) rfl (Nat.le_of_ble_eq_true rfl) ⟨Nat.le_of_ble_eq_true rfl, Nat.le_of_ble_eq_true rfl⟩ dX2_allPipes_16 (fun r u H locs hp h => ?_)
      obtain ⟨rfl, hu9⟩ := hp
      rw [hu9] at h
      refine lv_iadd hx hb dX2_allPipes_19 ?_
      refine lv_istore_n (lv' := [(2, .int ((qsum (fun j => mB M (9 * j + k)) i) + (mB M (9 * i + k)))), (3, .int (nI i)), (0, .ref (za z 55)), (1, .int (nI k))]) hx hb dX2_allPipes_20 rfl hl (by decide) rfl (fun ls hl => ?_)
      refine lv_iinc (v := nI (i + 1)) (lv' := [(3, .int (nI (i + 1))), (2, .int ((qsum (fun j => mB M (9 * j + k)) i) + (mB M (9 * i + k)))), (0, .ref (za z 55)), (1, .int (nI k))]) hx hb dX2_allPipes_21 hl (k := 1) rfl (q_inc i 1) (by decide) rfl (fun ls hl => ?_)
      refine lv_goto (tgt := 4) hx hb dX2_allPipes_24 (by decide) ?_
      exact ihL4 (i + 1) (by omega) _ _ _ h (lv_sub hl [0, 1, 2, 3] rfl)
  refine lv_iconst (v := 0) hx hb dX2_allPipes_0 (by decide) ?_
  refine lv_istore_n (lv' := [(2, .int 0), (0, .ref (za z 55)), (1, .int (nI k))]) hx hb dX2_allPipes_1 rfl hl (by decide) rfl (fun ls hl => ?_)
  refine lv_iconst (v := 0) hx hb dX2_allPipes_2 (by decide) ?_
  refine lv_istore_n (lv' := [(3, .int 0), (2, .int 0), (0, .ref (za z 55)), (1, .int (nI k))]) hx hb dX2_allPipes_3 rfl hl (by decide) rfl (fun ls hl => ?_)
  exact L4 (mp_ M) 0 (by omega) _ _ _ h (lv_sub hl [0, 1, 2, 3] rfl)
end
section
set_option maxHeartbeats 4000000 in
set_option maxRecDepth 100000 in
theorem c_X2_pour (l : Launch) (z : QZ) (M : QMs) (i : Nat) (hi : i < 10) (x y : Int32) : GV l yX2_pour wsX2_pour ({ frames := 1, cells := 0, slots := 0, locals := 23 } : Room) z [.ref (za z 55), .int (nI i), .int x, .int y] 0 0 (MAt z) 55 59 M (fun M' => M' = mPour M i x y) := by
  intro ct sz hn hq hat
  refine q_entry (lo := 55) (cc := cX2_pour) (maxL := 5) (ret := none) (by decide) rfl (Nat.le_of_ble_eq_true rfl) hn hq hat ?_
  intro p e s m below meth c ls C0 hK hsz h hl
  subst hsz
  obtain ⟨hx, hb, hr, hml, hown, hts, hlocks⟩ := id C0
  have hl : lv_has ls 5 [(0, .ref (za z 55)), (1, .int (nI i)), (2, .int x), (3, .int y)] := hl
  refine lv_aload_n hx hb dX2_pour_0 rfl (lv_at hl 0 rfl) ?_
  refine lv_iload_n hx hb dX2_pour_1 rfl (lv_at hl 1 rfl) ?_
  refine lv_iconst (v := 3) hx hb dX2_pour_2 (by decide) ?_
  refine S_callVi C0 hK h (c_X2_la l z M i (by omega) 3 (by omega)) (cwV 2 hts gX2_pour_X2_la rfl rfl rfl (by decide +kernel) ⟨Nat.le_of_ble_eq_true rfl, Nat.le_of_ble_eq_true rfl⟩) (k := 55) (ci := 2) (by omega) (fun ct hA => hA.1) rfl rfl rfl hl.1 (rest := []) rfl (Nat.le_of_ble_eq_true rfl) ⟨Nat.le_of_ble_eq_true rfl, Nat.le_of_ble_eq_true rfl⟩ dX2_pour_3 (fun r u H locs hp h => ?_)
  obtain ⟨rfl, hu9⟩ := hp
  rw [hu9] at h
  refine lv_iload_n hx hb dX2_pour_6 rfl (lv_at hl 2 rfl) ?_
  refine lv_iadd hx hb dX2_pour_7 ?_
  refine lv_istore (lv' := [(4, .int ((mA M (8 * i + 3)) + x)), (0, .ref (za z 55)), (1, .int (nI i)), (2, .int x), (3, .int y)]) hx hb dX2_pour_8 hl (by decide) rfl (fun ls hl => ?_)
  refine lv_aload_n hx hb dX2_pour_10 rfl (lv_at hl 1 rfl) ?_
  refine lv_iload_n hx hb dX2_pour_11 rfl (lv_at hl 2 rfl) ?_
  refine lv_bipush (v := 7) hx hb dX2_pour_12 (by decide) ?_
  refine lv_aload_n hx hb dX2_pour_14 rfl (lv_at hl 1 rfl) ?_
  refine lv_iload_n hx hb dX2_pour_15 rfl (lv_at hl 2 rfl) ?_
  refine lv_bipush (v := 7) hx hb dX2_pour_16 (by decide) ?_
  refine S_callVi C0 hK h (c_X2_la l z M i (by omega) 7 (by omega)) (cwV 2 hts gX2_pour_X2_la rfl rfl rfl (by decide +kernel) ⟨Nat.le_of_ble_eq_true rfl, Nat.le_of_ble_eq_true rfl⟩) (k := 55) (ci := 2) (by omega) (fun ct hA => hA.1) rfl rfl rfl hl.1 (rest := [.int 7, .int (nI i), .ref (za z 55)]) rfl (Nat.le_of_ble_eq_true rfl) ⟨Nat.le_of_ble_eq_true rfl, Nat.le_of_ble_eq_true rfl⟩ dX2_pour_18 (fun r u H locs hp h => ?_)
  obtain ⟨rfl, hu9⟩ := hp
  rw [hu9] at h
  refine lv_iconst (v := 0) hx hb dX2_pour_21 (by decide) ?_
  refine lv_iload hx hb dX2_pour_22 (lv_at hl 0 rfl) ?_
  refine lv_sipush (v := 200) hx hb dX2_pour_24 (by decide) ?_
  refine lv_isub hx hb dX2_pour_27 ?_
  refine G_mmax C0 hl.1 (by decide +kernel) (by decide +kernel) (by decide +kernel) (by decide +kernel) ⟨Nat.le_of_ble_eq_true rfl, Nat.le_of_ble_eq_true rfl, Nat.le_of_ble_eq_true rfl, Nat.le_of_ble_eq_true rfl⟩ dX2_pour_28 ?_
  refine lv_iadd hx hb dX2_pour_31 ?_
  refine S_callVv C0 hK h (c_X2_setTank l z M i (by omega) 7 (by omega) ((mA M (8 * i + 7)) + (qmax 0 (((mA M (8 * i + 3)) + x) - 200)))) (cwV 3 hts gX2_pour_X2_setTank rfl rfl rfl (by decide +kernel) ⟨Nat.le_of_ble_eq_true rfl, Nat.le_of_ble_eq_true rfl⟩) (k := 55) (ci := 2) (by omega) (fun ct hA => hA.1) rfl rfl rfl hl.1 (rest := []) rfl (Nat.le_of_ble_eq_true rfl) ⟨Nat.le_of_ble_eq_true rfl, Nat.le_of_ble_eq_true rfl⟩ dX2_pour_32 (fun u H locs hp h => ?_)
  obtain ⟨M1, eM1⟩ : ∃ z9, z9 = mSetT M i 7 ((mA M (8 * i + 7)) + (qmax 0 (((mA M (8 * i + 3)) + x) - 200))) := ⟨_, rfl⟩
  rw [hp, ← eM1] at h
  refine lv_aload_n hx hb dX2_pour_35 rfl (lv_at hl 1 rfl) ?_
  refine lv_iload_n hx hb dX2_pour_36 rfl (lv_at hl 2 rfl) ?_
  refine lv_iconst (v := 3) hx hb dX2_pour_37 (by decide) ?_
  refine lv_sipush (v := 200) hx hb dX2_pour_38 (by decide) ?_
  refine lv_iload hx hb dX2_pour_41 (lv_at hl 0 rfl) ?_
  refine G_mmin C0 hl.1 (by decide +kernel) (by decide +kernel) (by decide +kernel) (by decide +kernel) ⟨Nat.le_of_ble_eq_true rfl, Nat.le_of_ble_eq_true rfl, Nat.le_of_ble_eq_true rfl, Nat.le_of_ble_eq_true rfl⟩ dX2_pour_43 ?_
  refine S_callVv C0 hK h (c_X2_setTank l z M1 i (by omega) 3 (by omega) (qmin 200 ((mA M (8 * i + 3)) + x))) (cwV 3 hts gX2_pour_X2_setTank rfl rfl rfl (by decide +kernel) ⟨Nat.le_of_ble_eq_true rfl, Nat.le_of_ble_eq_true rfl⟩) (k := 55) (ci := 2) (by omega) (fun ct hA => hA.1) rfl rfl rfl hl.1 (rest := []) rfl (Nat.le_of_ble_eq_true rfl) ⟨Nat.le_of_ble_eq_true rfl, Nat.le_of_ble_eq_true rfl⟩ dX2_pour_46 (fun u H locs hp h => ?_)
  obtain ⟨M2, eM2⟩ : ∃ z9, z9 = mSetT M1 i 3 (qmin 200 ((mA M (8 * i + 3)) + x)) := ⟨_, rfl⟩
  rw [hp, ← eM2] at h
  refine lv_aload_n hx hb dX2_pour_49 rfl (lv_at hl 1 rfl) ?_
  refine lv_iload_n hx hb dX2_pour_50 rfl (lv_at hl 2 rfl) ?_
  refine lv_iconst (v := 4) hx hb dX2_pour_51 (by decide) ?_
  refine lv_bipush (v := 99) hx hb dX2_pour_52 (by decide) ?_
  refine lv_aload_n hx hb dX2_pour_54 rfl (lv_at hl 1 rfl) ?_
  refine lv_iload_n hx hb dX2_pour_55 rfl (lv_at hl 2 rfl) ?_
  refine lv_iconst (v := 4) hx hb dX2_pour_56 (by decide) ?_
  refine S_callVi C0 hK h (c_X2_la l z M2 i (by omega) 4 (by omega)) (cwV 2 hts gX2_pour_X2_la rfl rfl rfl (by decide +kernel) ⟨Nat.le_of_ble_eq_true rfl, Nat.le_of_ble_eq_true rfl⟩) (k := 55) (ci := 2) (by omega) (fun ct hA => hA.1) rfl rfl rfl hl.1 (rest := [.int 99, .int 4, .int (nI i), .ref (za z 55)]) rfl (Nat.le_of_ble_eq_true rfl) ⟨Nat.le_of_ble_eq_true rfl, Nat.le_of_ble_eq_true rfl⟩ dX2_pour_57 (fun r u H locs hp h => ?_)
  obtain ⟨rfl, hu9⟩ := hp
  rw [hu9] at h
  refine lv_iload_n hx hb dX2_pour_60 rfl (lv_at hl 4 rfl) ?_
  refine lv_iadd hx hb dX2_pour_61 ?_
  refine G_mmin C0 hl.1 (by decide +kernel) (by decide +kernel) (by decide +kernel) (by decide +kernel) ⟨Nat.le_of_ble_eq_true rfl, Nat.le_of_ble_eq_true rfl, Nat.le_of_ble_eq_true rfl, Nat.le_of_ble_eq_true rfl⟩ dX2_pour_62 ?_
  refine S_callVv C0 hK h (c_X2_setTank l z M2 i (by omega) 4 (by omega) (qmin 99 ((mA M2 (8 * i + 4)) + y))) (cwV 3 hts gX2_pour_X2_setTank rfl rfl rfl (by decide +kernel) ⟨Nat.le_of_ble_eq_true rfl, Nat.le_of_ble_eq_true rfl⟩) (k := 55) (ci := 2) (by omega) (fun ct hA => hA.1) rfl rfl rfl hl.1 (rest := []) rfl (Nat.le_of_ble_eq_true rfl) ⟨Nat.le_of_ble_eq_true rfl, Nat.le_of_ble_eq_true rfl⟩ dX2_pour_65 (fun u H locs hp h => ?_)
  obtain ⟨M3, eM3⟩ : ∃ z9, z9 = mSetT M2 i 4 (qmin 99 ((mA M2 (8 * i + 4)) + y)) := ⟨_, rfl⟩
  rw [hp, ← eM3] at h
  exact G_vret C0 hK h (by subst eM3 eM2 eM1; rfl) (Nat.le_of_ble_eq_true rfl) (Nat.le_of_ble_eq_true rfl) dX2_pour_68
set_option maxHeartbeats 4000000 in
set_option maxRecDepth 100000 in
theorem c_X2_flow (l : Launch) (z : QZ) (M : QMs) (hk : MOk M) (k : Nat) (hkp : k < mp_ M) : GV l yX2_flow wsX2_flow ({ frames := 3, cells := 0, slots := 0, locals := 65 } : Room) z [.ref (za z 55), .int (nI k)] 0 0 (MAt z) 55 59 M (fun M' => M' = mflow M k) := by
  intro ct sz hn hq hat
  refine q_entry (lo := 55) (cc := cX2_flow) (maxL := 6) (ret := none) (by decide) rfl (Nat.le_of_ble_eq_true rfl) hn hq hat ?_
  intro p e s m below meth c ls C0 hK hsz h hl
  subst hsz
  obtain ⟨hx, hb, hr, hml, hown, hts, hlocks⟩ := id C0
  have hl : lv_has ls 6 [(0, .ref (za z 55)), (1, .int (nI k))] := hl
  have hk1 := hk.1
  have hk2 := hk.2.1
  obtain ⟨hk3, hk4, hk5, hF0, hF1⟩ := hk.2.2 k hkp
  have hk6 : k < 14 := by omega
  have hk7 : mf M k < 10 := by omega
  have hk8 : mo M k < 10 := by omega
  refine lv_aload_n hx hb dX2_flow_0 rfl (lv_at hl 0 rfl) ?_
  refine lv_iload_n hx hb dX2_flow_1 rfl (lv_at hl 1 rfl) ?_
  refine S_callVi C0 hK h (c_X2_flows l z M hk k hkp) (cwV 1 hts gX2_flow_X2_flows rfl rfl rfl (by decide +kernel) ⟨Nat.le_of_ble_eq_true rfl, Nat.le_of_ble_eq_true rfl⟩) (k := 55) (ci := 2) (by omega) (fun ct hA => hA.1) rfl rfl rfl hl.1 (rest := []) rfl (Nat.le_of_ble_eq_true rfl) ⟨Nat.le_of_ble_eq_true rfl, Nat.le_of_ble_eq_true rfl⟩ dX2_flow_2 (fun r u H locs hp h => ?_)
  obtain ⟨rfl, hu9⟩ := hp
  rw [hu9] at h
  refine lv_istore_n (lv' := [(2, .int (mflows M k)), (0, .ref (za z 55)), (1, .int (nI k))]) hx hb dX2_flow_5 rfl hl (by decide) rfl (fun ls hl => ?_)
  refine lv_aload_n hx hb dX2_flow_6 rfl (lv_at hl 1 rfl) ?_
  refine lv_iload_n hx hb dX2_flow_7 rfl (lv_at hl 2 rfl) ?_
  refine lv_iconst (v := 0) hx hb dX2_flow_8 (by decide) ?_
  refine S_callVi C0 hK h (c_X2_li l z M k (by omega) 0 (by omega)) (cwV 2 hts gX2_flow_X2_li rfl rfl rfl (by decide +kernel) ⟨Nat.le_of_ble_eq_true rfl, Nat.le_of_ble_eq_true rfl⟩) (k := 55) (ci := 2) (by omega) (fun ct hA => hA.1) rfl rfl rfl hl.1 (rest := []) rfl (Nat.le_of_ble_eq_true rfl) ⟨Nat.le_of_ble_eq_true rfl, Nat.le_of_ble_eq_true rfl⟩ dX2_flow_9 (fun r u H locs hp h => ?_)
  obtain ⟨rfl, hu9⟩ := hp
  rw [hu9] at h
  refine lv_istore_n (lv' := [(3, .int (mB M (9 * k + 0))), (2, .int (mflows M k)), (0, .ref (za z 55)), (1, .int (nI k))]) hx hb dX2_flow_12 rfl hl (by decide) rfl (fun ls hl => ?_)
  refine lv_iload_n hx hb dX2_flow_13 rfl (lv_at hl 1 rfl) ?_
  refine lv_aload_n hx hb dX2_flow_14 rfl (lv_at hl 2 rfl) ?_
  refine lv_iload_n hx hb dX2_flow_15 rfl (lv_at hl 3 rfl) ?_
  refine lv_bipush (v := 8) hx hb dX2_flow_16 (by decide) ?_
  refine S_callVi C0 hK h (c_X2_li l z M k (by omega) 8 (by omega)) (cwV 2 hts gX2_flow_X2_li rfl rfl rfl (by decide +kernel) ⟨Nat.le_of_ble_eq_true rfl, Nat.le_of_ble_eq_true rfl⟩) (k := 55) (ci := 2) (by omega) (fun ct hA => hA.1) rfl rfl rfl hl.1 (rest := [.int (mflows M k)]) rfl (Nat.le_of_ble_eq_true rfl) ⟨Nat.le_of_ble_eq_true rfl, Nat.le_of_ble_eq_true rfl⟩ dX2_flow_18 (fun r u H locs hp h => ?_)
  obtain ⟨rfl, hu9⟩ := hp
  rw [hu9] at h
  refine G_mmin C0 hl.1 (by decide +kernel) (by decide +kernel) (by decide +kernel) (by decide +kernel) ⟨Nat.le_of_ble_eq_true rfl, Nat.le_of_ble_eq_true rfl, Nat.le_of_ble_eq_true rfl, Nat.le_of_ble_eq_true rfl⟩ dX2_flow_21 ?_
  refine lv_istore (lv' := [(4, .int (qmin (mflows M k) (mB M (9 * k + 8)))), (3, .int (mB M (9 * k + 0))), (2, .int (mflows M k)), (0, .ref (za z 55)), (1, .int (nI k))]) hx hb dX2_flow_24 hl (by decide) rfl (fun ls hl => ?_)
  refine lv_aload_n hx hb dX2_flow_26 rfl (lv_at hl 3 rfl) ?_
  refine lv_iload_n hx hb dX2_flow_27 rfl (lv_at hl 4 rfl) ?_
  refine lv_iconst (v := 5) hx hb dX2_flow_28 (by decide) ?_
  refine lv_iload_n hx hb dX2_flow_29 rfl (lv_at hl 2 rfl) ?_
  refine S_callVv C0 hK h (c_X2_setPipe l z M k (by omega) 5 (by omega) (mflows M k)) (cwV 3 hts gX2_flow_X2_setPipe rfl rfl rfl (by decide +kernel) ⟨Nat.le_of_ble_eq_true rfl, Nat.le_of_ble_eq_true rfl⟩) (k := 55) (ci := 2) (by omega) (fun ct hA => hA.1) rfl rfl rfl hl.1 (rest := []) rfl (Nat.le_of_ble_eq_true rfl) ⟨Nat.le_of_ble_eq_true rfl, Nat.le_of_ble_eq_true rfl⟩ dX2_flow_30 (fun u H locs hp h => ?_)
  obtain ⟨M1, eM1⟩ : ∃ z9, z9 = mSetP M k 5 (mflows M k) := ⟨_, rfl⟩
  rw [hp, ← eM1] at h
  refine lv_aload_n hx hb dX2_flow_33 rfl (lv_at hl 3 rfl) ?_
  refine lv_iload_n hx hb dX2_flow_34 rfl (lv_at hl 4 rfl) ?_
  refine lv_bipush (v := 6) hx hb dX2_flow_35 (by decide) ?_
  refine lv_iload hx hb dX2_flow_37 (lv_at hl 0 rfl) ?_
  refine S_callVv C0 hK h (c_X2_setPipe l z M1 k (by omega) 6 (by omega) (qmin (mflows M k) (mB M (9 * k + 8)))) (cwV 3 hts gX2_flow_X2_setPipe rfl rfl rfl (by decide +kernel) ⟨Nat.le_of_ble_eq_true rfl, Nat.le_of_ble_eq_true rfl⟩) (k := 55) (ci := 2) (by omega) (fun ct hA => hA.1) rfl rfl rfl hl.1 (rest := []) rfl (Nat.le_of_ble_eq_true rfl) ⟨Nat.le_of_ble_eq_true rfl, Nat.le_of_ble_eq_true rfl⟩ dX2_flow_39 (fun u H locs hp h => ?_)
  obtain ⟨M2, eM2⟩ : ∃ z9, z9 = mSetP M1 k 6 (qmin (mflows M k) (mB M (9 * k + 8))) := ⟨_, rfl⟩
  rw [hp, ← eM2] at h
  refine lv_aload_n hx hb dX2_flow_42 rfl (lv_at hl 3 rfl) ?_
  refine lv_iload_n hx hb dX2_flow_43 rfl (lv_at hl 4 rfl) ?_
  refine lv_bipush (v := 7) hx hb dX2_flow_44 (by decide) ?_
  refine lv_aload_n hx hb dX2_flow_46 rfl (lv_at hl 3 rfl) ?_
  refine lv_iload_n hx hb dX2_flow_47 rfl (lv_at hl 4 rfl) ?_
  refine lv_bipush (v := 7) hx hb dX2_flow_48 (by decide) ?_
  refine S_callVi C0 hK h (c_X2_li l z M2 k (by omega) 7 (by omega)) (cwV 2 hts gX2_flow_X2_li rfl rfl rfl (by decide +kernel) ⟨Nat.le_of_ble_eq_true rfl, Nat.le_of_ble_eq_true rfl⟩) (k := 55) (ci := 2) (by omega) (fun ct hA => hA.1) rfl rfl rfl hl.1 (rest := [.int 7, .int (nI k), .ref (za z 55)]) rfl (Nat.le_of_ble_eq_true rfl) ⟨Nat.le_of_ble_eq_true rfl, Nat.le_of_ble_eq_true rfl⟩ dX2_flow_50 (fun r u H locs hp h => ?_)
  obtain ⟨rfl, hu9⟩ := hp
  rw [hu9] at h
  refine lv_iload hx hb dX2_flow_53 (lv_at hl 0 rfl) ?_
  refine lv_iadd hx hb dX2_flow_55 ?_
  refine S_callVv C0 hK h (c_X2_setPipe l z M2 k (by omega) 7 (by omega) ((mB M2 (9 * k + 7)) + (qmin (mflows M k) (mB M (9 * k + 8))))) (cwV 3 hts gX2_flow_X2_setPipe rfl rfl rfl (by decide +kernel) ⟨Nat.le_of_ble_eq_true rfl, Nat.le_of_ble_eq_true rfl⟩) (k := 55) (ci := 2) (by omega) (fun ct hA => hA.1) rfl rfl rfl hl.1 (rest := []) rfl (Nat.le_of_ble_eq_true rfl) ⟨Nat.le_of_ble_eq_true rfl, Nat.le_of_ble_eq_true rfl⟩ dX2_flow_56 (fun u H locs hp h => ?_)
  obtain ⟨M3, eM3⟩ : ∃ z9, z9 = mSetP M2 k 7 ((mB M2 (9 * k + 7)) + (qmin (mflows M k) (mB M (9 * k + 8)))) := ⟨_, rfl⟩
  rw [hp, ← eM3] at h
  refine lv_iload_n hx hb dX2_flow_59 rfl (lv_at hl 2 rfl) ?_
  refine lv_if_ne (tgt := 64) hx hb dX2_flow_60 (by decide) (fun c_60 => ?_) (fun c_60 => ?_)
  · refine lv_aload_n hx hb dX2_flow_64 rfl (lv_at hl 3 rfl) ?_
    refine lv_iload_n hx hb dX2_flow_65 rfl (lv_at hl 1 rfl) ?_
    refine lv_iconst (v := 4) hx hb dX2_flow_66 (by decide) ?_
    refine S_callVi C0 hK h (c_X2_la l z M3 (mf M k) (by omega) 4 (by omega)) (cwV 2 hts gX2_flow_X2_la rfl rfl rfl (by decide +kernel) ⟨Nat.le_of_ble_eq_true rfl, Nat.le_of_ble_eq_true rfl⟩) (k := 55) (ci := 2) (by omega) (fun ct hA => hA.1) rfl rfl rfl hl.1 (rest := []) (by rw [hF0]; rfl) (Nat.le_of_ble_eq_true rfl) ⟨Nat.le_of_ble_eq_true rfl, Nat.le_of_ble_eq_true rfl⟩ dX2_flow_67 (fun r u H locs hp h => ?_)
    obtain ⟨rfl, hu9⟩ := hp
    rw [hu9] at h
    refine lv_iload_n hx hb dX2_flow_70 rfl (lv_at hl 2 rfl) ?_
    refine lv_imul hx hb dX2_flow_71 ?_
    refine lv_aload_n hx hb dX2_flow_72 rfl (lv_at hl 3 rfl) ?_
    refine lv_iload_n hx hb dX2_flow_73 rfl (lv_at hl 1 rfl) ?_
    refine lv_iconst (v := 3) hx hb dX2_flow_74 (by decide) ?_
    refine S_callVi C0 hK h (c_X2_la l z M3 (mf M k) (by omega) 3 (by omega)) (cwV 2 hts gX2_flow_X2_la rfl rfl rfl (by decide +kernel) ⟨Nat.le_of_ble_eq_true rfl, Nat.le_of_ble_eq_true rfl⟩) (k := 55) (ci := 2) (by omega) (fun ct hA => hA.1) rfl rfl rfl hl.1 (rest := [.int ((mA M3 (8 * (mf M k) + 4)) * (mflows M k))]) (by rw [hF0]; rfl) (Nat.le_of_ble_eq_true rfl) ⟨Nat.le_of_ble_eq_true rfl, Nat.le_of_ble_eq_true rfl⟩ dX2_flow_75 (fun r u H locs hp h => ?_)
    obtain ⟨rfl, hu9⟩ := hp
    rw [hu9] at h
    refine lv_idiv hx hb dX2_flow_78 (fun q => mflows_ne c_60 (by subst eM3 eM2 eM1; exact q)) ?_
    refine lv_istore (lv' := [(5, .int (((mA M3 (8 * (mf M k) + 4)) * (mflows M k)) / (mA M3 (8 * (mf M k) + 3)))), (4, .int (qmin (mflows M k) (mB M (9 * k + 8)))), (3, .int (mB M (9 * k + 0))), (2, .int (mflows M k)), (0, .ref (za z 55)), (1, .int (nI k))]) hx hb dX2_flow_79 hl (by decide) rfl (fun ls hl => ?_)
    refine lv_aload_n hx hb dX2_flow_81 rfl (lv_at hl 4 rfl) ?_
    refine lv_iload_n hx hb dX2_flow_82 rfl (lv_at hl 2 rfl) ?_
    refine lv_iconst (v := 3) hx hb dX2_flow_83 (by decide) ?_
    refine lv_aload_n hx hb dX2_flow_84 rfl (lv_at hl 4 rfl) ?_
    refine lv_iload_n hx hb dX2_flow_85 rfl (lv_at hl 2 rfl) ?_
    refine lv_iconst (v := 3) hx hb dX2_flow_86 (by decide) ?_
    refine S_callVi C0 hK h (c_X2_la l z M3 (mf M k) (by omega) 3 (by omega)) (cwV 2 hts gX2_flow_X2_la rfl rfl rfl (by decide +kernel) ⟨Nat.le_of_ble_eq_true rfl, Nat.le_of_ble_eq_true rfl⟩) (k := 55) (ci := 2) (by omega) (fun ct hA => hA.1) rfl rfl rfl hl.1 (rest := [.int 3, .int (mB M (9 * k + 0)), .ref (za z 55)]) (by rw [hF0]; rfl) (Nat.le_of_ble_eq_true rfl) ⟨Nat.le_of_ble_eq_true rfl, Nat.le_of_ble_eq_true rfl⟩ dX2_flow_87 (fun r u H locs hp h => ?_)
    obtain ⟨rfl, hu9⟩ := hp
    rw [hu9] at h
    refine lv_iload_n hx hb dX2_flow_90 rfl (lv_at hl 3 rfl) ?_
    refine lv_isub hx hb dX2_flow_91 ?_
    refine S_callVv C0 hK h (c_X2_setTank l z M3 (mf M k) (by omega) 3 (by omega) ((mA M3 (8 * (mf M k) + 3)) - (mflows M k))) (cwV 3 hts gX2_flow_X2_setTank rfl rfl rfl (by decide +kernel) ⟨Nat.le_of_ble_eq_true rfl, Nat.le_of_ble_eq_true rfl⟩) (k := 55) (ci := 2) (by omega) (fun ct hA => hA.1) rfl rfl rfl hl.1 (rest := []) (by rw [hF0]; rfl) (Nat.le_of_ble_eq_true rfl) ⟨Nat.le_of_ble_eq_true rfl, Nat.le_of_ble_eq_true rfl⟩ dX2_flow_92 (fun u H locs hp h => ?_)
    obtain ⟨M4, eM4⟩ : ∃ z9, z9 = mSetT M3 (mf M k) 3 ((mA M3 (8 * (mf M k) + 3)) - (mflows M k)) := ⟨_, rfl⟩
    rw [hp, ← eM4] at h
    refine lv_aload_n hx hb dX2_flow_95 rfl (lv_at hl 4 rfl) ?_
    refine lv_iload_n hx hb dX2_flow_96 rfl (lv_at hl 2 rfl) ?_
    refine lv_iconst (v := 4) hx hb dX2_flow_97 (by decide) ?_
    refine lv_aload_n hx hb dX2_flow_98 rfl (lv_at hl 4 rfl) ?_
    refine lv_iload_n hx hb dX2_flow_99 rfl (lv_at hl 2 rfl) ?_
    refine lv_iconst (v := 4) hx hb dX2_flow_100 (by decide) ?_
    refine S_callVi C0 hK h (c_X2_la l z M4 (mf M k) (by omega) 4 (by omega)) (cwV 2 hts gX2_flow_X2_la rfl rfl rfl (by decide +kernel) ⟨Nat.le_of_ble_eq_true rfl, Nat.le_of_ble_eq_true rfl⟩) (k := 55) (ci := 2) (by omega) (fun ct hA => hA.1) rfl rfl rfl hl.1 (rest := [.int 4, .int (mB M (9 * k + 0)), .ref (za z 55)]) (by rw [hF0]; rfl) (Nat.le_of_ble_eq_true rfl) ⟨Nat.le_of_ble_eq_true rfl, Nat.le_of_ble_eq_true rfl⟩ dX2_flow_101 (fun r u H locs hp h => ?_)
    obtain ⟨rfl, hu9⟩ := hp
    rw [hu9] at h
    refine lv_iload hx hb dX2_flow_104 (lv_at hl 0 rfl) ?_
    refine lv_isub hx hb dX2_flow_106 ?_
    refine S_callVv C0 hK h (c_X2_setTank l z M4 (mf M k) (by omega) 4 (by omega) ((mA M4 (8 * (mf M k) + 4)) - (((mA M3 (8 * (mf M k) + 4)) * (mflows M k)) / (mA M3 (8 * (mf M k) + 3))))) (cwV 3 hts gX2_flow_X2_setTank rfl rfl rfl (by decide +kernel) ⟨Nat.le_of_ble_eq_true rfl, Nat.le_of_ble_eq_true rfl⟩) (k := 55) (ci := 2) (by omega) (fun ct hA => hA.1) rfl rfl rfl hl.1 (rest := []) (by rw [hF0]; rfl) (Nat.le_of_ble_eq_true rfl) ⟨Nat.le_of_ble_eq_true rfl, Nat.le_of_ble_eq_true rfl⟩ dX2_flow_107 (fun u H locs hp h => ?_)
    obtain ⟨M5, eM5⟩ : ∃ z9, z9 = mSetT M4 (mf M k) 4 ((mA M4 (8 * (mf M k) + 4)) - (((mA M3 (8 * (mf M k) + 4)) * (mflows M k)) / (mA M3 (8 * (mf M k) + 3)))) := ⟨_, rfl⟩
    rw [hp, ← eM5] at h
    refine lv_aload_n hx hb dX2_flow_110 rfl (lv_at hl 4 rfl) ?_
    have hF9 : mB M5 (9 * k + 1) = nI (mo M k) := by
      have hG9 : mB M5 (9 * k + 1) = mB M (9 * k + 1) := by subst eM5 eM4 eM3 eM2 eM1; simp only [mSetP, mSetT, mB_uB, mB_uA]; rw [pk_un (by omega), pk_un (by omega), pk_un (by omega)]
      rw [hG9]; exact hF1
    refine lv_aload_n hx hb dX2_flow_111 rfl (lv_at hl 4 rfl) ?_
    refine lv_iload_n hx hb dX2_flow_112 rfl (lv_at hl 5 rfl) ?_
    refine lv_iconst (v := 1) hx hb dX2_flow_113 (by decide) ?_
    refine S_callVi C0 hK h (c_X2_li l z M5 k (by omega) 1 (by omega)) (cwV 2 hts gX2_flow_X2_li rfl rfl rfl (by decide +kernel) ⟨Nat.le_of_ble_eq_true rfl, Nat.le_of_ble_eq_true rfl⟩) (k := 55) (ci := 2) (by omega) (fun ct hA => hA.1) rfl rfl rfl hl.1 (rest := [.ref (za z 55)]) rfl (Nat.le_of_ble_eq_true rfl) ⟨Nat.le_of_ble_eq_true rfl, Nat.le_of_ble_eq_true rfl⟩ dX2_flow_114 (fun r u H locs hp h => ?_)
    obtain ⟨rfl, hu9⟩ := hp
    rw [hu9] at h
    refine lv_iload_n hx hb dX2_flow_117 rfl (lv_at hl 3 rfl) ?_
    refine lv_iload hx hb dX2_flow_118 (lv_at hl 1 rfl) ?_
    refine lv_isub hx hb dX2_flow_120 ?_
    refine lv_iload hx hb dX2_flow_121 (lv_at hl 0 rfl) ?_
    refine S_callVv C0 hK h (c_X2_pour l z M5 (mo M k) (by omega) ((mflows M k) - (qmin (mflows M k) (mB M (9 * k + 8)))) (((mA M3 (8 * (mf M k) + 4)) * (mflows M k)) / (mA M3 (8 * (mf M k) + 3)))) (cwV 3 hts gX2_flow_X2_pour rfl rfl rfl (by decide +kernel) ⟨Nat.le_of_ble_eq_true rfl, Nat.le_of_ble_eq_true rfl⟩) (k := 55) (ci := 2) (by omega) (fun ct hA => hA.1) rfl rfl rfl hl.1 (rest := []) (by rw [hF9]; rfl) (Nat.le_of_ble_eq_true rfl) ⟨Nat.le_of_ble_eq_true rfl, Nat.le_of_ble_eq_true rfl⟩ dX2_flow_123 (fun u H locs hp h => ?_)
    obtain ⟨M6, eM6⟩ : ∃ z9, z9 = mPour M5 (mo M k) ((mflows M k) - (qmin (mflows M k) (mB M (9 * k + 8)))) (((mA M3 (8 * (mf M k) + 4)) * (mflows M k)) / (mA M3 (8 * (mf M k) + 3))) := ⟨_, rfl⟩
    rw [hp, ← eM6] at h
    exact G_vret C0 hK h (by subst eM6 eM5 eM4 eM3 eM2 eM1; unfold mflow; simp only []; rw [if_neg c_60]) (Nat.le_of_ble_eq_true rfl) (Nat.le_of_ble_eq_true rfl) dX2_flow_126
  · exact G_vret C0 hK h (by subst eM3 eM2 eM1; unfold mflow; simp only []; rw [if_pos c_60]) (Nat.le_of_ble_eq_true rfl) (Nat.le_of_ble_eq_true rfl) dX2_flow_63
set_option maxHeartbeats 4000000 in
set_option maxRecDepth 100000 in
theorem c_X2_dayOn (l : Launch) (z : QZ) (M : QMs) (hk : MOk M) : GV l yX2_dayOn wsX2_dayOn ({ frames := 4, cells := 0, slots := 0, locals := 90 } : Room) z [.ref (za z 55)] 0 0 (MAt z) 55 59 M (fun M' => M' = mday M) := by
  intro ct sz hn hq hat
  refine q_entry (lo := 55) (cc := cX2_dayOn) (maxL := 4) (ret := none) (by decide) rfl (Nat.le_of_ble_eq_true rfl) hn hq hat ?_
  intro p e s m below meth c ls C0 hK hsz h hl
  subst hsz
  obtain ⟨hx, hb, hr, hml, hown, hts, hlocks⟩ := id C0
  have hin2 : ∀ w ∈ u_ws RX2 TX2 6, w ∈ wsX2_dayOn := by decide +kernel
  have hl : lv_has ls 4 [(0, .ref (za z 55))] := hl
  have hk1 := hk.1
  have hk2 := hk.2.1
  have L113 : ∀ (Mb : QMs) (hkb : MOk Mb) (hq9 : uY (itN mdrinkF (mt_ Mb) Mb) (upd (mY (itN mdrinkF (mt_ Mb) Mb)) 0 (mY (itN mdrinkF (mt_ Mb) Mb) 0 + 1)) = mday M) (d i : Nat), i + d = mt_ Mb → ∀ (H : Heap) (locs : List Loc) (ls : Array Slot), GW z (MAt z) 55 59 s.heap ct (itN mdrinkF i Mb) H locs → lv_has ls 4 [(1, .int (nI i)), (0, .ref (za z 55))] → W p l e ({ frames := 4, cells := 0, slots := 0, locals := 90 } : Room) s m [.ref (za z 55)].toArray below meth c H locs 0 0 (EV z (MAt z) 55 59 ct s below [.ref (za z 55)] 0 0 (fun M' => M' = mday M)) (F0 m 113 ls []) := by
    intro Mb hkb hq9 d
    induction d with
    | zero =>
      intro i hdi H locs ls h hl
      have hEi : i = mt_ Mb := by omega
      have hkc := hkb.1
      obtain ⟨S1, eS1⟩ : ∃ z9, z9 = itN mdrinkF i Mb := ⟨_, rfl⟩
      rw [← eS1] at h
      have hs9 : MShp Mb S1 := by rw [eS1]; exact mshp_it (f := mdrinkF) (fun _ _ => mshp_drink) Mb i
      have hs1 := hs9.1
      have hs2 := hs9.2.1
      have hk9 := hs9.ok hkb
      refine lv_iload_n hx hb dX2_dayOn_113 rfl (lv_at hl 0 rfl) ?_
      refine lv_aload_n hx hb dX2_dayOn_114 rfl (lv_at hl 1 rfl) ?_
      refine M_g C0 hK h hin2 1 (by decide) (by decide +kernel) rfl dX2_dayOn_115 ?_
      refine lv_icmp_ge (tgt := 204) hx hb dX2_dayOn_118 (by decide) (fun _ => ?_) (fun q9 => absurd (nI_le (by omega) (by omega)) q9)
      refine lv_aload_n hx hb dX2_dayOn_204 rfl (lv_at hl 1 rfl) ?_
      refine M_g C0 hK h hin2 5 (by decide) (by decide +kernel) rfl dX2_dayOn_205 ?_
      refine lv_iconst (v := 0) hx hb dX2_dayOn_208 (by decide) ?_
      refine lv_dup2_11 hx hb dX2_dayOn_209 rfl rfl ?_
      refine M_ldY C0 hK h (k := 0) rfl (by omega) dX2_dayOn_210 ?_
      refine lv_iconst (v := 1) hx hb dX2_dayOn_211 (by decide) ?_
      refine lv_iadd hx hb dX2_dayOn_212 ?_
      refine N_stY C0 hK h (k := 0) rfl (by omega) dX2_dayOn_213 (fun H locs M2 eM2 h => ?_)
      exact G_vret C0 hK h (by subst eM2; rw [← hq9, eS1, hEi]) (Nat.le_of_ble_eq_true rfl) (Nat.le_of_ble_eq_true rfl) dX2_dayOn_214
    | succ d ihL113 =>
      intro i hdi H locs ls h hl
      have hEi : i < mt_ Mb := by omega
      have hkc := hkb.1
      obtain ⟨S3, eS3⟩ : ∃ z9, z9 = itN mdrinkF i Mb := ⟨_, rfl⟩
      rw [← eS3] at h
      have hs9 : MShp Mb S3 := by rw [eS3]; exact mshp_it (f := mdrinkF) (fun _ _ => mshp_drink) Mb i
      have hs1 := hs9.1
      have hs2 := hs9.2.1
      have hk9 := hs9.ok hkb
      refine lv_iload_n hx hb dX2_dayOn_113 rfl (lv_at hl 0 rfl) ?_
      refine lv_aload_n hx hb dX2_dayOn_114 rfl (lv_at hl 1 rfl) ?_
      refine M_g C0 hK h hin2 1 (by decide) (by decide +kernel) rfl dX2_dayOn_115 ?_
      refine lv_icmp_ge (tgt := 204) hx hb dX2_dayOn_118 (by decide) (fun q9 => absurd q9 (nI_ge (by omega) (by omega))) (fun _ => ?_)
      refine lv_aload_n hx hb dX2_dayOn_121 rfl (lv_at hl 1 rfl) ?_
      refine lv_iload_n hx hb dX2_dayOn_122 rfl (lv_at hl 0 rfl) ?_
      refine lv_iconst (v := 4) hx hb dX2_dayOn_123 (by decide) ?_
      refine S_callVi C0 hK h (c_X2_la l z S3 i (by omega) 4 (by omega)) (cwV 2 hts gX2_dayOn_X2_la rfl rfl rfl (by decide +kernel) ⟨Nat.le_of_ble_eq_true rfl, Nat.le_of_ble_eq_true rfl⟩) (k := 55) (ci := 2) (by omega) (fun ct hA => hA.1) rfl rfl rfl hl.1 (rest := []) rfl (Nat.le_of_ble_eq_true rfl) ⟨Nat.le_of_ble_eq_true rfl, Nat.le_of_ble_eq_true rfl⟩ dX2_dayOn_124 (fun r u H locs hp h => ?_)
      obtain ⟨rfl, hu9⟩ := hp
      rw [hu9] at h
      refine lv_bipush (v := 50) hx hb dX2_dayOn_127 (by decide) ?_
      refine lv_icmp_lt (tgt := 143) hx hb dX2_dayOn_129 (by decide) (fun c_129 => ?_) (fun c_129 => ?_)
      · refine lv_aload_n hx hb dX2_dayOn_143 rfl (lv_at hl 1 rfl) ?_
        refine lv_iload_n hx hb dX2_dayOn_144 rfl (lv_at hl 0 rfl) ?_
        refine lv_iconst (v := 2) hx hb dX2_dayOn_145 (by decide) ?_
        refine S_callVi C0 hK h (c_X2_la l z S3 i (by omega) 2 (by omega)) (cwV 2 hts gX2_dayOn_X2_la rfl rfl rfl (by decide +kernel) ⟨Nat.le_of_ble_eq_true rfl, Nat.le_of_ble_eq_true rfl⟩) (k := 55) (ci := 2) (by omega) (fun ct hA => hA.1) rfl rfl rfl hl.1 (rest := []) rfl (Nat.le_of_ble_eq_true rfl) ⟨Nat.le_of_ble_eq_true rfl, Nat.le_of_ble_eq_true rfl⟩ dX2_dayOn_146 (fun r u H locs hp h => ?_)
        obtain ⟨rfl, hu9⟩ := hp
        rw [hu9] at h
        refine lv_istore_n (lv' := [(2, .int (mA S3 (8 * i + 2))), (1, .int (nI i)), (0, .ref (za z 55))]) hx hb dX2_dayOn_149 rfl hl (by decide) rfl (fun ls hl => ?_)
        refine lv_iload_n hx hb dX2_dayOn_150 rfl (lv_at hl 0 rfl) ?_
        refine lv_aload_n hx hb dX2_dayOn_151 rfl (lv_at hl 2 rfl) ?_
        refine lv_iload_n hx hb dX2_dayOn_152 rfl (lv_at hl 1 rfl) ?_
        refine lv_iconst (v := 3) hx hb dX2_dayOn_153 (by decide) ?_
        refine S_callVi C0 hK h (c_X2_la l z S3 i (by omega) 3 (by omega)) (cwV 2 hts gX2_dayOn_X2_la rfl rfl rfl (by decide +kernel) ⟨Nat.le_of_ble_eq_true rfl, Nat.le_of_ble_eq_true rfl⟩) (k := 55) (ci := 2) (by omega) (fun ct hA => hA.1) rfl rfl rfl hl.1 (rest := [.int (mA S3 (8 * i + 2))]) rfl (Nat.le_of_ble_eq_true rfl) ⟨Nat.le_of_ble_eq_true rfl, Nat.le_of_ble_eq_true rfl⟩ dX2_dayOn_154 (fun r u H locs hp h => ?_)
        obtain ⟨rfl, hu9⟩ := hp
        rw [hu9] at h
        refine G_mmin C0 hl.1 (by decide +kernel) (by decide +kernel) (by decide +kernel) (by decide +kernel) ⟨Nat.le_of_ble_eq_true rfl, Nat.le_of_ble_eq_true rfl, Nat.le_of_ble_eq_true rfl, Nat.le_of_ble_eq_true rfl⟩ dX2_dayOn_157 ?_
        refine lv_istore_n (lv' := [(3, .int (qmin (mA S3 (8 * i + 2)) (mA S3 (8 * i + 3)))), (2, .int (mA S3 (8 * i + 2))), (1, .int (nI i)), (0, .ref (za z 55))]) hx hb dX2_dayOn_160 rfl hl (by decide) rfl (fun ls hl => ?_)
        refine lv_aload_n hx hb dX2_dayOn_161 rfl (lv_at hl 3 rfl) ?_
        refine lv_iload_n hx hb dX2_dayOn_162 rfl (lv_at hl 2 rfl) ?_
        refine lv_iconst (v := 3) hx hb dX2_dayOn_163 (by decide) ?_
        refine lv_aload_n hx hb dX2_dayOn_164 rfl (lv_at hl 3 rfl) ?_
        refine lv_iload_n hx hb dX2_dayOn_165 rfl (lv_at hl 2 rfl) ?_
        refine lv_iconst (v := 3) hx hb dX2_dayOn_166 (by decide) ?_
        refine S_callVi C0 hK h (c_X2_la l z S3 i (by omega) 3 (by omega)) (cwV 2 hts gX2_dayOn_X2_la rfl rfl rfl (by decide +kernel) ⟨Nat.le_of_ble_eq_true rfl, Nat.le_of_ble_eq_true rfl⟩) (k := 55) (ci := 2) (by omega) (fun ct hA => hA.1) rfl rfl rfl hl.1 (rest := [.int 3, .int (nI i), .ref (za z 55)]) rfl (Nat.le_of_ble_eq_true rfl) ⟨Nat.le_of_ble_eq_true rfl, Nat.le_of_ble_eq_true rfl⟩ dX2_dayOn_167 (fun r u H locs hp h => ?_)
        obtain ⟨rfl, hu9⟩ := hp
        rw [hu9] at h
        refine lv_iload_n hx hb dX2_dayOn_170 rfl (lv_at hl 0 rfl) ?_
        refine lv_isub hx hb dX2_dayOn_171 ?_
        refine S_callVv C0 hK h (c_X2_setTank l z S3 i (by omega) 3 (by omega) ((mA S3 (8 * i + 3)) - (qmin (mA S3 (8 * i + 2)) (mA S3 (8 * i + 3))))) (cwV 3 hts gX2_dayOn_X2_setTank rfl rfl rfl (by decide +kernel) ⟨Nat.le_of_ble_eq_true rfl, Nat.le_of_ble_eq_true rfl⟩) (k := 55) (ci := 2) (by omega) (fun ct hA => hA.1) rfl rfl rfl hl.1 (rest := []) rfl (Nat.le_of_ble_eq_true rfl) ⟨Nat.le_of_ble_eq_true rfl, Nat.le_of_ble_eq_true rfl⟩ dX2_dayOn_172 (fun u H locs hp h => ?_)
        obtain ⟨M4, eM4⟩ : ∃ z9, z9 = mSetT S3 i 3 ((mA S3 (8 * i + 3)) - (qmin (mA S3 (8 * i + 2)) (mA S3 (8 * i + 3)))) := ⟨_, rfl⟩
        rw [hp, ← eM4] at h
        refine lv_aload_n hx hb dX2_dayOn_175 rfl (lv_at hl 3 rfl) ?_
        refine lv_iload_n hx hb dX2_dayOn_176 rfl (lv_at hl 2 rfl) ?_
        refine lv_iconst (v := 5) hx hb dX2_dayOn_177 (by decide) ?_
        refine lv_iload_n hx hb dX2_dayOn_178 rfl (lv_at hl 0 rfl) ?_
        refine S_callVv C0 hK h (c_X2_setTank l z M4 i (by omega) 5 (by omega) (qmin (mA S3 (8 * i + 2)) (mA S3 (8 * i + 3)))) (cwV 3 hts gX2_dayOn_X2_setTank rfl rfl rfl (by decide +kernel) ⟨Nat.le_of_ble_eq_true rfl, Nat.le_of_ble_eq_true rfl⟩) (k := 55) (ci := 2) (by omega) (fun ct hA => hA.1) rfl rfl rfl hl.1 (rest := []) rfl (Nat.le_of_ble_eq_true rfl) ⟨Nat.le_of_ble_eq_true rfl, Nat.le_of_ble_eq_true rfl⟩ dX2_dayOn_179 (fun u H locs hp h => ?_)
        obtain ⟨M5, eM5⟩ : ∃ z9, z9 = mSetT M4 i 5 (qmin (mA S3 (8 * i + 2)) (mA S3 (8 * i + 3))) := ⟨_, rfl⟩
        rw [hp, ← eM5] at h
        refine lv_aload_n hx hb dX2_dayOn_182 rfl (lv_at hl 3 rfl) ?_
        refine lv_iload_n hx hb dX2_dayOn_183 rfl (lv_at hl 2 rfl) ?_
        refine lv_bipush (v := 6) hx hb dX2_dayOn_184 (by decide) ?_
        refine lv_aload_n hx hb dX2_dayOn_186 rfl (lv_at hl 3 rfl) ?_
        refine lv_iload_n hx hb dX2_dayOn_187 rfl (lv_at hl 2 rfl) ?_
        refine lv_bipush (v := 6) hx hb dX2_dayOn_188 (by decide) ?_
        refine S_callVi C0 hK h (c_X2_la l z M5 i (by omega) 6 (by omega)) (cwV 2 hts gX2_dayOn_X2_la rfl rfl rfl (by decide +kernel) ⟨Nat.le_of_ble_eq_true rfl, Nat.le_of_ble_eq_true rfl⟩) (k := 55) (ci := 2) (by omega) (fun ct hA => hA.1) rfl rfl rfl hl.1 (rest := [.int 6, .int (nI i), .ref (za z 55)]) rfl (Nat.le_of_ble_eq_true rfl) ⟨Nat.le_of_ble_eq_true rfl, Nat.le_of_ble_eq_true rfl⟩ dX2_dayOn_190 (fun r u H locs hp h => ?_)
        obtain ⟨rfl, hu9⟩ := hp
        rw [hu9] at h
        refine lv_iload_n hx hb dX2_dayOn_193 rfl (lv_at hl 0 rfl) ?_
        refine lv_iadd hx hb dX2_dayOn_194 ?_
        refine S_callVv C0 hK h (c_X2_setTank l z M5 i (by omega) 6 (by omega) ((mA M5 (8 * i + 6)) + (qmin (mA S3 (8 * i + 2)) (mA S3 (8 * i + 3))))) (cwV 3 hts gX2_dayOn_X2_setTank rfl rfl rfl (by decide +kernel) ⟨Nat.le_of_ble_eq_true rfl, Nat.le_of_ble_eq_true rfl⟩) (k := 55) (ci := 2) (by omega) (fun ct hA => hA.1) rfl rfl rfl hl.1 (rest := []) rfl (Nat.le_of_ble_eq_true rfl) ⟨Nat.le_of_ble_eq_true rfl, Nat.le_of_ble_eq_true rfl⟩ dX2_dayOn_195 (fun u H locs hp h => ?_)
        obtain ⟨M6, eM6⟩ : ∃ z9, z9 = mSetT M5 i 6 ((mA M5 (8 * i + 6)) + (qmin (mA S3 (8 * i + 2)) (mA S3 (8 * i + 3)))) := ⟨_, rfl⟩
        rw [hp, ← eM6] at h
        refine lv_iinc (v := nI (i + 1)) (lv' := [(1, .int (nI (i + 1))), (3, .int (qmin (mA S3 (8 * i + 2)) (mA S3 (8 * i + 3)))), (2, .int (mA S3 (8 * i + 2))), (0, .ref (za z 55))]) hx hb dX2_dayOn_198 hl (k := 2) rfl (q_inc i 1) (by decide) rfl (fun ls hl => ?_)
        refine lv_goto (tgt := 113) hx hb dX2_dayOn_201 (by decide) ?_
        exact ihL113 (i + 1) (by omega) _ _ _ (by subst eM6 eM5 eM4; subst eS3; have e9 : itN mdrinkF (i + 1) Mb = mdrink (itN mdrinkF i Mb) i := rfl; rw [e9]; unfold mdrink; simp only []; rw [if_pos c_129]; exact h) (lv_sub hl [0, 3] rfl)
      · refine lv_aload_n hx hb dX2_dayOn_132 rfl (lv_at hl 1 rfl) ?_
        refine lv_iload_n hx hb dX2_dayOn_133 rfl (lv_at hl 0 rfl) ?_
        refine lv_iconst (v := 2) hx hb dX2_dayOn_134 (by decide) ?_
        refine S_callVi C0 hK h (c_X2_la l z S3 i (by omega) 2 (by omega)) (cwV 2 hts gX2_dayOn_X2_la rfl rfl rfl (by decide +kernel) ⟨Nat.le_of_ble_eq_true rfl, Nat.le_of_ble_eq_true rfl⟩) (k := 55) (ci := 2) (by omega) (fun ct hA => hA.1) rfl rfl rfl hl.1 (rest := []) rfl (Nat.le_of_ble_eq_true rfl) ⟨Nat.le_of_ble_eq_true rfl, Nat.le_of_ble_eq_true rfl⟩ dX2_dayOn_135 (fun r u H locs hp h => ?_)
        obtain ⟨rfl, hu9⟩ := hp
        rw [hu9] at h
        refine lv_iconst (v := 2) hx hb dX2_dayOn_138 (by decide) ?_
        refine lv_idiv hx hb dX2_dayOn_139 (by decide) ?_
        refine lv_goto (tgt := 149) hx hb dX2_dayOn_140 (by decide) ?_
        refine lv_istore_n (lv' := [(2, .int ((mA S3 (8 * i + 2)) / 2)), (1, .int (nI i)), (0, .ref (za z 55))]) hx hb dX2_dayOn_149 rfl hl (by decide) rfl (fun ls hl => ?_)
        refine lv_iload_n hx hb dX2_dayOn_150 rfl (lv_at hl 0 rfl) ?_
        refine lv_aload_n hx hb dX2_dayOn_151 rfl (lv_at hl 2 rfl) ?_
        refine lv_iload_n hx hb dX2_dayOn_152 rfl (lv_at hl 1 rfl) ?_
        refine lv_iconst (v := 3) hx hb dX2_dayOn_153 (by decide) ?_
        refine S_callVi C0 hK h (c_X2_la l z S3 i (by omega) 3 (by omega)) (cwV 2 hts gX2_dayOn_X2_la rfl rfl rfl (by decide +kernel) ⟨Nat.le_of_ble_eq_true rfl, Nat.le_of_ble_eq_true rfl⟩) (k := 55) (ci := 2) (by omega) (fun ct hA => hA.1) rfl rfl rfl hl.1 (rest := [.int ((mA S3 (8 * i + 2)) / 2)]) rfl (Nat.le_of_ble_eq_true rfl) ⟨Nat.le_of_ble_eq_true rfl, Nat.le_of_ble_eq_true rfl⟩ dX2_dayOn_154 (fun r u H locs hp h => ?_)
        obtain ⟨rfl, hu9⟩ := hp
        rw [hu9] at h
        refine G_mmin C0 hl.1 (by decide +kernel) (by decide +kernel) (by decide +kernel) (by decide +kernel) ⟨Nat.le_of_ble_eq_true rfl, Nat.le_of_ble_eq_true rfl, Nat.le_of_ble_eq_true rfl, Nat.le_of_ble_eq_true rfl⟩ dX2_dayOn_157 ?_
        refine lv_istore_n (lv' := [(3, .int (qmin ((mA S3 (8 * i + 2)) / 2) (mA S3 (8 * i + 3)))), (2, .int ((mA S3 (8 * i + 2)) / 2)), (1, .int (nI i)), (0, .ref (za z 55))]) hx hb dX2_dayOn_160 rfl hl (by decide) rfl (fun ls hl => ?_)
        refine lv_aload_n hx hb dX2_dayOn_161 rfl (lv_at hl 3 rfl) ?_
        refine lv_iload_n hx hb dX2_dayOn_162 rfl (lv_at hl 2 rfl) ?_
        refine lv_iconst (v := 3) hx hb dX2_dayOn_163 (by decide) ?_
        refine lv_aload_n hx hb dX2_dayOn_164 rfl (lv_at hl 3 rfl) ?_
        refine lv_iload_n hx hb dX2_dayOn_165 rfl (lv_at hl 2 rfl) ?_
        refine lv_iconst (v := 3) hx hb dX2_dayOn_166 (by decide) ?_
        refine S_callVi C0 hK h (c_X2_la l z S3 i (by omega) 3 (by omega)) (cwV 2 hts gX2_dayOn_X2_la rfl rfl rfl (by decide +kernel) ⟨Nat.le_of_ble_eq_true rfl, Nat.le_of_ble_eq_true rfl⟩) (k := 55) (ci := 2) (by omega) (fun ct hA => hA.1) rfl rfl rfl hl.1 (rest := [.int 3, .int (nI i), .ref (za z 55)]) rfl (Nat.le_of_ble_eq_true rfl) ⟨Nat.le_of_ble_eq_true rfl, Nat.le_of_ble_eq_true rfl⟩ dX2_dayOn_167 (fun r u H locs hp h => ?_)
        obtain ⟨rfl, hu9⟩ := hp
        rw [hu9] at h
        refine lv_iload_n hx hb dX2_dayOn_170 rfl (lv_at hl 0 rfl) ?_
        refine lv_isub hx hb dX2_dayOn_171 ?_
        refine S_callVv C0 hK h (c_X2_setTank l z S3 i (by omega) 3 (by omega) ((mA S3 (8 * i + 3)) - (qmin ((mA S3 (8 * i + 2)) / 2) (mA S3 (8 * i + 3))))) (cwV 3 hts gX2_dayOn_X2_setTank rfl rfl rfl (by decide +kernel) ⟨Nat.le_of_ble_eq_true rfl, Nat.le_of_ble_eq_true rfl⟩) (k := 55) (ci := 2) (by omega) (fun ct hA => hA.1) rfl rfl rfl hl.1 (rest := []) rfl (Nat.le_of_ble_eq_true rfl) ⟨Nat.le_of_ble_eq_true rfl, Nat.le_of_ble_eq_true rfl⟩ dX2_dayOn_172 (fun u H locs hp h => ?_)
        obtain ⟨M7, eM7⟩ : ∃ z9, z9 = mSetT S3 i 3 ((mA S3 (8 * i + 3)) - (qmin ((mA S3 (8 * i + 2)) / 2) (mA S3 (8 * i + 3)))) := ⟨_, rfl⟩
        rw [hp, ← eM7] at h
        refine lv_aload_n hx hb dX2_dayOn_175 rfl (lv_at hl 3 rfl) ?_
        refine lv_iload_n hx hb dX2_dayOn_176 rfl (lv_at hl 2 rfl) ?_
        refine lv_iconst (v := 5) hx hb dX2_dayOn_177 (by decide) ?_
        refine lv_iload_n hx hb dX2_dayOn_178 rfl (lv_at hl 0 rfl) ?_
        refine S_callVv C0 hK h (c_X2_setTank l z M7 i (by omega) 5 (by omega) (qmin ((mA S3 (8 * i + 2)) / 2) (mA S3 (8 * i + 3)))) (cwV 3 hts gX2_dayOn_X2_setTank rfl rfl rfl (by decide +kernel) ⟨Nat.le_of_ble_eq_true rfl, Nat.le_of_ble_eq_true rfl⟩) (k := 55) (ci := 2) (by omega) (fun ct hA => hA.1) rfl rfl rfl hl.1 (rest := []) rfl (Nat.le_of_ble_eq_true rfl) ⟨Nat.le_of_ble_eq_true rfl, Nat.le_of_ble_eq_true rfl⟩ dX2_dayOn_179 (fun u H locs hp h => ?_)
        obtain ⟨M8, eM8⟩ : ∃ z9, z9 = mSetT M7 i 5 (qmin ((mA S3 (8 * i + 2)) / 2) (mA S3 (8 * i + 3))) := ⟨_, rfl⟩
        rw [hp, ← eM8] at h
        refine lv_aload_n hx hb dX2_dayOn_182 rfl (lv_at hl 3 rfl) ?_
        refine lv_iload_n hx hb dX2_dayOn_183 rfl (lv_at hl 2 rfl) ?_
        refine lv_bipush (v := 6) hx hb dX2_dayOn_184 (by decide) ?_
        refine lv_aload_n hx hb dX2_dayOn_186 rfl (lv_at hl 3 rfl) ?_
        refine lv_iload_n hx hb dX2_dayOn_187 rfl (lv_at hl 2 rfl) ?_
        refine lv_bipush (v := 6) hx hb dX2_dayOn_188 (by decide) ?_
        refine S_callVi C0 hK h (c_X2_la l z M8 i (by omega) 6 (by omega)) (cwV 2 hts gX2_dayOn_X2_la rfl rfl rfl (by decide +kernel) ⟨Nat.le_of_ble_eq_true rfl, Nat.le_of_ble_eq_true rfl⟩) (k := 55) (ci := 2) (by omega) (fun ct hA => hA.1) rfl rfl rfl hl.1 (rest := [.int 6, .int (nI i), .ref (za z 55)]) rfl (Nat.le_of_ble_eq_true rfl) ⟨Nat.le_of_ble_eq_true rfl, Nat.le_of_ble_eq_true rfl⟩ dX2_dayOn_190 (fun r u H locs hp h => ?_)
        obtain ⟨rfl, hu9⟩ := hp
        rw [hu9] at h
        refine lv_iload_n hx hb dX2_dayOn_193 rfl (lv_at hl 0 rfl) ?_
        refine lv_iadd hx hb dX2_dayOn_194 ?_
        refine S_callVv C0 hK h (c_X2_setTank l z M8 i (by omega) 6 (by omega) ((mA M8 (8 * i + 6)) + (qmin ((mA S3 (8 * i + 2)) / 2) (mA S3 (8 * i + 3))))) (cwV 3 hts gX2_dayOn_X2_setTank rfl rfl rfl (by decide +kernel) ⟨Nat.le_of_ble_eq_true rfl, Nat.le_of_ble_eq_true rfl⟩) (k := 55) (ci := 2) (by omega) (fun ct hA => hA.1) rfl rfl rfl hl.1 (rest := []) rfl (Nat.le_of_ble_eq_true rfl) ⟨Nat.le_of_ble_eq_true rfl, Nat.le_of_ble_eq_true rfl⟩ dX2_dayOn_195 (fun u H locs hp h => ?_)
        obtain ⟨M9, eM9⟩ : ∃ z9, z9 = mSetT M8 i 6 ((mA M8 (8 * i + 6)) + (qmin ((mA S3 (8 * i + 2)) / 2) (mA S3 (8 * i + 3)))) := ⟨_, rfl⟩
        rw [hp, ← eM9] at h
        refine lv_iinc (v := nI (i + 1)) (lv' := [(1, .int (nI (i + 1))), (3, .int (qmin ((mA S3 (8 * i + 2)) / 2) (mA S3 (8 * i + 3)))), (2, .int ((mA S3 (8 * i + 2)) / 2)), (0, .ref (za z 55))]) hx hb dX2_dayOn_198 hl (k := 2) rfl (q_inc i 1) (by decide) rfl (fun ls hl => ?_)
        refine lv_goto (tgt := 113) hx hb dX2_dayOn_201 (by decide) ?_
        exact ihL113 (i + 1) (by omega) _ _ _ (by subst eM9 eM8 eM7; subst eS3; have e9 : itN mdrinkF (i + 1) Mb = mdrink (itN mdrinkF i Mb) i := rfl; rw [e9]; unfold mdrink; simp only []; rw [if_neg c_129]; exact h) (lv_sub hl [0, 3] rfl)
  have L58 : ∀ (Mb : QMs) (hkb : MOk Mb) (hc9 : mY Mb 0 - mY Mb 0 / 4 * 4 = 0) (hq9 : Mb = itN mflowF (mp_ (itN mfeedF (mt_ M) M)) (itN mfeedF (mt_ M) M)) (d i : Nat), i + d = mp_ Mb → ∀ (H : Heap) (locs : List Loc) (ls : Array Slot), GW z (MAt z) 55 59 s.heap ct (itN mcrustF i Mb) H locs → lv_has ls 4 [(1, .int (nI i)), (0, .ref (za z 55))] → W p l e ({ frames := 4, cells := 0, slots := 0, locals := 90 } : Room) s m [.ref (za z 55)].toArray below meth c H locs 0 0 (EV z (MAt z) 55 59 ct s below [.ref (za z 55)] 0 0 (fun M' => M' = mday M)) (F0 m 58 ls []) := by
    intro Mb hkb hc9 hq9 d
    induction d with
    | zero =>
      intro i hdi H locs ls h hl
      have hEi : i = mp_ Mb := by omega
      have hkc := hkb.2.1
      obtain ⟨S10, eS10⟩ : ∃ z9, z9 = itN mcrustF i Mb := ⟨_, rfl⟩
      rw [← eS10] at h
      have hs9 : MShp Mb S10 := by rw [eS10]; exact mshp_it (f := mcrustF) (fun _ _ => mshp_crust) Mb i
      have hs1 := hs9.1
      have hs2 := hs9.2.1
      have hk9 := hs9.ok hkb
      have hY9 : mY S10 = mY Mb := by rw [eS10]; exact mcrust_Y Mb i
      refine lv_iload_n hx hb dX2_dayOn_58 rfl (lv_at hl 0 rfl) ?_
      refine lv_aload_n hx hb dX2_dayOn_59 rfl (lv_at hl 1 rfl) ?_
      refine M_g C0 hK h hin2 2 (by decide) (by decide +kernel) rfl dX2_dayOn_60 ?_
      refine lv_icmp_ge (tgt := 111) hx hb dX2_dayOn_63 (by decide) (fun _ => ?_) (fun q9 => absurd (nI_le (by omega) (by omega)) q9)
      refine lv_iconst (v := 0) hx hb dX2_dayOn_111 (by decide) ?_
      refine lv_istore_n (lv' := [(1, .int 0), (0, .ref (za z 55))]) hx hb dX2_dayOn_112 rfl hl (by decide) rfl (fun ls hl => ?_)
      exact L113 S10 hk9 (by rw [eS10, hEi]; subst hq9; unfold mday; simp only []; rw [if_pos hc9]) (mt_ S10) 0 (by omega) _ _ _ h (lv_sub hl [0, 1] rfl)
    | succ d ihL58 =>
      intro i hdi H locs ls h hl
      have hEi : i < mp_ Mb := by omega
      have hkc := hkb.2.1
      obtain ⟨S11, eS11⟩ : ∃ z9, z9 = itN mcrustF i Mb := ⟨_, rfl⟩
      rw [← eS11] at h
      have hs9 : MShp Mb S11 := by rw [eS11]; exact mshp_it (f := mcrustF) (fun _ _ => mshp_crust) Mb i
      have hs1 := hs9.1
      have hs2 := hs9.2.1
      have hk9 := hs9.ok hkb
      have hY9 : mY S11 = mY Mb := by rw [eS11]; exact mcrust_Y Mb i
      refine lv_iload_n hx hb dX2_dayOn_58 rfl (lv_at hl 0 rfl) ?_
      refine lv_aload_n hx hb dX2_dayOn_59 rfl (lv_at hl 1 rfl) ?_
      refine M_g C0 hK h hin2 2 (by decide) (by decide +kernel) rfl dX2_dayOn_60 ?_
      refine lv_icmp_ge (tgt := 111) hx hb dX2_dayOn_63 (by decide) (fun q9 => absurd q9 (nI_ge (by omega) (by omega))) (fun _ => ?_)
      refine lv_aload_n hx hb dX2_dayOn_66 rfl (lv_at hl 1 rfl) ?_
      refine M_g C0 hK h hin2 5 (by decide) (by decide +kernel) rfl dX2_dayOn_67 ?_
      refine lv_iconst (v := 0) hx hb dX2_dayOn_70 (by decide) ?_
      refine M_ldY C0 hK h (k := 0) rfl (by omega) dX2_dayOn_71 ?_
      refine lv_iconst (v := 4) hx hb dX2_dayOn_72 (by decide) ?_
      refine lv_irem hx hb dX2_dayOn_73 (by decide) ?_
      refine lv_if_ne (tgt := 111) hx hb dX2_dayOn_74 (by decide) (fun q9 => absurd (by rw [hY9]; exact hc9) q9) (fun _ => ?_)
      refine lv_aload_n hx hb dX2_dayOn_77 rfl (lv_at hl 1 rfl) ?_
      refine lv_iload_n hx hb dX2_dayOn_78 rfl (lv_at hl 0 rfl) ?_
      refine lv_iconst (v := 5) hx hb dX2_dayOn_79 (by decide) ?_
      refine S_callVi C0 hK h (c_X2_li l z S11 i (by omega) 5 (by omega)) (cwV 2 hts gX2_dayOn_X2_li rfl rfl rfl (by decide +kernel) ⟨Nat.le_of_ble_eq_true rfl, Nat.le_of_ble_eq_true rfl⟩) (k := 55) (ci := 2) (by omega) (fun ct hA => hA.1) rfl rfl rfl hl.1 (rest := []) rfl (Nat.le_of_ble_eq_true rfl) ⟨Nat.le_of_ble_eq_true rfl, Nat.le_of_ble_eq_true rfl⟩ dX2_dayOn_80 (fun r u H locs hp h => ?_)
      obtain ⟨rfl, hu9⟩ := hp
      rw [hu9] at h
      refine lv_if_le (tgt := 105) hx hb dX2_dayOn_83 (by decide) (fun c_83 => ?_) (fun c_83 => ?_)
      · refine lv_iinc (v := nI (i + 1)) (lv' := [(1, .int (nI (i + 1))), (0, .ref (za z 55))]) hx hb dX2_dayOn_105 hl (k := 0) rfl (q_inc i 1) (by decide) rfl (fun ls hl => ?_)
        refine lv_goto (tgt := 58) hx hb dX2_dayOn_108 (by decide) ?_
        exact ihL58 (i + 1) (by omega) _ _ _ (by subst eS11; have e9 : itN mcrustF (i + 1) Mb = mcrust (itN mcrustF i Mb) i := rfl; rw [e9]; unfold mcrust; rw [if_pos c_83]; exact h) (lv_sub hl [0, 1] rfl)
      · refine lv_aload_n hx hb dX2_dayOn_86 rfl (lv_at hl 1 rfl) ?_
        refine lv_iload_n hx hb dX2_dayOn_87 rfl (lv_at hl 0 rfl) ?_
        refine lv_iconst (v := 4) hx hb dX2_dayOn_88 (by decide) ?_
        refine lv_bipush (v := 20) hx hb dX2_dayOn_89 (by decide) ?_
        refine lv_aload_n hx hb dX2_dayOn_91 rfl (lv_at hl 1 rfl) ?_
        refine lv_iload_n hx hb dX2_dayOn_92 rfl (lv_at hl 0 rfl) ?_
        refine lv_iconst (v := 4) hx hb dX2_dayOn_93 (by decide) ?_
        refine S_callVi C0 hK h (c_X2_li l z S11 i (by omega) 4 (by omega)) (cwV 2 hts gX2_dayOn_X2_li rfl rfl rfl (by decide +kernel) ⟨Nat.le_of_ble_eq_true rfl, Nat.le_of_ble_eq_true rfl⟩) (k := 55) (ci := 2) (by omega) (fun ct hA => hA.1) rfl rfl rfl hl.1 (rest := [.int 20, .int 4, .int (nI i), .ref (za z 55)]) rfl (Nat.le_of_ble_eq_true rfl) ⟨Nat.le_of_ble_eq_true rfl, Nat.le_of_ble_eq_true rfl⟩ dX2_dayOn_94 (fun r u H locs hp h => ?_)
        obtain ⟨rfl, hu9⟩ := hp
        rw [hu9] at h
        refine lv_iconst (v := 1) hx hb dX2_dayOn_97 (by decide) ?_
        refine lv_iadd hx hb dX2_dayOn_98 ?_
        refine G_mmin C0 hl.1 (by decide +kernel) (by decide +kernel) (by decide +kernel) (by decide +kernel) ⟨Nat.le_of_ble_eq_true rfl, Nat.le_of_ble_eq_true rfl, Nat.le_of_ble_eq_true rfl, Nat.le_of_ble_eq_true rfl⟩ dX2_dayOn_99 ?_
        refine S_callVv C0 hK h (c_X2_setPipe l z S11 i (by omega) 4 (by omega) (qmin 20 ((mB S11 (9 * i + 4)) + 1))) (cwV 3 hts gX2_dayOn_X2_setPipe rfl rfl rfl (by decide +kernel) ⟨Nat.le_of_ble_eq_true rfl, Nat.le_of_ble_eq_true rfl⟩) (k := 55) (ci := 2) (by omega) (fun ct hA => hA.1) rfl rfl rfl hl.1 (rest := []) rfl (Nat.le_of_ble_eq_true rfl) ⟨Nat.le_of_ble_eq_true rfl, Nat.le_of_ble_eq_true rfl⟩ dX2_dayOn_102 (fun u H locs hp h => ?_)
        obtain ⟨M12, eM12⟩ : ∃ z9, z9 = mSetP S11 i 4 (qmin 20 ((mB S11 (9 * i + 4)) + 1)) := ⟨_, rfl⟩
        rw [hp, ← eM12] at h
        refine lv_iinc (v := nI (i + 1)) (lv' := [(1, .int (nI (i + 1))), (0, .ref (za z 55))]) hx hb dX2_dayOn_105 hl (k := 0) rfl (q_inc i 1) (by decide) rfl (fun ls hl => ?_)
        refine lv_goto (tgt := 58) hx hb dX2_dayOn_108 (by decide) ?_
        exact ihL58 (i + 1) (by omega) _ _ _ (by subst eM12; subst eS11; have e9 : itN mcrustF (i + 1) Mb = mcrust (itN mcrustF i Mb) i := rfl; rw [e9]; unfold mcrust; rw [if_neg c_83]; exact h) (lv_sub hl [0, 1] rfl)
  have L37 : ∀ (Mb : QMs) (hkb : MOk Mb) (hq9 : Mb = itN mfeedF (mt_ M) M) (d i : Nat), i + d = mp_ Mb → ∀ (H : Heap) (locs : List Loc) (ls : Array Slot), GW z (MAt z) 55 59 s.heap ct (itN mflowF i Mb) H locs → lv_has ls 4 [(1, .int (nI i)), (0, .ref (za z 55))] → W p l e ({ frames := 4, cells := 0, slots := 0, locals := 90 } : Room) s m [.ref (za z 55)].toArray below meth c H locs 0 0 (EV z (MAt z) 55 59 ct s below [.ref (za z 55)] 0 0 (fun M' => M' = mday M)) (F0 m 37 ls []) := by
    intro Mb hkb hq9 d
    induction d with
    | zero =>
      intro i hdi H locs ls h hl
      have hEi : i = mp_ Mb := by omega
      have hkc := hkb.2.1
      obtain ⟨S13, eS13⟩ : ∃ z9, z9 = itN mflowF i Mb := ⟨_, rfl⟩
      rw [← eS13] at h
      have hs9 : MShp Mb S13 := by rw [eS13]; exact mshp_it (f := mflowF) (fun _ _ => mshp_flow) Mb i
      have hs1 := hs9.1
      have hs2 := hs9.2.1
      have hk9 := hs9.ok hkb
      refine lv_iload_n hx hb dX2_dayOn_37 rfl (lv_at hl 0 rfl) ?_
      refine lv_aload_n hx hb dX2_dayOn_38 rfl (lv_at hl 1 rfl) ?_
      refine M_g C0 hK h hin2 2 (by decide) (by decide +kernel) rfl dX2_dayOn_39 ?_
      refine lv_icmp_ge (tgt := 56) hx hb dX2_dayOn_42 (by decide) (fun _ => ?_) (fun q9 => absurd (nI_le (by omega) (by omega)) q9)
      refine lv_iconst (v := 0) hx hb dX2_dayOn_56 (by decide) ?_
      refine lv_istore_n (lv' := [(1, .int 0), (0, .ref (za z 55))]) hx hb dX2_dayOn_57 rfl hl (by decide) rfl (fun ls hl => ?_)
      by_cases hc9 : mY S13 0 - mY S13 0 / 4 * 4 = 0
      · exact L58 S13 hk9 hc9 (by rw [eS13, hEi]; subst hq9; rfl) (mp_ S13) 0 (by omega) _ _ _ h (lv_sub hl [0, 1] rfl)
      · refine lv_iload_n hx hb dX2_dayOn_58 rfl (lv_at hl 0 rfl) ?_
        refine lv_aload_n hx hb dX2_dayOn_59 rfl (lv_at hl 1 rfl) ?_
        refine M_g C0 hK h hin2 2 (by decide) (by decide +kernel) rfl dX2_dayOn_60 ?_
        refine lv_icmp_ge (tgt := 111) hx hb dX2_dayOn_63 (by decide) (fun c_63 => ?_) (fun c_63 => ?_)
        · refine lv_iconst (v := 0) hx hb dX2_dayOn_111 (by decide) ?_
          refine lv_istore_n (lv' := [(1, .int 0), (0, .ref (za z 55))]) hx hb dX2_dayOn_112 rfl hl (by decide) rfl (fun ls hl => ?_)
          exact L113 S13 hk9 (by rw [eS13, hEi] at hc9 ⊢; subst hq9; unfold mday; simp only []; rw [if_neg hc9]) (mt_ S13) 0 (by omega) _ _ _ h (lv_sub hl [0, 1] rfl)
        · refine lv_aload_n hx hb dX2_dayOn_66 rfl (lv_at hl 1 rfl) ?_
          refine M_g C0 hK h hin2 5 (by decide) (by decide +kernel) rfl dX2_dayOn_67 ?_
          refine lv_iconst (v := 0) hx hb dX2_dayOn_70 (by decide) ?_
          refine M_ldY C0 hK h (k := 0) rfl (by omega) dX2_dayOn_71 ?_
          refine lv_iconst (v := 4) hx hb dX2_dayOn_72 (by decide) ?_
          refine lv_irem hx hb dX2_dayOn_73 (by decide) ?_
          refine lv_if_ne (tgt := 111) hx hb dX2_dayOn_74 (by decide) (fun _ => ?_) (fun q9 => absurd q9 hc9)
          refine lv_iconst (v := 0) hx hb dX2_dayOn_111 (by decide) ?_
          refine lv_istore_n (lv' := [(1, .int 0), (0, .ref (za z 55))]) hx hb dX2_dayOn_112 rfl hl (by decide) rfl (fun ls hl => ?_)
          exact L113 S13 hk9 (by rw [eS13, hEi] at hc9 ⊢; subst hq9; unfold mday; simp only []; rw [if_neg hc9]) (mt_ S13) 0 (by omega) _ _ _ h (lv_sub hl [0, 1] rfl)
    | succ d ihL37 =>
      intro i hdi H locs ls h hl
      have hEi : i < mp_ Mb := by omega
      have hkc := hkb.2.1
      obtain ⟨S14, eS14⟩ : ∃ z9, z9 = itN mflowF i Mb := ⟨_, rfl⟩
      rw [← eS14] at h
      have hs9 : MShp Mb S14 := by rw [eS14]; exact mshp_it (f := mflowF) (fun _ _ => mshp_flow) Mb i
      have hs1 := hs9.1
      have hs2 := hs9.2.1
      have hk9 := hs9.ok hkb
      refine lv_iload_n hx hb dX2_dayOn_37 rfl (lv_at hl 0 rfl) ?_
      refine lv_aload_n hx hb dX2_dayOn_38 rfl (lv_at hl 1 rfl) ?_
      refine M_g C0 hK h hin2 2 (by decide) (by decide +kernel) rfl dX2_dayOn_39 ?_
      refine lv_icmp_ge (tgt := 56) hx hb dX2_dayOn_42 (by decide) (fun q9 => absurd q9 (nI_ge (by omega) (by omega))) (fun _ => ?_)
      refine lv_aload_n hx hb dX2_dayOn_45 rfl (lv_at hl 1 rfl) ?_
      refine lv_iload_n hx hb dX2_dayOn_46 rfl (lv_at hl 0 rfl) ?_
      refine S_callVv C0 hK h (c_X2_flow l z S14 hk9 i (by omega)) (cwV 1 hts gX2_dayOn_X2_flow rfl rfl rfl (by decide +kernel) ⟨Nat.le_of_ble_eq_true rfl, Nat.le_of_ble_eq_true rfl⟩) (k := 55) (ci := 2) (by omega) (fun ct hA => hA.1) rfl rfl rfl hl.1 (rest := []) rfl (Nat.le_of_ble_eq_true rfl) ⟨Nat.le_of_ble_eq_true rfl, Nat.le_of_ble_eq_true rfl⟩ dX2_dayOn_47 (fun u H locs hp h => ?_)
      obtain ⟨M15, eM15⟩ : ∃ z9, z9 = mflow S14 i := ⟨_, rfl⟩
      rw [hp, ← eM15] at h
      refine lv_iinc (v := nI (i + 1)) (lv' := [(1, .int (nI (i + 1))), (0, .ref (za z 55))]) hx hb dX2_dayOn_50 hl (k := 0) rfl (q_inc i 1) (by decide) rfl (fun ls hl => ?_)
      refine lv_goto (tgt := 37) hx hb dX2_dayOn_53 (by decide) ?_
      exact ihL37 (i + 1) (by omega) _ _ _ (by subst eM15; rw [eS14] at h; exact h) (lv_sub hl [0, 1] rfl)
  have L2 : ∀ (d i : Nat), i + d = mt_ M → ∀ (H : Heap) (locs : List Loc) (ls : Array Slot), GW z (MAt z) 55 59 s.heap ct (itN mfeedF i M) H locs → lv_has ls 4 [(1, .int (nI i)), (0, .ref (za z 55))] → W p l e ({ frames := 4, cells := 0, slots := 0, locals := 90 } : Room) s m [.ref (za z 55)].toArray below meth c H locs 0 0 (EV z (MAt z) 55 59 ct s below [.ref (za z 55)] 0 0 (fun M' => M' = mday M)) (F0 m 2 ls []) := by
    intro  d
    induction d with
    | zero =>
      intro i hdi H locs ls h hl
      have hEi : i = mt_ M := by omega
      obtain ⟨S16, eS16⟩ : ∃ z9, z9 = itN mfeedF i M := ⟨_, rfl⟩
      rw [← eS16] at h
      have hs9 : MShp M S16 := by rw [eS16]; exact mshp_it (f := mfeedF) (fun _ _ => mshp_pour) M i
      have hs1 := hs9.1
      have hs2 := hs9.2.1
      have hk9 := hs9.ok hk
      refine lv_iload_n hx hb dX2_dayOn_2 rfl (lv_at hl 0 rfl) ?_
      refine lv_aload_n hx hb dX2_dayOn_3 rfl (lv_at hl 1 rfl) ?_
      refine M_g C0 hK h hin2 1 (by decide) (by decide +kernel) rfl dX2_dayOn_4 ?_
      refine lv_icmp_ge (tgt := 35) hx hb dX2_dayOn_7 (by decide) (fun _ => ?_) (fun q9 => absurd (nI_le (by omega) (by omega)) q9)
      refine lv_iconst (v := 0) hx hb dX2_dayOn_35 (by decide) ?_
      refine lv_istore_n (lv' := [(1, .int 0), (0, .ref (za z 55))]) hx hb dX2_dayOn_36 rfl hl (by decide) rfl (fun ls hl => ?_)
      exact L37 S16 hk9 (by rw [eS16, hEi]) (mp_ S16) 0 (by omega) _ _ _ h (lv_sub hl [0, 1] rfl)
    | succ d ihL2 =>
      intro i hdi H locs ls h hl
      have hEi : i < mt_ M := by omega
      obtain ⟨S17, eS17⟩ : ∃ z9, z9 = itN mfeedF i M := ⟨_, rfl⟩
      rw [← eS17] at h
      have hs9 : MShp M S17 := by rw [eS17]; exact mshp_it (f := mfeedF) (fun _ _ => mshp_pour) M i
      have hs1 := hs9.1
      have hs2 := hs9.2.1
      have hk9 := hs9.ok hk
      refine lv_iload_n hx hb dX2_dayOn_2 rfl (lv_at hl 0 rfl) ?_
      refine lv_aload_n hx hb dX2_dayOn_3 rfl (lv_at hl 1 rfl) ?_
      refine M_g C0 hK h hin2 1 (by decide) (by decide +kernel) rfl dX2_dayOn_4 ?_
      refine lv_icmp_ge (tgt := 35) hx hb dX2_dayOn_7 (by decide) (fun q9 => absurd q9 (nI_ge (by omega) (by omega))) (fun _ => ?_)
      refine lv_aload_n hx hb dX2_dayOn_10 rfl (lv_at hl 1 rfl) ?_
      refine lv_iload_n hx hb dX2_dayOn_11 rfl (lv_at hl 0 rfl) ?_
      refine lv_aload_n hx hb dX2_dayOn_12 rfl (lv_at hl 1 rfl) ?_
      refine lv_iload_n hx hb dX2_dayOn_13 rfl (lv_at hl 0 rfl) ?_
      refine lv_iconst (v := 1) hx hb dX2_dayOn_14 (by decide) ?_
      refine S_callVi C0 hK h (c_X2_la l z S17 i (by omega) 1 (by omega)) (cwV 2 hts gX2_dayOn_X2_la rfl rfl rfl (by decide +kernel) ⟨Nat.le_of_ble_eq_true rfl, Nat.le_of_ble_eq_true rfl⟩) (k := 55) (ci := 2) (by omega) (fun ct hA => hA.1) rfl rfl rfl hl.1 (rest := [.int (nI i), .ref (za z 55)]) rfl (Nat.le_of_ble_eq_true rfl) ⟨Nat.le_of_ble_eq_true rfl, Nat.le_of_ble_eq_true rfl⟩ dX2_dayOn_15 (fun r u H locs hp h => ?_)
      obtain ⟨rfl, hu9⟩ := hp
      rw [hu9] at h
      refine lv_aload_n hx hb dX2_dayOn_18 rfl (lv_at hl 1 rfl) ?_
      refine lv_iload_n hx hb dX2_dayOn_19 rfl (lv_at hl 0 rfl) ?_
      refine lv_iconst (v := 1) hx hb dX2_dayOn_20 (by decide) ?_
      refine S_callVi C0 hK h (c_X2_la l z S17 i (by omega) 1 (by omega)) (cwV 2 hts gX2_dayOn_X2_la rfl rfl rfl (by decide +kernel) ⟨Nat.le_of_ble_eq_true rfl, Nat.le_of_ble_eq_true rfl⟩) (k := 55) (ci := 2) (by omega) (fun ct hA => hA.1) rfl rfl rfl hl.1 (rest := [.int (mA S17 (8 * i + 1)), .int (nI i), .ref (za z 55)]) rfl (Nat.le_of_ble_eq_true rfl) ⟨Nat.le_of_ble_eq_true rfl, Nat.le_of_ble_eq_true rfl⟩ dX2_dayOn_21 (fun r u H locs hp h => ?_)
      obtain ⟨rfl, hu9⟩ := hp
      rw [hu9] at h
      refine lv_iconst (v := 4) hx hb dX2_dayOn_24 (by decide) ?_
      refine lv_idiv hx hb dX2_dayOn_25 (by decide) ?_
      refine S_callVv C0 hK h (c_X2_pour l z S17 i (by omega) (mA S17 (8 * i + 1)) ((mA S17 (8 * i + 1)) / 4)) (cwV 3 hts gX2_dayOn_X2_pour rfl rfl rfl (by decide +kernel) ⟨Nat.le_of_ble_eq_true rfl, Nat.le_of_ble_eq_true rfl⟩) (k := 55) (ci := 2) (by omega) (fun ct hA => hA.1) rfl rfl rfl hl.1 (rest := []) rfl (Nat.le_of_ble_eq_true rfl) ⟨Nat.le_of_ble_eq_true rfl, Nat.le_of_ble_eq_true rfl⟩ dX2_dayOn_26 (fun u H locs hp h => ?_)
      obtain ⟨M18, eM18⟩ : ∃ z9, z9 = mPour S17 i (mA S17 (8 * i + 1)) ((mA S17 (8 * i + 1)) / 4) := ⟨_, rfl⟩
      rw [hp, ← eM18] at h
      refine lv_iinc (v := nI (i + 1)) (lv' := [(1, .int (nI (i + 1))), (0, .ref (za z 55))]) hx hb dX2_dayOn_29 hl (k := 0) rfl (q_inc i 1) (by decide) rfl (fun ls hl => ?_)
      refine lv_goto (tgt := 2) hx hb dX2_dayOn_32 (by decide) ?_
      exact ihL2 (i + 1) (by omega) _ _ _ (by subst eM18; rw [eS17] at h; exact h) (lv_sub hl [0, 1] rfl)
  refine lv_iconst (v := 0) hx hb dX2_dayOn_0 (by decide) ?_
  refine lv_istore_n (lv' := [(1, .int 0), (0, .ref (za z 55))]) hx hb dX2_dayOn_1 rfl hl (by decide) rfl (fun ls hl => ?_)
  exact L2 (mt_ M) 0 (by omega) _ _ _ h (lv_sub hl [0, 1] rfl)
set_option maxHeartbeats 4000000 in
set_option maxRecDepth 100000 in
theorem c_X2_daysOn (l : Launch) (z : QZ) (M : QMs) (hk : MOk M) (n : Nat) (hn9 : n < 2147483648) : GV l yX2_daysOn wsX2_daysOn ({ frames := 5, cells := 0, slots := 0, locals := 113 } : Room) z [.ref (za z 55), .int (nI n)] 0 0 (MAt z) 55 59 M (fun M' => M' = itN mdayF n M) := by
  intro ct sz hn hq hat
  refine q_entry (lo := 55) (cc := cX2_daysOn) (maxL := 3) (ret := none) (by decide) rfl (Nat.le_of_ble_eq_true rfl) hn hq hat ?_
  intro p e s m below meth c ls C0 hK hsz h hl
  subst hsz
  obtain ⟨hx, hb, hr, hml, hown, hts, hlocks⟩ := id C0
  have hl : lv_has ls 3 [(0, .ref (za z 55)), (1, .int (nI n))] := hl
  have L2 : ∀ (d i : Nat), i + d = n → ∀ (H : Heap) (locs : List Loc) (ls : Array Slot), GW z (MAt z) 55 59 s.heap ct (itN mdayF i M) H locs → lv_has ls 3 [(2, .int (nI i)), (0, .ref (za z 55)), (1, .int (nI n))] → W p l e ({ frames := 5, cells := 0, slots := 0, locals := 113 } : Room) s m [.ref (za z 55), .int (nI n)].toArray below meth c H locs 0 0 (EV z (MAt z) 55 59 ct s below [.ref (za z 55), .int (nI n)] 0 0 (fun M' => M' = itN mdayF n M)) (F0 m 2 ls []) := by
    intro  d
    induction d with
    | zero =>
      intro i hdi H locs ls h hl
      have hEi : i = n := by omega
      obtain ⟨S1, eS1⟩ : ∃ z9, z9 = itN mdayF i M := ⟨_, rfl⟩
      rw [← eS1] at h
      have hk9 : MOk S1 := by rw [eS1]; exact (mshp_days M i).ok hk
      refine lv_iload_n hx hb dX2_daysOn_2 rfl (lv_at hl 0 rfl) ?_
      refine lv_iload_n hx hb dX2_daysOn_3 rfl (lv_at hl 2 rfl) ?_
      refine lv_icmp_ge (tgt := 17) hx hb dX2_daysOn_4 (by decide) (fun _ => ?_) (fun q9 => absurd (nI_le (by omega) (by omega)) q9)
      exact G_vret C0 hK h (by rw [eS1, hEi]) (Nat.le_of_ble_eq_true rfl) (Nat.le_of_ble_eq_true rfl) dX2_daysOn_17
    | succ d ihL2 =>
      intro i hdi H locs ls h hl
      have hEi : i < n := by omega
      obtain ⟨S2, eS2⟩ : ∃ z9, z9 = itN mdayF i M := ⟨_, rfl⟩
      rw [← eS2] at h
      have hk9 : MOk S2 := by rw [eS2]; exact (mshp_days M i).ok hk
      refine lv_iload_n hx hb dX2_daysOn_2 rfl (lv_at hl 0 rfl) ?_
      refine lv_iload_n hx hb dX2_daysOn_3 rfl (lv_at hl 2 rfl) ?_
      refine lv_icmp_ge (tgt := 17) hx hb dX2_daysOn_4 (by decide) (fun q9 => absurd q9 (nI_ge (by omega) (by omega))) (fun _ => ?_)
      refine lv_aload_n hx hb dX2_daysOn_7 rfl (lv_at hl 1 rfl) ?_
      refine S_callVv C0 hK h (c_X2_dayOn l z S2 hk9) (cwV 0 hts gX2_daysOn_X2_dayOn rfl rfl rfl (by decide +kernel) ⟨Nat.le_of_ble_eq_true rfl, Nat.le_of_ble_eq_true rfl⟩) (k := 55) (ci := 2) (by omega) (fun ct hA => hA.1) rfl rfl rfl hl.1 (rest := []) rfl (Nat.le_of_ble_eq_true rfl) ⟨Nat.le_of_ble_eq_true rfl, Nat.le_of_ble_eq_true rfl⟩ dX2_daysOn_8 (fun u H locs hp h => ?_)
      obtain ⟨M3, eM3⟩ : ∃ z9, z9 = mday S2 := ⟨_, rfl⟩
      rw [hp, ← eM3] at h
      refine lv_iinc (v := nI (i + 1)) (lv' := [(2, .int (nI (i + 1))), (0, .ref (za z 55)), (1, .int (nI n))]) hx hb dX2_daysOn_11 hl (k := 0) rfl (q_inc i 1) (by decide) rfl (fun ls hl => ?_)
      refine lv_goto (tgt := 2) hx hb dX2_daysOn_14 (by decide) ?_
      exact ihL2 (i + 1) (by omega) _ _ _ (by subst eM3; rw [eS2] at h; exact h) (lv_sub hl [0, 1, 2] rfl)
  refine lv_iconst (v := 0) hx hb dX2_daysOn_0 (by decide) ?_
  refine lv_istore_n (lv' := [(2, .int 0), (0, .ref (za z 55)), (1, .int (nI n))]) hx hb dX2_daysOn_1 rfl hl (by decide) rfl (fun ls hl => ?_)
  exact L2 (n) 0 (by omega) _ _ _ h (lv_sub hl [0, 1, 2] rfl)
end
section
set_option maxHeartbeats 4000000 in
set_option maxRecDepth 100000 in
theorem c_X2_tank_ok (l : Launch) (z : QZ) (M : QMs) (hk : MOk M) (i : Nat) (hi : i < mt_ M) (k : Nat) (hk9 : k < 8) : GI l yX2_tank wsX2_tank ({ frames := 2, cells := 0, slots := 0, locals := 43 } : Room) z [.ref (za z 55), .int (nI i), .int (nI k)] 0 0 (MAt z) 55 59 M (fun r M' => r = mA M (8 * i + k) ∧ M' = uh M 0) := by
  intro ct sz hn hq hat
  refine q_entry (lo := 55) (cc := cX2_tank) (maxL := 3) (ret := (some .int)) (by decide) rfl (Nat.le_of_ble_eq_true rfl) hn hq hat ?_
  intro p e s m below meth c ls C0 hK hsz h hl
  subst hsz
  obtain ⟨hx, hb, hr, hml, hown, hts, hlocks⟩ := id C0
  have hin2 : ∀ w ∈ u_ws RX2 TX2 6, w ∈ wsX2_tank := by decide +kernel
  have hl : lv_has ls 3 [(0, .ref (za z 55)), (1, .int (nI i)), (2, .int (nI k))] := hl
  have hk1 := hk.1
  have hk2 := hk.2.1
  refine lv_aload_n hx hb dX2_tank_0 rfl (lv_at hl 0 rfl) ?_
  refine lv_iconst (v := 0) hx hb dX2_tank_1 (by decide) ?_
  refine N_ph C0 hK h hin2 (by decide +kernel) dX2_tank_2 (fun H locs M1 eM1 h => ?_)
  subst eM1
  refine lv_aload_n hx hb dX2_tank_5 rfl (lv_at hl 0 rfl) ?_
  refine lv_iload_n hx hb dX2_tank_6 rfl (lv_at hl 1 rfl) ?_
  refine S_callVi C0 hK h (c_X2_isTank l z (uh M 0) (nI i) hk) (cwV 1 hts gX2_tank_X2_isTank rfl rfl rfl (by decide +kernel) ⟨Nat.le_of_ble_eq_true rfl, Nat.le_of_ble_eq_true rfl⟩) (k := 55) (ci := 2) (by omega) (fun ct hA => hA.1) rfl rfl rfl hl.1 (rest := []) rfl (Nat.le_of_ble_eq_true rfl) ⟨Nat.le_of_ble_eq_true rfl, Nat.le_of_ble_eq_true rfl⟩ dX2_tank_7 (fun r u H locs hp h => ?_)
  obtain ⟨hr9, hu9⟩ := hp
  have hr9 := hr9.trans (if_pos (qin_nI (n := mt_ M) (by have := hk.1; have := hk.2.1; omega) hi))
  subst hr9
  rw [hu9] at h
  refine lv_if_eq (tgt := 32) hx hb dX2_tank_10 (by decide) (fun q9 => absurd q9 (by decide)) (fun _ => ?_)
  refine lv_iload_n hx hb dX2_tank_13 rfl (lv_at hl 2 rfl) ?_
  refine lv_iconst (v := 0) hx hb dX2_tank_14 (by decide) ?_
  refine lv_bipush (v := 7) hx hb dX2_tank_15 (by decide) ?_
  refine S_callSi C0 hK h (c_X2_isIn l z (uh M 0) (nI k) 0 7) (va_cwS 3 hts gX2_tank_X2_isIn rfl rfl rfl (by decide +kernel) ⟨Nat.le_of_ble_eq_true rfl, Nat.le_of_ble_eq_true rfl⟩) rfl hl.1 (rest := []) rfl (Nat.le_of_ble_eq_true rfl) ⟨Nat.le_of_ble_eq_true rfl, Nat.le_of_ble_eq_true rfl⟩ dX2_tank_17 (fun r u H locs hp h => ?_)
  obtain ⟨hr9, hu9⟩ := hp
  have hr9 := hr9.trans (if_pos (q_rng (k := k) 0 7 rfl rfl))
  subst hr9
  rw [hu9] at h
  refine lv_if_eq (tgt := 32) hx hb dX2_tank_20 (by decide) (fun q9 => absurd q9 (by decide)) (fun _ => ?_)
  refine lv_aload_n hx hb dX2_tank_23 rfl (lv_at hl 0 rfl) ?_
  refine lv_iload_n hx hb dX2_tank_24 rfl (lv_at hl 1 rfl) ?_
  refine lv_iload_n hx hb dX2_tank_25 rfl (lv_at hl 2 rfl) ?_
  refine S_callVi C0 hK h (c_X2_la l z (uh M 0) i (by omega) k (by omega)) (cwV 2 hts gX2_tank_X2_la rfl rfl rfl (by decide +kernel) ⟨Nat.le_of_ble_eq_true rfl, Nat.le_of_ble_eq_true rfl⟩) (k := 55) (ci := 2) (by omega) (fun ct hA => hA.1) rfl rfl rfl hl.1 (rest := []) rfl (Nat.le_of_ble_eq_true rfl) ⟨Nat.le_of_ble_eq_true rfl, Nat.le_of_ble_eq_true rfl⟩ dX2_tank_26 (fun r u H locs hp h => ?_)
  obtain ⟨rfl, hu9⟩ := hp
  rw [hu9] at h
  refine lv_goto (tgt := 37) hx hb dX2_tank_29 (by decide) ?_
  exact G_iret C0 hK h ⟨rfl, by rfl⟩ (Nat.le_of_ble_eq_true rfl) (Nat.le_of_ble_eq_true rfl) dX2_tank_37
set_option maxHeartbeats 4000000 in
set_option maxRecDepth 100000 in
theorem c_X2_tank_no (l : Launch) (z : QZ) (M : QMs) (hk : MOk M) (x y : Int32) (hno : ¬ (qin x (mt_ M) ∧ (0 ≤ y ∧ y ≤ 7))) : GI l yX2_tank wsX2_tank ({ frames := 2, cells := 0, slots := 0, locals := 43 } : Room) z [.ref (za z 55), .int x, .int y] 0 0 (MAt z) 55 59 M (fun r M' => r = 0 ∧ M' = uh M 1) := by
  intro ct sz hn hq hat
  refine q_entry (lo := 55) (cc := cX2_tank) (maxL := 3) (ret := (some .int)) (by decide) rfl (Nat.le_of_ble_eq_true rfl) hn hq hat ?_
  intro p e s m below meth c ls C0 hK hsz h hl
  subst hsz
  obtain ⟨hx, hb, hr, hml, hown, hts, hlocks⟩ := id C0
  have hin2 : ∀ w ∈ u_ws RX2 TX2 6, w ∈ wsX2_tank := by decide +kernel
  have hl : lv_has ls 3 [(0, .ref (za z 55)), (1, .int x), (2, .int y)] := hl
  refine lv_aload_n hx hb dX2_tank_0 rfl (lv_at hl 0 rfl) ?_
  refine lv_iconst (v := 0) hx hb dX2_tank_1 (by decide) ?_
  refine N_ph C0 hK h hin2 (by decide +kernel) dX2_tank_2 (fun H locs M1 eM1 h => ?_)
  subst eM1
  refine lv_aload_n hx hb dX2_tank_5 rfl (lv_at hl 0 rfl) ?_
  refine lv_iload_n hx hb dX2_tank_6 rfl (lv_at hl 1 rfl) ?_
  refine S_callVi C0 hK h (c_X2_isTank l z (uh M 0) x hk) (cwV 1 hts gX2_tank_X2_isTank rfl rfl rfl (by decide +kernel) ⟨Nat.le_of_ble_eq_true rfl, Nat.le_of_ble_eq_true rfl⟩) (k := 55) (ci := 2) (by omega) (fun ct hA => hA.1) rfl rfl rfl hl.1 (rest := []) rfl (Nat.le_of_ble_eq_true rfl) ⟨Nat.le_of_ble_eq_true rfl, Nat.le_of_ble_eq_true rfl⟩ dX2_tank_7 (fun r u H locs hp h => ?_)
  rcases q_bool _ hp with ⟨hc2, rfl, hu9⟩ | ⟨hc2, rfl, hu9⟩
  · rw [hu9] at h
    refine lv_if_eq (tgt := 32) hx hb dX2_tank_10 (by decide) (fun q9 => absurd q9 (by decide)) (fun _ => ?_)
    refine lv_iload_n hx hb dX2_tank_13 rfl (lv_at hl 2 rfl) ?_
    refine lv_iconst (v := 0) hx hb dX2_tank_14 (by decide) ?_
    refine lv_bipush (v := 7) hx hb dX2_tank_15 (by decide) ?_
    refine S_callSi C0 hK h (c_X2_isIn l z (uh M 0) y 0 7) (va_cwS 3 hts gX2_tank_X2_isIn rfl rfl rfl (by decide +kernel) ⟨Nat.le_of_ble_eq_true rfl, Nat.le_of_ble_eq_true rfl⟩) rfl hl.1 (rest := []) rfl (Nat.le_of_ble_eq_true rfl) ⟨Nat.le_of_ble_eq_true rfl, Nat.le_of_ble_eq_true rfl⟩ dX2_tank_17 (fun r u H locs hp h => ?_)
    rcases q_bool _ hp with ⟨hc3, rfl, hu9⟩ | ⟨hc3, rfl, hu9⟩
    · rw [hu9] at h
      refine lv_if_eq (tgt := 32) hx hb dX2_tank_20 (by decide) (fun q9 => absurd q9 (by decide)) (fun _ => ?_)
      exact absurd ⟨hc2, hc3⟩ hno
    · rw [hu9] at h
      refine lv_if_eq (tgt := 32) hx hb dX2_tank_20 (by decide) (fun _ => ?_) (fun q9 => absurd (by decide) q9)
      refine lv_aload_n hx hb dX2_tank_32 rfl (lv_at hl 0 rfl) ?_
      refine lv_iconst (v := 1) hx hb dX2_tank_33 (by decide) ?_
      refine S_callVi C0 hK h (c_X2_fail l z (uh M 0) 1) (cwV 1 hts gX2_tank_X2_fail rfl rfl rfl (by decide +kernel) ⟨Nat.le_of_ble_eq_true rfl, Nat.le_of_ble_eq_true rfl⟩) (k := 55) (ci := 2) (by omega) (fun ct hA => hA.1) rfl rfl rfl hl.1 (rest := []) rfl (Nat.le_of_ble_eq_true rfl) ⟨Nat.le_of_ble_eq_true rfl, Nat.le_of_ble_eq_true rfl⟩ dX2_tank_34 (fun r u H locs hp h => ?_)
      obtain ⟨rfl, hp⟩ := hp
      obtain ⟨M4, eM4⟩ : ∃ z9, z9 = uh (uh M 0) 1 := ⟨_, rfl⟩
      rw [hp, ← eM4] at h
      exact G_iret C0 hK h ⟨rfl, by subst eM4; rfl⟩ (Nat.le_of_ble_eq_true rfl) (Nat.le_of_ble_eq_true rfl) dX2_tank_37
  · rw [hu9] at h
    refine lv_if_eq (tgt := 32) hx hb dX2_tank_10 (by decide) (fun _ => ?_) (fun q9 => absurd (by decide) q9)
    refine lv_aload_n hx hb dX2_tank_32 rfl (lv_at hl 0 rfl) ?_
    refine lv_iconst (v := 1) hx hb dX2_tank_33 (by decide) ?_
    refine S_callVi C0 hK h (c_X2_fail l z (uh M 0) 1) (cwV 1 hts gX2_tank_X2_fail rfl rfl rfl (by decide +kernel) ⟨Nat.le_of_ble_eq_true rfl, Nat.le_of_ble_eq_true rfl⟩) (k := 55) (ci := 2) (by omega) (fun ct hA => hA.1) rfl rfl rfl hl.1 (rest := []) rfl (Nat.le_of_ble_eq_true rfl) ⟨Nat.le_of_ble_eq_true rfl, Nat.le_of_ble_eq_true rfl⟩ dX2_tank_34 (fun r u H locs hp h => ?_)
    obtain ⟨rfl, hp⟩ := hp
    obtain ⟨M5, eM5⟩ : ∃ z9, z9 = uh (uh M 0) 1 := ⟨_, rfl⟩
    rw [hp, ← eM5] at h
    exact G_iret C0 hK h ⟨rfl, by subst eM5; rfl⟩ (Nat.le_of_ble_eq_true rfl) (Nat.le_of_ble_eq_true rfl) dX2_tank_37
set_option maxHeartbeats 4000000 in
set_option maxRecDepth 100000 in
theorem c_X2_pipe_ok (l : Launch) (z : QZ) (M : QMs) (hk : MOk M) (i : Nat) (hi : i < mp_ M) (k : Nat) (hk9 : k < 9) : GI l yX2_pipe wsX2_pipe ({ frames := 4, cells := 0, slots := 0, locals := 87 } : Room) z [.ref (za z 55), .int (nI i), .int (nI k)] 0 0 (MAt z) 55 59 M (fun r M' => r = mtold M i k ∧ M' = uh M 0) := by
  intro ct sz hn hq hat
  refine q_entry (lo := 55) (cc := cX2_pipe) (maxL := 3) (ret := (some .int)) (by decide) rfl (Nat.le_of_ble_eq_true rfl) hn hq hat ?_
  intro p e s m below meth c ls C0 hK hsz h hl
  subst hsz
  obtain ⟨hx, hb, hr, hml, hown, hts, hlocks⟩ := id C0
  have hin2 : ∀ w ∈ u_ws RX2 TX2 6, w ∈ wsX2_pipe := by decide +kernel
  have hl : lv_has ls 3 [(0, .ref (za z 55)), (1, .int (nI i)), (2, .int (nI k))] := hl
  have hk1 := hk.1
  have hk2 := hk.2.1
  refine lv_aload_n hx hb dX2_pipe_0 rfl (lv_at hl 0 rfl) ?_
  refine lv_iconst (v := 0) hx hb dX2_pipe_1 (by decide) ?_
  refine N_ph C0 hK h hin2 (by decide +kernel) dX2_pipe_2 (fun H locs M1 eM1 h => ?_)
  subst eM1
  refine lv_aload_n hx hb dX2_pipe_5 rfl (lv_at hl 0 rfl) ?_
  refine lv_iload_n hx hb dX2_pipe_6 rfl (lv_at hl 1 rfl) ?_
  refine S_callVi C0 hK h (c_X2_isPipe l z (uh M 0) (nI i) hk) (cwV 1 hts gX2_pipe_X2_isPipe rfl rfl rfl (by decide +kernel) ⟨Nat.le_of_ble_eq_true rfl, Nat.le_of_ble_eq_true rfl⟩) (k := 55) (ci := 2) (by omega) (fun ct hA => hA.1) rfl rfl rfl hl.1 (rest := []) rfl (Nat.le_of_ble_eq_true rfl) ⟨Nat.le_of_ble_eq_true rfl, Nat.le_of_ble_eq_true rfl⟩ dX2_pipe_7 (fun r u H locs hp h => ?_)
  obtain ⟨hr9, hu9⟩ := hp
  have hr9 := hr9.trans (if_pos (qin_nI (n := mp_ M) (by have := hk.1; have := hk.2.1; omega) hi))
  subst hr9
  rw [hu9] at h
  refine lv_if_eq (tgt := 32) hx hb dX2_pipe_10 (by decide) (fun q9 => absurd q9 (by decide)) (fun _ => ?_)
  refine lv_iload_n hx hb dX2_pipe_13 rfl (lv_at hl 2 rfl) ?_
  refine lv_iconst (v := 0) hx hb dX2_pipe_14 (by decide) ?_
  refine lv_bipush (v := 8) hx hb dX2_pipe_15 (by decide) ?_
  refine S_callSi C0 hK h (c_X2_isIn l z (uh M 0) (nI k) 0 8) (va_cwS 3 hts gX2_pipe_X2_isIn rfl rfl rfl (by decide +kernel) ⟨Nat.le_of_ble_eq_true rfl, Nat.le_of_ble_eq_true rfl⟩) rfl hl.1 (rest := []) rfl (Nat.le_of_ble_eq_true rfl) ⟨Nat.le_of_ble_eq_true rfl, Nat.le_of_ble_eq_true rfl⟩ dX2_pipe_17 (fun r u H locs hp h => ?_)
  obtain ⟨hr9, hu9⟩ := hp
  have hr9 := hr9.trans (if_pos (q_rng (k := k) 0 8 rfl rfl))
  subst hr9
  rw [hu9] at h
  refine lv_if_eq (tgt := 32) hx hb dX2_pipe_20 (by decide) (fun q9 => absurd q9 (by decide)) (fun _ => ?_)
  refine lv_aload_n hx hb dX2_pipe_23 rfl (lv_at hl 0 rfl) ?_
  refine lv_iload_n hx hb dX2_pipe_24 rfl (lv_at hl 1 rfl) ?_
  refine lv_iload_n hx hb dX2_pipe_25 rfl (lv_at hl 2 rfl) ?_
  refine S_callVi C0 hK h (c_X2_pipeTold l z (uh M 0) hk i hi k (by omega)) (cwV 2 hts gX2_pipe_X2_pipeTold rfl rfl rfl (by decide +kernel) ⟨Nat.le_of_ble_eq_true rfl, Nat.le_of_ble_eq_true rfl⟩) (k := 55) (ci := 2) (by omega) (fun ct hA => hA.1) rfl rfl rfl hl.1 (rest := []) rfl (Nat.le_of_ble_eq_true rfl) ⟨Nat.le_of_ble_eq_true rfl, Nat.le_of_ble_eq_true rfl⟩ dX2_pipe_26 (fun r u H locs hp h => ?_)
  obtain ⟨rfl, hu9⟩ := hp
  rw [hu9] at h
  refine lv_goto (tgt := 37) hx hb dX2_pipe_29 (by decide) ?_
  exact G_iret C0 hK h ⟨rfl, by rfl⟩ (Nat.le_of_ble_eq_true rfl) (Nat.le_of_ble_eq_true rfl) dX2_pipe_37
set_option maxHeartbeats 4000000 in
set_option maxRecDepth 100000 in
theorem c_X2_pipe_no (l : Launch) (z : QZ) (M : QMs) (hk : MOk M) (x y : Int32) (hno : ¬ (qin x (mp_ M) ∧ (0 ≤ y ∧ y ≤ 8))) : GI l yX2_pipe wsX2_pipe ({ frames := 2, cells := 0, slots := 0, locals := 43 } : Room) z [.ref (za z 55), .int x, .int y] 0 0 (MAt z) 55 59 M (fun r M' => r = 0 ∧ M' = uh M 1) := by
  intro ct sz hn hq hat
  refine q_entry (lo := 55) (cc := cX2_pipe) (maxL := 3) (ret := (some .int)) (by decide) rfl (Nat.le_of_ble_eq_true rfl) hn hq hat ?_
  intro p e s m below meth c ls C0 hK hsz h hl
  subst hsz
  obtain ⟨hx, hb, hr, hml, hown, hts, hlocks⟩ := id C0
  have hin2 : ∀ w ∈ u_ws RX2 TX2 6, w ∈ wsX2_pipe := by decide +kernel
  have hl : lv_has ls 3 [(0, .ref (za z 55)), (1, .int x), (2, .int y)] := hl
  refine lv_aload_n hx hb dX2_pipe_0 rfl (lv_at hl 0 rfl) ?_
  refine lv_iconst (v := 0) hx hb dX2_pipe_1 (by decide) ?_
  refine N_ph C0 hK h hin2 (by decide +kernel) dX2_pipe_2 (fun H locs M1 eM1 h => ?_)
  subst eM1
  refine lv_aload_n hx hb dX2_pipe_5 rfl (lv_at hl 0 rfl) ?_
  refine lv_iload_n hx hb dX2_pipe_6 rfl (lv_at hl 1 rfl) ?_
  refine S_callVi C0 hK h (c_X2_isPipe l z (uh M 0) x hk) (cwV 1 hts gX2_pipe_X2_isPipe rfl rfl rfl (by decide +kernel) ⟨Nat.le_of_ble_eq_true rfl, Nat.le_of_ble_eq_true rfl⟩) (k := 55) (ci := 2) (by omega) (fun ct hA => hA.1) rfl rfl rfl hl.1 (rest := []) rfl (Nat.le_of_ble_eq_true rfl) ⟨Nat.le_of_ble_eq_true rfl, Nat.le_of_ble_eq_true rfl⟩ dX2_pipe_7 (fun r u H locs hp h => ?_)
  rcases q_bool _ hp with ⟨hc2, rfl, hu9⟩ | ⟨hc2, rfl, hu9⟩
  · rw [hu9] at h
    refine lv_if_eq (tgt := 32) hx hb dX2_pipe_10 (by decide) (fun q9 => absurd q9 (by decide)) (fun _ => ?_)
    refine lv_iload_n hx hb dX2_pipe_13 rfl (lv_at hl 2 rfl) ?_
    refine lv_iconst (v := 0) hx hb dX2_pipe_14 (by decide) ?_
    refine lv_bipush (v := 8) hx hb dX2_pipe_15 (by decide) ?_
    refine S_callSi C0 hK h (c_X2_isIn l z (uh M 0) y 0 8) (va_cwS 3 hts gX2_pipe_X2_isIn rfl rfl rfl (by decide +kernel) ⟨Nat.le_of_ble_eq_true rfl, Nat.le_of_ble_eq_true rfl⟩) rfl hl.1 (rest := []) rfl (Nat.le_of_ble_eq_true rfl) ⟨Nat.le_of_ble_eq_true rfl, Nat.le_of_ble_eq_true rfl⟩ dX2_pipe_17 (fun r u H locs hp h => ?_)
    rcases q_bool _ hp with ⟨hc3, rfl, hu9⟩ | ⟨hc3, rfl, hu9⟩
    · rw [hu9] at h
      refine lv_if_eq (tgt := 32) hx hb dX2_pipe_20 (by decide) (fun q9 => absurd q9 (by decide)) (fun _ => ?_)
      exact absurd ⟨hc2, hc3⟩ hno
    · rw [hu9] at h
      refine lv_if_eq (tgt := 32) hx hb dX2_pipe_20 (by decide) (fun _ => ?_) (fun q9 => absurd (by decide) q9)
      refine lv_aload_n hx hb dX2_pipe_32 rfl (lv_at hl 0 rfl) ?_
      refine lv_iconst (v := 1) hx hb dX2_pipe_33 (by decide) ?_
      refine S_callVi C0 hK h (c_X2_fail l z (uh M 0) 1) (cwV 1 hts gX2_pipe_X2_fail rfl rfl rfl (by decide +kernel) ⟨Nat.le_of_ble_eq_true rfl, Nat.le_of_ble_eq_true rfl⟩) (k := 55) (ci := 2) (by omega) (fun ct hA => hA.1) rfl rfl rfl hl.1 (rest := []) rfl (Nat.le_of_ble_eq_true rfl) ⟨Nat.le_of_ble_eq_true rfl, Nat.le_of_ble_eq_true rfl⟩ dX2_pipe_34 (fun r u H locs hp h => ?_)
      obtain ⟨rfl, hp⟩ := hp
      obtain ⟨M4, eM4⟩ : ∃ z9, z9 = uh (uh M 0) 1 := ⟨_, rfl⟩
      rw [hp, ← eM4] at h
      exact G_iret C0 hK h ⟨rfl, by subst eM4; rfl⟩ (Nat.le_of_ble_eq_true rfl) (Nat.le_of_ble_eq_true rfl) dX2_pipe_37
  · rw [hu9] at h
    refine lv_if_eq (tgt := 32) hx hb dX2_pipe_10 (by decide) (fun _ => ?_) (fun q9 => absurd (by decide) q9)
    refine lv_aload_n hx hb dX2_pipe_32 rfl (lv_at hl 0 rfl) ?_
    refine lv_iconst (v := 1) hx hb dX2_pipe_33 (by decide) ?_
    refine S_callVi C0 hK h (c_X2_fail l z (uh M 0) 1) (cwV 1 hts gX2_pipe_X2_fail rfl rfl rfl (by decide +kernel) ⟨Nat.le_of_ble_eq_true rfl, Nat.le_of_ble_eq_true rfl⟩) (k := 55) (ci := 2) (by omega) (fun ct hA => hA.1) rfl rfl rfl hl.1 (rest := []) rfl (Nat.le_of_ble_eq_true rfl) ⟨Nat.le_of_ble_eq_true rfl, Nat.le_of_ble_eq_true rfl⟩ dX2_pipe_34 (fun r u H locs hp h => ?_)
    obtain ⟨rfl, hp⟩ := hp
    obtain ⟨M5, eM5⟩ : ∃ z9, z9 = uh (uh M 0) 1 := ⟨_, rfl⟩
    rw [hp, ← eM5] at h
    exact G_iret C0 hK h ⟨rfl, by subst eM5; rfl⟩ (Nat.le_of_ble_eq_true rfl) (Nat.le_of_ble_eq_true rfl) dX2_pipe_37
set_option maxHeartbeats 4000000 in
set_option maxRecDepth 100000 in
theorem c_X2_counted (l : Launch) (z : QZ) (M : QMs) (hk : MOk M) (n : Nat) (hn9 : n ≤ 8) : GI l yX2_counted wsX2_counted ({ frames := 2, cells := 0, slots := 0, locals := 45 } : Room) z [.ref (za z 55), .int (nI n)] 0 0 (MAt z) 55 59 M (fun r M' => r = mcount M n ∧ M' = M) := by
  intro ct sz hn hq hat
  refine q_entry (lo := 55) (cc := cX2_counted) (maxL := 4) (ret := (some .int)) (by decide) rfl (Nat.le_of_ble_eq_true rfl) hn hq hat ?_
  intro p e s m below meth c ls C0 hK hsz h hl
  subst hsz
  obtain ⟨hx, hb, hr, hml, hown, hts, hlocks⟩ := id C0
  have hin2 : ∀ w ∈ u_ws RX2 TX2 6, w ∈ wsX2_counted := by decide +kernel
  have hl : lv_has ls 4 [(0, .ref (za z 55)), (1, .int (nI n))] := hl
  have hk1 := hk.1
  have hk2 := hk.2.1
  rcases (show n = 0 ∨ n = 1 ∨ n = 2 ∨ n = 3 ∨ n = 4 ∨ n = 5 ∨ n = 6 ∨ n = 7 ∨ n = 8 by omega) with rfl | rfl | rfl | rfl | rfl | rfl | rfl | rfl | rfl
  · refine lv_iconst (v := 0) hx hb dX2_counted_0 (by decide) ?_
    refine lv_istore_n (lv' := [(2, .int 0), (0, .ref (za z 55)), (1, .int (nI 0))]) hx hb dX2_counted_1 rfl hl (by decide) rfl (fun ls hl => ?_)
    refine lv_iload_n hx hb dX2_counted_2 rfl (lv_at hl 2 rfl) ?_
    refine lv_tableIn (off := 45) (tgt := 48) hx hb dX2_counted_3 (by decide +kernel) (by decide +kernel) rfl (by decide) ?_
    refine lv_aload_n hx hb dX2_counted_48 rfl (lv_at hl 1 rfl) ?_
    refine M_g C0 hK h hin2 5 (by decide) (by decide +kernel) rfl dX2_counted_49 ?_
    refine lv_iconst (v := 0) hx hb dX2_counted_52 (by decide) ?_
    refine M_ldY C0 hK h (k := 0) rfl (by omega) dX2_counted_53 ?_
    exact G_iret C0 hK h ⟨rfl, rfl⟩ (Nat.le_of_ble_eq_true rfl) (Nat.le_of_ble_eq_true rfl) dX2_counted_54
  · refine lv_iconst (v := 0) hx hb dX2_counted_0 (by decide) ?_
    refine lv_istore_n (lv' := [(2, .int 0), (0, .ref (za z 55)), (1, .int (nI 1))]) hx hb dX2_counted_1 rfl hl (by decide) rfl (fun ls hl => ?_)
    refine lv_iload_n hx hb dX2_counted_2 rfl (lv_at hl 2 rfl) ?_
    refine lv_tableIn (off := 52) (tgt := 55) hx hb dX2_counted_3 (by decide +kernel) (by decide +kernel) rfl (by decide) ?_
    refine lv_aload_n hx hb dX2_counted_55 rfl (lv_at hl 1 rfl) ?_
    refine M_g C0 hK h hin2 1 (by decide) (by decide +kernel) rfl dX2_counted_56 ?_
    exact G_iret C0 hK h ⟨rfl, rfl⟩ (Nat.le_of_ble_eq_true rfl) (Nat.le_of_ble_eq_true rfl) dX2_counted_59
  · refine lv_iconst (v := 0) hx hb dX2_counted_0 (by decide) ?_
    refine lv_istore_n (lv' := [(2, .int 0), (0, .ref (za z 55)), (1, .int (nI 2))]) hx hb dX2_counted_1 rfl hl (by decide) rfl (fun ls hl => ?_)
    refine lv_iload_n hx hb dX2_counted_2 rfl (lv_at hl 2 rfl) ?_
    refine lv_tableIn (off := 57) (tgt := 60) hx hb dX2_counted_3 (by decide +kernel) (by decide +kernel) rfl (by decide) ?_
    refine lv_aload_n hx hb dX2_counted_60 rfl (lv_at hl 1 rfl) ?_
    refine M_g C0 hK h hin2 2 (by decide) (by decide +kernel) rfl dX2_counted_61 ?_
    exact G_iret C0 hK h ⟨rfl, rfl⟩ (Nat.le_of_ble_eq_true rfl) (Nat.le_of_ble_eq_true rfl) dX2_counted_64
  · refine lv_iconst (v := 0) hx hb dX2_counted_0 (by decide) ?_
    refine lv_istore_n (lv' := [(2, .int 0), (0, .ref (za z 55)), (1, .int (nI 3))]) hx hb dX2_counted_1 rfl hl (by decide) rfl (fun ls hl => ?_)
    refine lv_iload_n hx hb dX2_counted_2 rfl (lv_at hl 2 rfl) ?_
    refine lv_tableIn (off := 62) (tgt := 65) hx hb dX2_counted_3 (by decide +kernel) (by decide +kernel) rfl (by decide) ?_
    refine lv_aload_n hx hb dX2_counted_65 rfl (lv_at hl 1 rfl) ?_
    refine lv_iconst (v := 3) hx hb dX2_counted_66 (by decide) ?_
    refine S_callVi C0 hK h (c_X2_all l z M hk 3 (by decide)) (cwV 1 hts gX2_counted_X2_all rfl rfl rfl (by decide +kernel) ⟨Nat.le_of_ble_eq_true rfl, Nat.le_of_ble_eq_true rfl⟩) (k := 55) (ci := 2) (by omega) (fun ct hA => hA.1) rfl rfl rfl hl.1 (rest := []) rfl (Nat.le_of_ble_eq_true rfl) ⟨Nat.le_of_ble_eq_true rfl, Nat.le_of_ble_eq_true rfl⟩ dX2_counted_67 (fun r u H locs hp h => ?_)
    obtain ⟨rfl, hu9⟩ := hp
    rw [hu9] at h
    exact G_iret C0 hK h ⟨rfl, rfl⟩ (Nat.le_of_ble_eq_true rfl) (Nat.le_of_ble_eq_true rfl) dX2_counted_70
  · refine lv_iconst (v := 0) hx hb dX2_counted_0 (by decide) ?_
    refine lv_istore_n (lv' := [(2, .int 0), (0, .ref (za z 55)), (1, .int (nI 4))]) hx hb dX2_counted_1 rfl hl (by decide) rfl (fun ls hl => ?_)
    refine lv_iload_n hx hb dX2_counted_2 rfl (lv_at hl 2 rfl) ?_
    refine lv_tableIn (off := 68) (tgt := 71) hx hb dX2_counted_3 (by decide +kernel) (by decide +kernel) rfl (by decide) ?_
    refine lv_aload_n hx hb dX2_counted_71 rfl (lv_at hl 1 rfl) ?_
    refine lv_iconst (v := 4) hx hb dX2_counted_72 (by decide) ?_
    refine S_callVi C0 hK h (c_X2_all l z M hk 4 (by decide)) (cwV 1 hts gX2_counted_X2_all rfl rfl rfl (by decide +kernel) ⟨Nat.le_of_ble_eq_true rfl, Nat.le_of_ble_eq_true rfl⟩) (k := 55) (ci := 2) (by omega) (fun ct hA => hA.1) rfl rfl rfl hl.1 (rest := []) rfl (Nat.le_of_ble_eq_true rfl) ⟨Nat.le_of_ble_eq_true rfl, Nat.le_of_ble_eq_true rfl⟩ dX2_counted_73 (fun r u H locs hp h => ?_)
    obtain ⟨rfl, hu9⟩ := hp
    rw [hu9] at h
    exact G_iret C0 hK h ⟨rfl, rfl⟩ (Nat.le_of_ble_eq_true rfl) (Nat.le_of_ble_eq_true rfl) dX2_counted_76
  · refine lv_iconst (v := 0) hx hb dX2_counted_0 (by decide) ?_
    refine lv_istore_n (lv' := [(2, .int 0), (0, .ref (za z 55)), (1, .int (nI 5))]) hx hb dX2_counted_1 rfl hl (by decide) rfl (fun ls hl => ?_)
    refine lv_iload_n hx hb dX2_counted_2 rfl (lv_at hl 2 rfl) ?_
    refine lv_tableIn (off := 74) (tgt := 77) hx hb dX2_counted_3 (by decide +kernel) (by decide +kernel) rfl (by decide) ?_
    refine lv_aload_n hx hb dX2_counted_77 rfl (lv_at hl 1 rfl) ?_
    refine lv_bipush (v := 6) hx hb dX2_counted_78 (by decide) ?_
    refine S_callVi C0 hK h (c_X2_all l z M hk 6 (by decide)) (cwV 1 hts gX2_counted_X2_all rfl rfl rfl (by decide +kernel) ⟨Nat.le_of_ble_eq_true rfl, Nat.le_of_ble_eq_true rfl⟩) (k := 55) (ci := 2) (by omega) (fun ct hA => hA.1) rfl rfl rfl hl.1 (rest := []) rfl (Nat.le_of_ble_eq_true rfl) ⟨Nat.le_of_ble_eq_true rfl, Nat.le_of_ble_eq_true rfl⟩ dX2_counted_80 (fun r u H locs hp h => ?_)
    obtain ⟨rfl, hu9⟩ := hp
    rw [hu9] at h
    exact G_iret C0 hK h ⟨rfl, rfl⟩ (Nat.le_of_ble_eq_true rfl) (Nat.le_of_ble_eq_true rfl) dX2_counted_83
  · refine lv_iconst (v := 0) hx hb dX2_counted_0 (by decide) ?_
    refine lv_istore_n (lv' := [(2, .int 0), (0, .ref (za z 55)), (1, .int (nI 6))]) hx hb dX2_counted_1 rfl hl (by decide) rfl (fun ls hl => ?_)
    refine lv_iload_n hx hb dX2_counted_2 rfl (lv_at hl 2 rfl) ?_
    refine lv_tableIn (off := 81) (tgt := 84) hx hb dX2_counted_3 (by decide +kernel) (by decide +kernel) rfl (by decide) ?_
    refine lv_aload_n hx hb dX2_counted_84 rfl (lv_at hl 1 rfl) ?_
    refine lv_bipush (v := 7) hx hb dX2_counted_85 (by decide) ?_
    refine S_callVi C0 hK h (c_X2_allPipes l z M hk 7 (by decide)) (cwV 1 hts gX2_counted_X2_allPipes rfl rfl rfl (by decide +kernel) ⟨Nat.le_of_ble_eq_true rfl, Nat.le_of_ble_eq_true rfl⟩) (k := 55) (ci := 2) (by omega) (fun ct hA => hA.1) rfl rfl rfl hl.1 (rest := []) rfl (Nat.le_of_ble_eq_true rfl) ⟨Nat.le_of_ble_eq_true rfl, Nat.le_of_ble_eq_true rfl⟩ dX2_counted_87 (fun r u H locs hp h => ?_)
    obtain ⟨rfl, hu9⟩ := hp
    rw [hu9] at h
    exact G_iret C0 hK h ⟨rfl, rfl⟩ (Nat.le_of_ble_eq_true rfl) (Nat.le_of_ble_eq_true rfl) dX2_counted_90
  · refine lv_iconst (v := 0) hx hb dX2_counted_0 (by decide) ?_
    refine lv_istore_n (lv' := [(2, .int 0), (0, .ref (za z 55)), (1, .int (nI 7))]) hx hb dX2_counted_1 rfl hl (by decide) rfl (fun ls hl => ?_)
    refine lv_iload_n hx hb dX2_counted_2 rfl (lv_at hl 2 rfl) ?_
    refine lv_tableIn (off := 88) (tgt := 91) hx hb dX2_counted_3 (by decide +kernel) (by decide +kernel) rfl (by decide) ?_
    refine lv_aload_n hx hb dX2_counted_91 rfl (lv_at hl 1 rfl) ?_
    refine lv_bipush (v := 7) hx hb dX2_counted_92 (by decide) ?_
    refine S_callVi C0 hK h (c_X2_all l z M hk 7 (by decide)) (cwV 1 hts gX2_counted_X2_all rfl rfl rfl (by decide +kernel) ⟨Nat.le_of_ble_eq_true rfl, Nat.le_of_ble_eq_true rfl⟩) (k := 55) (ci := 2) (by omega) (fun ct hA => hA.1) rfl rfl rfl hl.1 (rest := []) rfl (Nat.le_of_ble_eq_true rfl) ⟨Nat.le_of_ble_eq_true rfl, Nat.le_of_ble_eq_true rfl⟩ dX2_counted_94 (fun r u H locs hp h => ?_)
    obtain ⟨rfl, hu9⟩ := hp
    rw [hu9] at h
    exact G_iret C0 hK h ⟨rfl, rfl⟩ (Nat.le_of_ble_eq_true rfl) (Nat.le_of_ble_eq_true rfl) dX2_counted_97
  · have L100 : ∀ (d i : Nat), i + d = mt_ M → ∀ (H : Heap) (locs : List Loc) (ls : Array Slot), GW z (MAt z) 55 59 s.heap ct M H locs → lv_has ls 4 [(3, .int (nI i)), (2, .int (mthc M i)), (0, .ref (za z 55)), (1, .int (nI 8))] → W p l e ({ frames := 2, cells := 0, slots := 0, locals := 45 } : Room) s m [.ref (za z 55), .int (nI 8)].toArray below meth c H locs 0 0 (EI z (MAt z) 55 59 ct s below [.ref (za z 55), .int (nI 8)] 0 0 (fun r M' => r = mcount M 8 ∧ M' = M)) (F0 m 100 ls []) := by
      intro  d
      induction d with
      | zero =>
        intro i hdi H locs ls h hl
        have hEi : i = mt_ M := by omega
        refine lv_iload_n hx hb dX2_counted_100 rfl (lv_at hl 0 rfl) ?_
        refine lv_aload_n hx hb dX2_counted_101 rfl (lv_at hl 2 rfl) ?_
        refine M_g C0 hK h hin2 1 (by decide) (by decide +kernel) rfl dX2_counted_102 ?_
        refine lv_icmp_ge (tgt := 137) hx hb dX2_counted_105 (by decide) (fun _ => ?_) (fun q9 => absurd (nI_le (by omega) (by omega)) q9)
        refine lv_iload_n hx hb dX2_counted_137 rfl (lv_at hl 1 rfl) ?_
        exact G_iret C0 hK h ⟨by rw [hEi]; rfl, rfl⟩ (Nat.le_of_ble_eq_true rfl) (Nat.le_of_ble_eq_true rfl) dX2_counted_138
      | succ d ihL100 =>
        intro i hdi H locs ls h hl
        have hEi : i < mt_ M := by omega
        refine lv_iload_n hx hb dX2_counted_100 rfl (lv_at hl 0 rfl) ?_
        refine lv_aload_n hx hb dX2_counted_101 rfl (lv_at hl 2 rfl) ?_
        refine M_g C0 hK h hin2 1 (by decide) (by decide +kernel) rfl dX2_counted_102 ?_
        refine lv_icmp_ge (tgt := 137) hx hb dX2_counted_105 (by decide) (fun q9 => absurd q9 (nI_ge (by omega) (by omega))) (fun _ => ?_)
        refine lv_iload_n hx hb dX2_counted_108 rfl (lv_at hl 1 rfl) ?_
        refine lv_aload_n hx hb dX2_counted_109 rfl (lv_at hl 2 rfl) ?_
        refine lv_iload_n hx hb dX2_counted_110 rfl (lv_at hl 0 rfl) ?_
        refine lv_iconst (v := 5) hx hb dX2_counted_111 (by decide) ?_
        refine S_callVi C0 hK h (c_X2_la l z M i (by omega) 5 (by omega)) (cwV 2 hts gX2_counted_X2_la rfl rfl rfl (by decide +kernel) ⟨Nat.le_of_ble_eq_true rfl, Nat.le_of_ble_eq_true rfl⟩) (k := 55) (ci := 2) (by omega) (fun ct hA => hA.1) rfl rfl rfl hl.1 (rest := [.int (mthc M i)]) rfl (Nat.le_of_ble_eq_true rfl) ⟨Nat.le_of_ble_eq_true rfl, Nat.le_of_ble_eq_true rfl⟩ dX2_counted_112 (fun r u H locs hp h => ?_)
        obtain ⟨rfl, hu9⟩ := hp
        rw [hu9] at h
        refine lv_aload_n hx hb dX2_counted_115 rfl (lv_at hl 2 rfl) ?_
        refine lv_iload_n hx hb dX2_counted_116 rfl (lv_at hl 0 rfl) ?_
        refine lv_iconst (v := 2) hx hb dX2_counted_117 (by decide) ?_
        refine S_callVi C0 hK h (c_X2_la l z M i (by omega) 2 (by omega)) (cwV 2 hts gX2_counted_X2_la rfl rfl rfl (by decide +kernel) ⟨Nat.le_of_ble_eq_true rfl, Nat.le_of_ble_eq_true rfl⟩) (k := 55) (ci := 2) (by omega) (fun ct hA => hA.1) rfl rfl rfl hl.1 (rest := [.int (mA M (8 * i + 5)), .int (mthc M i)]) rfl (Nat.le_of_ble_eq_true rfl) ⟨Nat.le_of_ble_eq_true rfl, Nat.le_of_ble_eq_true rfl⟩ dX2_counted_118 (fun r u H locs hp h => ?_)
        obtain ⟨rfl, hu9⟩ := hp
        rw [hu9] at h
        refine lv_icmp_ge (tgt := 128) hx hb dX2_counted_121 (by decide) (fun c_121 => ?_) (fun c_121 => ?_)
        · refine lv_iconst (v := 0) hx hb dX2_counted_128 (by decide) ?_
          refine lv_iadd hx hb dX2_counted_129 ?_
          refine lv_istore_n (lv' := [(2, .int ((mthc M i) + 0)), (3, .int (nI i)), (0, .ref (za z 55)), (1, .int (nI 8))]) hx hb dX2_counted_130 rfl hl (by decide) rfl (fun ls hl => ?_)
          refine lv_iinc (v := nI (i + 1)) (lv' := [(3, .int (nI (i + 1))), (2, .int ((mthc M i) + 0)), (0, .ref (za z 55)), (1, .int (nI 8))]) hx hb dX2_counted_131 hl (k := 1) rfl (q_inc i 1) (by decide) rfl (fun ls hl => ?_)
          refine lv_goto (tgt := 100) hx hb dX2_counted_134 (by decide) ?_
          have e9 : mthc M (i + 1) = mthc M i + 0 := by simp only [mthc, if_neg (Int32.not_lt.mpr c_121)]
          rw [← e9] at hl
          exact ihL100 (i + 1) (by omega) _ _ _ h (lv_sub hl [0, 1, 2, 3] rfl)
        · refine lv_iconst (v := 1) hx hb dX2_counted_124 (by decide) ?_
          refine lv_goto (tgt := 129) hx hb dX2_counted_125 (by decide) ?_
          refine lv_iadd hx hb dX2_counted_129 ?_
          refine lv_istore_n (lv' := [(2, .int ((mthc M i) + 1)), (3, .int (nI i)), (0, .ref (za z 55)), (1, .int (nI 8))]) hx hb dX2_counted_130 rfl hl (by decide) rfl (fun ls hl => ?_)
          refine lv_iinc (v := nI (i + 1)) (lv' := [(3, .int (nI (i + 1))), (2, .int ((mthc M i) + 1)), (0, .ref (za z 55)), (1, .int (nI 8))]) hx hb dX2_counted_131 hl (k := 1) rfl (q_inc i 1) (by decide) rfl (fun ls hl => ?_)
          refine lv_goto (tgt := 100) hx hb dX2_counted_134 (by decide) ?_
          have e9 : mthc M (i + 1) = mthc M i + 1 := by simp only [mthc, if_pos (Int32.not_le.mp c_121)]
          rw [← e9] at hl
          exact ihL100 (i + 1) (by omega) _ _ _ h (lv_sub hl [0, 1, 2, 3] rfl)
    refine lv_iconst (v := 0) hx hb dX2_counted_0 (by decide) ?_
    refine lv_istore_n (lv' := [(2, .int 0), (0, .ref (za z 55)), (1, .int (nI 8))]) hx hb dX2_counted_1 rfl hl (by decide) rfl (fun ls hl => ?_)
    refine lv_iload_n hx hb dX2_counted_2 rfl (lv_at hl 2 rfl) ?_
    refine lv_tableOut (tgt := 98) hx hb dX2_counted_3 (by decide +kernel) (by decide) ?_
    refine lv_iconst (v := 0) hx hb dX2_counted_98 (by decide) ?_
    refine lv_istore_n (lv' := [(3, .int 0), (2, .int 0), (0, .ref (za z 55)), (1, .int (nI 8))]) hx hb dX2_counted_99 rfl hl (by decide) rfl (fun ls hl => ?_)
    exact L100 (mt_ M) 0 (by omega) _ _ _ h (lv_sub hl [0, 1, 2, 3] rfl)
set_option maxHeartbeats 4000000 in
set_option maxRecDepth 100000 in
theorem c_X2_count_ok (l : Launch) (z : QZ) (M : QMs) (hk : MOk M) (k : Nat) (hk9 : k ≤ 8) : GI l yX2_count wsX2_count ({ frames := 3, cells := 0, slots := 0, locals := 68 } : Room) z [.ref (za z 55), .int (nI k)] 0 0 (MAt z) 55 59 M (fun r M' => r = mcount M k ∧ M' = uh M 0) := by
  intro ct sz hn hq hat
  refine q_entry (lo := 55) (cc := cX2_count) (maxL := 2) (ret := (some .int)) (by decide) rfl (Nat.le_of_ble_eq_true rfl) hn hq hat ?_
  intro p e s m below meth c ls C0 hK hsz h hl
  subst hsz
  obtain ⟨hx, hb, hr, hml, hown, hts, hlocks⟩ := id C0
  have hin2 : ∀ w ∈ u_ws RX2 TX2 6, w ∈ wsX2_count := by decide +kernel
  have hl : lv_has ls 2 [(0, .ref (za z 55)), (1, .int (nI k))] := hl
  refine lv_aload_n hx hb dX2_count_0 rfl (lv_at hl 0 rfl) ?_
  refine lv_iconst (v := 0) hx hb dX2_count_1 (by decide) ?_
  refine N_ph C0 hK h hin2 (by decide +kernel) dX2_count_2 (fun H locs M1 eM1 h => ?_)
  subst eM1
  refine lv_iload_n hx hb dX2_count_5 rfl (lv_at hl 1 rfl) ?_
  refine lv_iconst (v := 0) hx hb dX2_count_6 (by decide) ?_
  refine lv_bipush (v := 8) hx hb dX2_count_7 (by decide) ?_
  refine S_callSi C0 hK h (c_X2_isIn l z (uh M 0) (nI k) 0 8) (va_cwS 3 hts gX2_count_X2_isIn rfl rfl rfl (by decide +kernel) ⟨Nat.le_of_ble_eq_true rfl, Nat.le_of_ble_eq_true rfl⟩) rfl hl.1 (rest := []) rfl (Nat.le_of_ble_eq_true rfl) ⟨Nat.le_of_ble_eq_true rfl, Nat.le_of_ble_eq_true rfl⟩ dX2_count_9 (fun r u H locs hp h => ?_)
  obtain ⟨hr9, hu9⟩ := hp
  have hr9 := hr9.trans (if_pos (q_rng (k := k) 0 8 rfl rfl))
  subst hr9
  rw [hu9] at h
  refine lv_if_eq (tgt := 23) hx hb dX2_count_12 (by decide) (fun q9 => absurd q9 (by decide)) (fun _ => ?_)
  refine lv_aload_n hx hb dX2_count_15 rfl (lv_at hl 0 rfl) ?_
  refine lv_iload_n hx hb dX2_count_16 rfl (lv_at hl 1 rfl) ?_
  refine S_callVi C0 hK h (c_X2_counted l z (uh M 0) hk k (by omega)) (cwV 1 hts gX2_count_X2_counted rfl rfl rfl (by decide +kernel) ⟨Nat.le_of_ble_eq_true rfl, Nat.le_of_ble_eq_true rfl⟩) (k := 55) (ci := 2) (by omega) (fun ct hA => hA.1) rfl rfl rfl hl.1 (rest := []) rfl (Nat.le_of_ble_eq_true rfl) ⟨Nat.le_of_ble_eq_true rfl, Nat.le_of_ble_eq_true rfl⟩ dX2_count_17 (fun r u H locs hp h => ?_)
  obtain ⟨rfl, hu9⟩ := hp
  rw [hu9] at h
  refine lv_goto (tgt := 28) hx hb dX2_count_20 (by decide) ?_
  exact G_iret C0 hK h ⟨mcount_uh M 0 k, rfl⟩ (Nat.le_of_ble_eq_true rfl) (Nat.le_of_ble_eq_true rfl) dX2_count_28
set_option maxHeartbeats 4000000 in
set_option maxRecDepth 100000 in
theorem c_X2_count_no (l : Launch) (z : QZ) (M : QMs) (hk : MOk M) (x : Int32) (hno : ¬ (0 ≤ x ∧ x ≤ 8)) : GI l yX2_count wsX2_count ({ frames := 1, cells := 0, slots := 0, locals := 22 } : Room) z [.ref (za z 55), .int x] 0 0 (MAt z) 55 59 M (fun r M' => r = 0 ∧ M' = uh M 1) := by
  intro ct sz hn hq hat
  refine q_entry (lo := 55) (cc := cX2_count) (maxL := 2) (ret := (some .int)) (by decide) rfl (Nat.le_of_ble_eq_true rfl) hn hq hat ?_
  intro p e s m below meth c ls C0 hK hsz h hl
  subst hsz
  obtain ⟨hx, hb, hr, hml, hown, hts, hlocks⟩ := id C0
  have hin2 : ∀ w ∈ u_ws RX2 TX2 6, w ∈ wsX2_count := by decide +kernel
  have hl : lv_has ls 2 [(0, .ref (za z 55)), (1, .int x)] := hl
  refine lv_aload_n hx hb dX2_count_0 rfl (lv_at hl 0 rfl) ?_
  refine lv_iconst (v := 0) hx hb dX2_count_1 (by decide) ?_
  refine N_ph C0 hK h hin2 (by decide +kernel) dX2_count_2 (fun H locs M1 eM1 h => ?_)
  subst eM1
  refine lv_iload_n hx hb dX2_count_5 rfl (lv_at hl 1 rfl) ?_
  refine lv_iconst (v := 0) hx hb dX2_count_6 (by decide) ?_
  refine lv_bipush (v := 8) hx hb dX2_count_7 (by decide) ?_
  refine S_callSi C0 hK h (c_X2_isIn l z (uh M 0) x 0 8) (va_cwS 3 hts gX2_count_X2_isIn rfl rfl rfl (by decide +kernel) ⟨Nat.le_of_ble_eq_true rfl, Nat.le_of_ble_eq_true rfl⟩) rfl hl.1 (rest := []) rfl (Nat.le_of_ble_eq_true rfl) ⟨Nat.le_of_ble_eq_true rfl, Nat.le_of_ble_eq_true rfl⟩ dX2_count_9 (fun r u H locs hp h => ?_)
  rcases q_bool _ hp with ⟨hc2, rfl, hu9⟩ | ⟨hc2, rfl, hu9⟩
  · rw [hu9] at h
    refine lv_if_eq (tgt := 23) hx hb dX2_count_12 (by decide) (fun q9 => absurd q9 (by decide)) (fun _ => ?_)
    exact absurd hc2 hno
  · rw [hu9] at h
    refine lv_if_eq (tgt := 23) hx hb dX2_count_12 (by decide) (fun _ => ?_) (fun q9 => absurd (by decide) q9)
    refine lv_aload_n hx hb dX2_count_23 rfl (lv_at hl 0 rfl) ?_
    refine lv_iconst (v := 1) hx hb dX2_count_24 (by decide) ?_
    refine S_callVi C0 hK h (c_X2_fail l z (uh M 0) 1) (cwV 1 hts gX2_count_X2_fail rfl rfl rfl (by decide +kernel) ⟨Nat.le_of_ble_eq_true rfl, Nat.le_of_ble_eq_true rfl⟩) (k := 55) (ci := 2) (by omega) (fun ct hA => hA.1) rfl rfl rfl hl.1 (rest := []) rfl (Nat.le_of_ble_eq_true rfl) ⟨Nat.le_of_ble_eq_true rfl, Nat.le_of_ble_eq_true rfl⟩ dX2_count_25 (fun r u H locs hp h => ?_)
    obtain ⟨rfl, hp⟩ := hp
    obtain ⟨M3, eM3⟩ : ∃ z9, z9 = uh (uh M 0) 1 := ⟨_, rfl⟩
    rw [hp, ← eM3] at h
    exact G_iret C0 hK h ⟨rfl, by subst eM3; rfl⟩ (Nat.le_of_ble_eq_true rfl) (Nat.le_of_ble_eq_true rfl) dX2_count_28
set_option maxHeartbeats 4000000 in
set_option maxRecDepth 100000 in
theorem c_X2_set_ok (l : Launch) (z : QZ) (M : QMs) (hk : MOk M) (i : Nat) (hi : i < mt_ M) (x y : Int32) (hx9 : 0 ≤ x ∧ x ≤ 20) (hy9 : 0 ≤ y ∧ y ≤ 20) : GI l yX2_set wsX2_set ({ frames := 2, cells := 0, slots := 0, locals := 43 } : Room) z [.ref (za z 55), .int (nI i), .int x, .int y] 0 0 (MAt z) 55 59 M (fun r M' => r = 100 * mA M (8 * i + 1) + mA M (8 * i + 2) ∧ M' = mSetT (mSetT (uh M 0) i 1 x) i 2 y) := by
  intro ct sz hn hq hat
  refine q_entry (lo := 55) (cc := cX2_set) (maxL := 5) (ret := (some .int)) (by decide) rfl (Nat.le_of_ble_eq_true rfl) hn hq hat ?_
  intro p e s m below meth c ls C0 hK hsz h hl
  subst hsz
  obtain ⟨hx, hb, hr, hml, hown, hts, hlocks⟩ := id C0
  have hin2 : ∀ w ∈ u_ws RX2 TX2 6, w ∈ wsX2_set := by decide +kernel
  have hl : lv_has ls 5 [(0, .ref (za z 55)), (1, .int (nI i)), (2, .int x), (3, .int y)] := hl
  have hk1 := hk.1
  have hk2 := hk.2.1
  refine lv_aload_n hx hb dX2_set_0 rfl (lv_at hl 0 rfl) ?_
  refine lv_iconst (v := 0) hx hb dX2_set_1 (by decide) ?_
  refine N_ph C0 hK h hin2 (by decide +kernel) dX2_set_2 (fun H locs M1 eM1 h => ?_)
  subst eM1
  refine lv_aload_n hx hb dX2_set_5 rfl (lv_at hl 0 rfl) ?_
  refine lv_iload_n hx hb dX2_set_6 rfl (lv_at hl 1 rfl) ?_
  refine S_callVi C0 hK h (c_X2_isTank l z (uh M 0) (nI i) hk) (cwV 1 hts gX2_set_X2_isTank rfl rfl rfl (by decide +kernel) ⟨Nat.le_of_ble_eq_true rfl, Nat.le_of_ble_eq_true rfl⟩) (k := 55) (ci := 2) (by omega) (fun ct hA => hA.1) rfl rfl rfl hl.1 (rest := []) rfl (Nat.le_of_ble_eq_true rfl) ⟨Nat.le_of_ble_eq_true rfl, Nat.le_of_ble_eq_true rfl⟩ dX2_set_7 (fun r u H locs hp h => ?_)
  obtain ⟨hr9, hu9⟩ := hp
  have hr9 := hr9.trans (if_pos (qin_nI (n := mt_ M) (by have := hk.1; have := hk.2.1; omega) hi))
  subst hr9
  rw [hu9] at h
  refine lv_if_ne (tgt := 19) hx hb dX2_set_10 (by decide) (fun _ => ?_) (fun q9 => absurd q9 (by decide))
  refine lv_iload_n hx hb dX2_set_19 rfl (lv_at hl 2 rfl) ?_
  refine lv_iconst (v := 0) hx hb dX2_set_20 (by decide) ?_
  refine lv_bipush (v := 20) hx hb dX2_set_21 (by decide) ?_
  refine S_callSi C0 hK h (c_X2_isIn l z (uh M 0) x 0 20) (va_cwS 3 hts gX2_set_X2_isIn rfl rfl rfl (by decide +kernel) ⟨Nat.le_of_ble_eq_true rfl, Nat.le_of_ble_eq_true rfl⟩) rfl hl.1 (rest := []) rfl (Nat.le_of_ble_eq_true rfl) ⟨Nat.le_of_ble_eq_true rfl, Nat.le_of_ble_eq_true rfl⟩ dX2_set_23 (fun r u H locs hp h => ?_)
  obtain ⟨hr9, hu9⟩ := hp
  have hr9 := hr9.trans (if_pos hx9)
  subst hr9
  rw [hu9] at h
  refine lv_if_eq (tgt := 39) hx hb dX2_set_26 (by decide) (fun q9 => absurd q9 (by decide)) (fun _ => ?_)
  refine lv_iload_n hx hb dX2_set_29 rfl (lv_at hl 3 rfl) ?_
  refine lv_iconst (v := 0) hx hb dX2_set_30 (by decide) ?_
  refine lv_bipush (v := 20) hx hb dX2_set_31 (by decide) ?_
  refine S_callSi C0 hK h (c_X2_isIn l z (uh M 0) y 0 20) (va_cwS 3 hts gX2_set_X2_isIn rfl rfl rfl (by decide +kernel) ⟨Nat.le_of_ble_eq_true rfl, Nat.le_of_ble_eq_true rfl⟩) rfl hl.1 (rest := []) rfl (Nat.le_of_ble_eq_true rfl) ⟨Nat.le_of_ble_eq_true rfl, Nat.le_of_ble_eq_true rfl⟩ dX2_set_33 (fun r u H locs hp h => ?_)
  obtain ⟨hr9, hu9⟩ := hp
  have hr9 := hr9.trans (if_pos hy9)
  subst hr9
  rw [hu9] at h
  refine lv_if_ne (tgt := 45) hx hb dX2_set_36 (by decide) (fun _ => ?_) (fun q9 => absurd q9 (by decide))
  refine lv_bipush (v := 100) hx hb dX2_set_45 (by decide) ?_
  refine lv_aload_n hx hb dX2_set_47 rfl (lv_at hl 0 rfl) ?_
  refine lv_iload_n hx hb dX2_set_48 rfl (lv_at hl 1 rfl) ?_
  refine lv_iconst (v := 1) hx hb dX2_set_49 (by decide) ?_
  refine S_callVi C0 hK h (c_X2_la l z (uh M 0) i (by omega) 1 (by omega)) (cwV 2 hts gX2_set_X2_la rfl rfl rfl (by decide +kernel) ⟨Nat.le_of_ble_eq_true rfl, Nat.le_of_ble_eq_true rfl⟩) (k := 55) (ci := 2) (by omega) (fun ct hA => hA.1) rfl rfl rfl hl.1 (rest := [.int 100]) rfl (Nat.le_of_ble_eq_true rfl) ⟨Nat.le_of_ble_eq_true rfl, Nat.le_of_ble_eq_true rfl⟩ dX2_set_50 (fun r u H locs hp h => ?_)
  obtain ⟨rfl, hu9⟩ := hp
  rw [hu9] at h
  refine lv_imul hx hb dX2_set_53 ?_
  refine lv_aload_n hx hb dX2_set_54 rfl (lv_at hl 0 rfl) ?_
  refine lv_iload_n hx hb dX2_set_55 rfl (lv_at hl 1 rfl) ?_
  refine lv_iconst (v := 2) hx hb dX2_set_56 (by decide) ?_
  refine S_callVi C0 hK h (c_X2_la l z (uh M 0) i (by omega) 2 (by omega)) (cwV 2 hts gX2_set_X2_la rfl rfl rfl (by decide +kernel) ⟨Nat.le_of_ble_eq_true rfl, Nat.le_of_ble_eq_true rfl⟩) (k := 55) (ci := 2) (by omega) (fun ct hA => hA.1) rfl rfl rfl hl.1 (rest := [.int (100 * (mA (uh M 0) (8 * i + 1)))]) rfl (Nat.le_of_ble_eq_true rfl) ⟨Nat.le_of_ble_eq_true rfl, Nat.le_of_ble_eq_true rfl⟩ dX2_set_57 (fun r u H locs hp h => ?_)
  obtain ⟨rfl, hu9⟩ := hp
  rw [hu9] at h
  refine lv_iadd hx hb dX2_set_60 ?_
  refine lv_istore (lv' := [(4, .int ((100 * (mA (uh M 0) (8 * i + 1))) + (mA (uh M 0) (8 * i + 2)))), (0, .ref (za z 55)), (1, .int (nI i)), (2, .int x), (3, .int y)]) hx hb dX2_set_61 hl (by decide) rfl (fun ls hl => ?_)
  refine lv_aload_n hx hb dX2_set_63 rfl (lv_at hl 1 rfl) ?_
  refine lv_iload_n hx hb dX2_set_64 rfl (lv_at hl 2 rfl) ?_
  refine lv_iconst (v := 1) hx hb dX2_set_65 (by decide) ?_
  refine lv_iload_n hx hb dX2_set_66 rfl (lv_at hl 3 rfl) ?_
  refine S_callVv C0 hK h (c_X2_setTank l z (uh M 0) i (by omega) 1 (by omega) x) (cwV 3 hts gX2_set_X2_setTank rfl rfl rfl (by decide +kernel) ⟨Nat.le_of_ble_eq_true rfl, Nat.le_of_ble_eq_true rfl⟩) (k := 55) (ci := 2) (by omega) (fun ct hA => hA.1) rfl rfl rfl hl.1 (rest := []) rfl (Nat.le_of_ble_eq_true rfl) ⟨Nat.le_of_ble_eq_true rfl, Nat.le_of_ble_eq_true rfl⟩ dX2_set_67 (fun u H locs hp h => ?_)
  obtain ⟨M2, eM2⟩ : ∃ z9, z9 = mSetT (uh M 0) i 1 x := ⟨_, rfl⟩
  rw [hp, ← eM2] at h
  refine lv_aload_n hx hb dX2_set_70 rfl (lv_at hl 1 rfl) ?_
  refine lv_iload_n hx hb dX2_set_71 rfl (lv_at hl 2 rfl) ?_
  refine lv_iconst (v := 2) hx hb dX2_set_72 (by decide) ?_
  refine lv_iload_n hx hb dX2_set_73 rfl (lv_at hl 4 rfl) ?_
  refine S_callVv C0 hK h (c_X2_setTank l z M2 i (by omega) 2 (by omega) y) (cwV 3 hts gX2_set_X2_setTank rfl rfl rfl (by decide +kernel) ⟨Nat.le_of_ble_eq_true rfl, Nat.le_of_ble_eq_true rfl⟩) (k := 55) (ci := 2) (by omega) (fun ct hA => hA.1) rfl rfl rfl hl.1 (rest := []) rfl (Nat.le_of_ble_eq_true rfl) ⟨Nat.le_of_ble_eq_true rfl, Nat.le_of_ble_eq_true rfl⟩ dX2_set_74 (fun u H locs hp h => ?_)
  obtain ⟨M3, eM3⟩ : ∃ z9, z9 = mSetT M2 i 2 y := ⟨_, rfl⟩
  rw [hp, ← eM3] at h
  refine lv_iload hx hb dX2_set_77 (lv_at hl 0 rfl) ?_
  exact G_iret C0 hK h ⟨rfl, by subst eM3 eM2; rfl⟩ (Nat.le_of_ble_eq_true rfl) (Nat.le_of_ble_eq_true rfl) dX2_set_79
set_option maxHeartbeats 4000000 in
set_option maxRecDepth 100000 in
theorem c_X2_set_no (l : Launch) (z : QZ) (M : QMs) (hk : MOk M) (x y v : Int32) (hno : ¬ qin x (mt_ M)) : GI l yX2_set wsX2_set ({ frames := 2, cells := 0, slots := 0, locals := 43 } : Room) z [.ref (za z 55), .int x, .int y, .int v] 0 0 (MAt z) 55 59 M (fun r M' => r = 0 ∧ M' = uh M 1) := by
  intro ct sz hn hq hat
  refine q_entry (lo := 55) (cc := cX2_set) (maxL := 5) (ret := (some .int)) (by decide) rfl (Nat.le_of_ble_eq_true rfl) hn hq hat ?_
  intro p e s m below meth c ls C0 hK hsz h hl
  subst hsz
  obtain ⟨hx, hb, hr, hml, hown, hts, hlocks⟩ := id C0
  have hin2 : ∀ w ∈ u_ws RX2 TX2 6, w ∈ wsX2_set := by decide +kernel
  have hl : lv_has ls 5 [(0, .ref (za z 55)), (1, .int x), (2, .int y), (3, .int v)] := hl
  refine lv_aload_n hx hb dX2_set_0 rfl (lv_at hl 0 rfl) ?_
  refine lv_iconst (v := 0) hx hb dX2_set_1 (by decide) ?_
  refine N_ph C0 hK h hin2 (by decide +kernel) dX2_set_2 (fun H locs M1 eM1 h => ?_)
  subst eM1
  refine lv_aload_n hx hb dX2_set_5 rfl (lv_at hl 0 rfl) ?_
  refine lv_iload_n hx hb dX2_set_6 rfl (lv_at hl 1 rfl) ?_
  refine S_callVi C0 hK h (c_X2_isTank l z (uh M 0) x hk) (cwV 1 hts gX2_set_X2_isTank rfl rfl rfl (by decide +kernel) ⟨Nat.le_of_ble_eq_true rfl, Nat.le_of_ble_eq_true rfl⟩) (k := 55) (ci := 2) (by omega) (fun ct hA => hA.1) rfl rfl rfl hl.1 (rest := []) rfl (Nat.le_of_ble_eq_true rfl) ⟨Nat.le_of_ble_eq_true rfl, Nat.le_of_ble_eq_true rfl⟩ dX2_set_7 (fun r u H locs hp h => ?_)
  obtain ⟨hr9, hu9⟩ := hp
  have hr9 := hr9.trans (if_neg hno)
  subst hr9
  rw [hu9] at h
  refine lv_if_ne (tgt := 19) hx hb dX2_set_10 (by decide) (fun q9 => absurd (by decide) q9) (fun _ => ?_)
  refine lv_aload_n hx hb dX2_set_13 rfl (lv_at hl 0 rfl) ?_
  refine lv_iconst (v := 1) hx hb dX2_set_14 (by decide) ?_
  refine S_callVi C0 hK h (c_X2_fail l z (uh M 0) 1) (cwV 1 hts gX2_set_X2_fail rfl rfl rfl (by decide +kernel) ⟨Nat.le_of_ble_eq_true rfl, Nat.le_of_ble_eq_true rfl⟩) (k := 55) (ci := 2) (by omega) (fun ct hA => hA.1) rfl rfl rfl hl.1 (rest := []) rfl (Nat.le_of_ble_eq_true rfl) ⟨Nat.le_of_ble_eq_true rfl, Nat.le_of_ble_eq_true rfl⟩ dX2_set_15 (fun r u H locs hp h => ?_)
  obtain ⟨rfl, hp⟩ := hp
  obtain ⟨M2, eM2⟩ : ∃ z9, z9 = uh (uh M 0) 1 := ⟨_, rfl⟩
  rw [hp, ← eM2] at h
  exact G_iret C0 hK h ⟨rfl, by subst eM2; rfl⟩ (Nat.le_of_ble_eq_true rfl) (Nat.le_of_ble_eq_true rfl) dX2_set_18
set_option maxHeartbeats 4000000 in
set_option maxRecDepth 100000 in
theorem c_X2_set_no2 (l : Launch) (z : QZ) (M : QMs) (hk : MOk M) (i : Nat) (hi : i < mt_ M) (x y : Int32) (hno : ¬ ((0 ≤ x ∧ x ≤ 20) ∧ (0 ≤ y ∧ y ≤ 20))) : GI l yX2_set wsX2_set ({ frames := 2, cells := 0, slots := 0, locals := 43 } : Room) z [.ref (za z 55), .int (nI i), .int x, .int y] 0 0 (MAt z) 55 59 M (fun r M' => r = 0 ∧ M' = uh M 2) := by
  intro ct sz hn hq hat
  refine q_entry (lo := 55) (cc := cX2_set) (maxL := 5) (ret := (some .int)) (by decide) rfl (Nat.le_of_ble_eq_true rfl) hn hq hat ?_
  intro p e s m below meth c ls C0 hK hsz h hl
  subst hsz
  obtain ⟨hx, hb, hr, hml, hown, hts, hlocks⟩ := id C0
  have hin2 : ∀ w ∈ u_ws RX2 TX2 6, w ∈ wsX2_set := by decide +kernel
  have hl : lv_has ls 5 [(0, .ref (za z 55)), (1, .int (nI i)), (2, .int x), (3, .int y)] := hl
  refine lv_aload_n hx hb dX2_set_0 rfl (lv_at hl 0 rfl) ?_
  refine lv_iconst (v := 0) hx hb dX2_set_1 (by decide) ?_
  refine N_ph C0 hK h hin2 (by decide +kernel) dX2_set_2 (fun H locs M1 eM1 h => ?_)
  subst eM1
  refine lv_aload_n hx hb dX2_set_5 rfl (lv_at hl 0 rfl) ?_
  refine lv_iload_n hx hb dX2_set_6 rfl (lv_at hl 1 rfl) ?_
  refine S_callVi C0 hK h (c_X2_isTank l z (uh M 0) (nI i) hk) (cwV 1 hts gX2_set_X2_isTank rfl rfl rfl (by decide +kernel) ⟨Nat.le_of_ble_eq_true rfl, Nat.le_of_ble_eq_true rfl⟩) (k := 55) (ci := 2) (by omega) (fun ct hA => hA.1) rfl rfl rfl hl.1 (rest := []) rfl (Nat.le_of_ble_eq_true rfl) ⟨Nat.le_of_ble_eq_true rfl, Nat.le_of_ble_eq_true rfl⟩ dX2_set_7 (fun r u H locs hp h => ?_)
  obtain ⟨hr9, hu9⟩ := hp
  have hr9 := hr9.trans (if_pos (qin_nI (n := mt_ M) (by have := hk.1; have := hk.2.1; omega) hi))
  subst hr9
  rw [hu9] at h
  refine lv_if_ne (tgt := 19) hx hb dX2_set_10 (by decide) (fun _ => ?_) (fun q9 => absurd q9 (by decide))
  refine lv_iload_n hx hb dX2_set_19 rfl (lv_at hl 2 rfl) ?_
  refine lv_iconst (v := 0) hx hb dX2_set_20 (by decide) ?_
  refine lv_bipush (v := 20) hx hb dX2_set_21 (by decide) ?_
  refine S_callSi C0 hK h (c_X2_isIn l z (uh M 0) x 0 20) (va_cwS 3 hts gX2_set_X2_isIn rfl rfl rfl (by decide +kernel) ⟨Nat.le_of_ble_eq_true rfl, Nat.le_of_ble_eq_true rfl⟩) rfl hl.1 (rest := []) rfl (Nat.le_of_ble_eq_true rfl) ⟨Nat.le_of_ble_eq_true rfl, Nat.le_of_ble_eq_true rfl⟩ dX2_set_23 (fun r u H locs hp h => ?_)
  rcases q_bool _ hp with ⟨hc2, rfl, hu9⟩ | ⟨hc2, rfl, hu9⟩
  · rw [hu9] at h
    refine lv_if_eq (tgt := 39) hx hb dX2_set_26 (by decide) (fun q9 => absurd q9 (by decide)) (fun _ => ?_)
    refine lv_iload_n hx hb dX2_set_29 rfl (lv_at hl 3 rfl) ?_
    refine lv_iconst (v := 0) hx hb dX2_set_30 (by decide) ?_
    refine lv_bipush (v := 20) hx hb dX2_set_31 (by decide) ?_
    refine S_callSi C0 hK h (c_X2_isIn l z (uh M 0) y 0 20) (va_cwS 3 hts gX2_set_X2_isIn rfl rfl rfl (by decide +kernel) ⟨Nat.le_of_ble_eq_true rfl, Nat.le_of_ble_eq_true rfl⟩) rfl hl.1 (rest := []) rfl (Nat.le_of_ble_eq_true rfl) ⟨Nat.le_of_ble_eq_true rfl, Nat.le_of_ble_eq_true rfl⟩ dX2_set_33 (fun r u H locs hp h => ?_)
    rcases q_bool _ hp with ⟨hc3, rfl, hu9⟩ | ⟨hc3, rfl, hu9⟩
    · rw [hu9] at h
      refine lv_if_ne (tgt := 45) hx hb dX2_set_36 (by decide) (fun _ => ?_) (fun q9 => absurd q9 (by decide))
      exact absurd ⟨hc2, hc3⟩ hno
    · rw [hu9] at h
      refine lv_if_ne (tgt := 45) hx hb dX2_set_36 (by decide) (fun q9 => absurd (by decide) q9) (fun _ => ?_)
      refine lv_aload_n hx hb dX2_set_39 rfl (lv_at hl 0 rfl) ?_
      refine lv_iconst (v := 2) hx hb dX2_set_40 (by decide) ?_
      refine S_callVi C0 hK h (c_X2_fail l z (uh M 0) 2) (cwV 1 hts gX2_set_X2_fail rfl rfl rfl (by decide +kernel) ⟨Nat.le_of_ble_eq_true rfl, Nat.le_of_ble_eq_true rfl⟩) (k := 55) (ci := 2) (by omega) (fun ct hA => hA.1) rfl rfl rfl hl.1 (rest := []) rfl (Nat.le_of_ble_eq_true rfl) ⟨Nat.le_of_ble_eq_true rfl, Nat.le_of_ble_eq_true rfl⟩ dX2_set_41 (fun r u H locs hp h => ?_)
      obtain ⟨rfl, hp⟩ := hp
      obtain ⟨M4, eM4⟩ : ∃ z9, z9 = uh (uh M 0) 2 := ⟨_, rfl⟩
      rw [hp, ← eM4] at h
      exact G_iret C0 hK h ⟨rfl, by subst eM4; rfl⟩ (Nat.le_of_ble_eq_true rfl) (Nat.le_of_ble_eq_true rfl) dX2_set_44
  · rw [hu9] at h
    refine lv_if_eq (tgt := 39) hx hb dX2_set_26 (by decide) (fun _ => ?_) (fun q9 => absurd (by decide) q9)
    refine lv_aload_n hx hb dX2_set_39 rfl (lv_at hl 0 rfl) ?_
    refine lv_iconst (v := 2) hx hb dX2_set_40 (by decide) ?_
    refine S_callVi C0 hK h (c_X2_fail l z (uh M 0) 2) (cwV 1 hts gX2_set_X2_fail rfl rfl rfl (by decide +kernel) ⟨Nat.le_of_ble_eq_true rfl, Nat.le_of_ble_eq_true rfl⟩) (k := 55) (ci := 2) (by omega) (fun ct hA => hA.1) rfl rfl rfl hl.1 (rest := []) rfl (Nat.le_of_ble_eq_true rfl) ⟨Nat.le_of_ble_eq_true rfl, Nat.le_of_ble_eq_true rfl⟩ dX2_set_41 (fun r u H locs hp h => ?_)
    obtain ⟨rfl, hp⟩ := hp
    obtain ⟨M5, eM5⟩ : ∃ z9, z9 = uh (uh M 0) 2 := ⟨_, rfl⟩
    rw [hp, ← eM5] at h
    exact G_iret C0 hK h ⟨rfl, by subst eM5; rfl⟩ (Nat.le_of_ble_eq_true rfl) (Nat.le_of_ble_eq_true rfl) dX2_set_44
set_option maxHeartbeats 4000000 in
set_option maxRecDepth 100000 in
theorem c_X2_flush_ok (l : Launch) (z : QZ) (M : QMs) (hk : MOk M) (i : Nat) (hi : i < mt_ M) : GI l yX2_flush wsX2_flush ({ frames := 2, cells := 0, slots := 0, locals := 43 } : Room) z [.ref (za z 55), .int (nI i)] 0 0 (MAt z) 55 59 M (fun r M' => r = mA M (8 * i + 4) ∧ M' = mSetT (mSetT (uh M 0) i 4 0) i 3 (mA (mSetT (uh M 0) i 4 0) (8 * i + 3) / 2)) := by
  intro ct sz hn hq hat
  refine q_entry (lo := 55) (cc := cX2_flush) (maxL := 3) (ret := (some .int)) (by decide) rfl (Nat.le_of_ble_eq_true rfl) hn hq hat ?_
  intro p e s m below meth c ls C0 hK hsz h hl
  subst hsz
  obtain ⟨hx, hb, hr, hml, hown, hts, hlocks⟩ := id C0
  have hin2 : ∀ w ∈ u_ws RX2 TX2 6, w ∈ wsX2_flush := by decide +kernel
  have hl : lv_has ls 3 [(0, .ref (za z 55)), (1, .int (nI i))] := hl
  have hk1 := hk.1
  have hk2 := hk.2.1
  refine lv_aload_n hx hb dX2_flush_0 rfl (lv_at hl 0 rfl) ?_
  refine lv_iconst (v := 0) hx hb dX2_flush_1 (by decide) ?_
  refine N_ph C0 hK h hin2 (by decide +kernel) dX2_flush_2 (fun H locs M1 eM1 h => ?_)
  subst eM1
  refine lv_aload_n hx hb dX2_flush_5 rfl (lv_at hl 0 rfl) ?_
  refine lv_iload_n hx hb dX2_flush_6 rfl (lv_at hl 1 rfl) ?_
  refine S_callVi C0 hK h (c_X2_isTank l z (uh M 0) (nI i) hk) (cwV 1 hts gX2_flush_X2_isTank rfl rfl rfl (by decide +kernel) ⟨Nat.le_of_ble_eq_true rfl, Nat.le_of_ble_eq_true rfl⟩) (k := 55) (ci := 2) (by omega) (fun ct hA => hA.1) rfl rfl rfl hl.1 (rest := []) rfl (Nat.le_of_ble_eq_true rfl) ⟨Nat.le_of_ble_eq_true rfl, Nat.le_of_ble_eq_true rfl⟩ dX2_flush_7 (fun r u H locs hp h => ?_)
  obtain ⟨hr9, hu9⟩ := hp
  have hr9 := hr9.trans (if_pos (qin_nI (n := mt_ M) (by have := hk.1; have := hk.2.1; omega) hi))
  subst hr9
  rw [hu9] at h
  refine lv_if_ne (tgt := 19) hx hb dX2_flush_10 (by decide) (fun _ => ?_) (fun q9 => absurd q9 (by decide))
  refine lv_aload_n hx hb dX2_flush_19 rfl (lv_at hl 0 rfl) ?_
  refine lv_iload_n hx hb dX2_flush_20 rfl (lv_at hl 1 rfl) ?_
  refine lv_iconst (v := 4) hx hb dX2_flush_21 (by decide) ?_
  refine S_callVi C0 hK h (c_X2_la l z (uh M 0) i (by omega) 4 (by omega)) (cwV 2 hts gX2_flush_X2_la rfl rfl rfl (by decide +kernel) ⟨Nat.le_of_ble_eq_true rfl, Nat.le_of_ble_eq_true rfl⟩) (k := 55) (ci := 2) (by omega) (fun ct hA => hA.1) rfl rfl rfl hl.1 (rest := []) rfl (Nat.le_of_ble_eq_true rfl) ⟨Nat.le_of_ble_eq_true rfl, Nat.le_of_ble_eq_true rfl⟩ dX2_flush_22 (fun r u H locs hp h => ?_)
  obtain ⟨rfl, hu9⟩ := hp
  rw [hu9] at h
  refine lv_istore_n (lv' := [(2, .int (mA (uh M 0) (8 * i + 4))), (0, .ref (za z 55)), (1, .int (nI i))]) hx hb dX2_flush_25 rfl hl (by decide) rfl (fun ls hl => ?_)
  refine lv_aload_n hx hb dX2_flush_26 rfl (lv_at hl 1 rfl) ?_
  refine lv_iload_n hx hb dX2_flush_27 rfl (lv_at hl 2 rfl) ?_
  refine lv_iconst (v := 4) hx hb dX2_flush_28 (by decide) ?_
  refine lv_iconst (v := 0) hx hb dX2_flush_29 (by decide) ?_
  refine S_callVv C0 hK h (c_X2_setTank l z (uh M 0) i (by omega) 4 (by omega) 0) (cwV 3 hts gX2_flush_X2_setTank rfl rfl rfl (by decide +kernel) ⟨Nat.le_of_ble_eq_true rfl, Nat.le_of_ble_eq_true rfl⟩) (k := 55) (ci := 2) (by omega) (fun ct hA => hA.1) rfl rfl rfl hl.1 (rest := []) rfl (Nat.le_of_ble_eq_true rfl) ⟨Nat.le_of_ble_eq_true rfl, Nat.le_of_ble_eq_true rfl⟩ dX2_flush_30 (fun u H locs hp h => ?_)
  obtain ⟨M2, eM2⟩ : ∃ z9, z9 = mSetT (uh M 0) i 4 0 := ⟨_, rfl⟩
  rw [hp, ← eM2] at h
  refine lv_aload_n hx hb dX2_flush_33 rfl (lv_at hl 1 rfl) ?_
  refine lv_iload_n hx hb dX2_flush_34 rfl (lv_at hl 2 rfl) ?_
  refine lv_iconst (v := 3) hx hb dX2_flush_35 (by decide) ?_
  refine lv_aload_n hx hb dX2_flush_36 rfl (lv_at hl 1 rfl) ?_
  refine lv_iload_n hx hb dX2_flush_37 rfl (lv_at hl 2 rfl) ?_
  refine lv_iconst (v := 3) hx hb dX2_flush_38 (by decide) ?_
  refine S_callVi C0 hK h (c_X2_la l z M2 i (by omega) 3 (by omega)) (cwV 2 hts gX2_flush_X2_la rfl rfl rfl (by decide +kernel) ⟨Nat.le_of_ble_eq_true rfl, Nat.le_of_ble_eq_true rfl⟩) (k := 55) (ci := 2) (by omega) (fun ct hA => hA.1) rfl rfl rfl hl.1 (rest := [.int 3, .int (nI i), .ref (za z 55)]) rfl (Nat.le_of_ble_eq_true rfl) ⟨Nat.le_of_ble_eq_true rfl, Nat.le_of_ble_eq_true rfl⟩ dX2_flush_39 (fun r u H locs hp h => ?_)
  obtain ⟨rfl, hu9⟩ := hp
  rw [hu9] at h
  refine lv_iconst (v := 2) hx hb dX2_flush_42 (by decide) ?_
  refine lv_idiv hx hb dX2_flush_43 (by decide) ?_
  refine S_callVv C0 hK h (c_X2_setTank l z M2 i (by omega) 3 (by omega) ((mA M2 (8 * i + 3)) / 2)) (cwV 3 hts gX2_flush_X2_setTank rfl rfl rfl (by decide +kernel) ⟨Nat.le_of_ble_eq_true rfl, Nat.le_of_ble_eq_true rfl⟩) (k := 55) (ci := 2) (by omega) (fun ct hA => hA.1) rfl rfl rfl hl.1 (rest := []) rfl (Nat.le_of_ble_eq_true rfl) ⟨Nat.le_of_ble_eq_true rfl, Nat.le_of_ble_eq_true rfl⟩ dX2_flush_44 (fun u H locs hp h => ?_)
  obtain ⟨M3, eM3⟩ : ∃ z9, z9 = mSetT M2 i 3 ((mA M2 (8 * i + 3)) / 2) := ⟨_, rfl⟩
  rw [hp, ← eM3] at h
  refine lv_iload_n hx hb dX2_flush_47 rfl (lv_at hl 0 rfl) ?_
  exact G_iret C0 hK h ⟨rfl, by subst eM3 eM2; rfl⟩ (Nat.le_of_ble_eq_true rfl) (Nat.le_of_ble_eq_true rfl) dX2_flush_48
set_option maxHeartbeats 4000000 in
set_option maxRecDepth 100000 in
theorem c_X2_flush_no (l : Launch) (z : QZ) (M : QMs) (hk : MOk M) (x : Int32) (hno : ¬ qin x (mt_ M)) : GI l yX2_flush wsX2_flush ({ frames := 2, cells := 0, slots := 0, locals := 43 } : Room) z [.ref (za z 55), .int x] 0 0 (MAt z) 55 59 M (fun r M' => r = 0 ∧ M' = uh M 1) := by
  intro ct sz hn hq hat
  refine q_entry (lo := 55) (cc := cX2_flush) (maxL := 3) (ret := (some .int)) (by decide) rfl (Nat.le_of_ble_eq_true rfl) hn hq hat ?_
  intro p e s m below meth c ls C0 hK hsz h hl
  subst hsz
  obtain ⟨hx, hb, hr, hml, hown, hts, hlocks⟩ := id C0
  have hin2 : ∀ w ∈ u_ws RX2 TX2 6, w ∈ wsX2_flush := by decide +kernel
  have hl : lv_has ls 3 [(0, .ref (za z 55)), (1, .int x)] := hl
  refine lv_aload_n hx hb dX2_flush_0 rfl (lv_at hl 0 rfl) ?_
  refine lv_iconst (v := 0) hx hb dX2_flush_1 (by decide) ?_
  refine N_ph C0 hK h hin2 (by decide +kernel) dX2_flush_2 (fun H locs M1 eM1 h => ?_)
  subst eM1
  refine lv_aload_n hx hb dX2_flush_5 rfl (lv_at hl 0 rfl) ?_
  refine lv_iload_n hx hb dX2_flush_6 rfl (lv_at hl 1 rfl) ?_
  refine S_callVi C0 hK h (c_X2_isTank l z (uh M 0) x hk) (cwV 1 hts gX2_flush_X2_isTank rfl rfl rfl (by decide +kernel) ⟨Nat.le_of_ble_eq_true rfl, Nat.le_of_ble_eq_true rfl⟩) (k := 55) (ci := 2) (by omega) (fun ct hA => hA.1) rfl rfl rfl hl.1 (rest := []) rfl (Nat.le_of_ble_eq_true rfl) ⟨Nat.le_of_ble_eq_true rfl, Nat.le_of_ble_eq_true rfl⟩ dX2_flush_7 (fun r u H locs hp h => ?_)
  obtain ⟨hr9, hu9⟩ := hp
  have hr9 := hr9.trans (if_neg hno)
  subst hr9
  rw [hu9] at h
  refine lv_if_ne (tgt := 19) hx hb dX2_flush_10 (by decide) (fun q9 => absurd (by decide) q9) (fun _ => ?_)
  refine lv_aload_n hx hb dX2_flush_13 rfl (lv_at hl 0 rfl) ?_
  refine lv_iconst (v := 1) hx hb dX2_flush_14 (by decide) ?_
  refine S_callVi C0 hK h (c_X2_fail l z (uh M 0) 1) (cwV 1 hts gX2_flush_X2_fail rfl rfl rfl (by decide +kernel) ⟨Nat.le_of_ble_eq_true rfl, Nat.le_of_ble_eq_true rfl⟩) (k := 55) (ci := 2) (by omega) (fun ct hA => hA.1) rfl rfl rfl hl.1 (rest := []) rfl (Nat.le_of_ble_eq_true rfl) ⟨Nat.le_of_ble_eq_true rfl, Nat.le_of_ble_eq_true rfl⟩ dX2_flush_15 (fun r u H locs hp h => ?_)
  obtain ⟨rfl, hp⟩ := hp
  obtain ⟨M2, eM2⟩ : ∃ z9, z9 = uh (uh M 0) 1 := ⟨_, rfl⟩
  rw [hp, ← eM2] at h
  exact G_iret C0 hK h ⟨rfl, by subst eM2; rfl⟩ (Nat.le_of_ble_eq_true rfl) (Nat.le_of_ble_eq_true rfl) dX2_flush_18
set_option maxHeartbeats 4000000 in
set_option maxRecDepth 100000 in
theorem c_X2_scrape_ok (l : Launch) (z : QZ) (M : QMs) (hk : MOk M) (i : Nat) (hi : i < mp_ M) : GI l yX2_scrape wsX2_scrape ({ frames := 2, cells := 0, slots := 0, locals := 43 } : Room) z [.ref (za z 55), .int (nI i)] 0 0 (MAt z) 55 59 M (fun r M' => r = mB M (9 * i + 4) ∧ M' = mSetP (uh M 0) i 4 0) := by
  intro ct sz hn hq hat
  refine q_entry (lo := 55) (cc := cX2_scrape) (maxL := 3) (ret := (some .int)) (by decide) rfl (Nat.le_of_ble_eq_true rfl) hn hq hat ?_
  intro p e s m below meth c ls C0 hK hsz h hl
  subst hsz
  obtain ⟨hx, hb, hr, hml, hown, hts, hlocks⟩ := id C0
  have hin2 : ∀ w ∈ u_ws RX2 TX2 6, w ∈ wsX2_scrape := by decide +kernel
  have hl : lv_has ls 3 [(0, .ref (za z 55)), (1, .int (nI i))] := hl
  have hk1 := hk.1
  have hk2 := hk.2.1
  refine lv_aload_n hx hb dX2_scrape_0 rfl (lv_at hl 0 rfl) ?_
  refine lv_iconst (v := 0) hx hb dX2_scrape_1 (by decide) ?_
  refine N_ph C0 hK h hin2 (by decide +kernel) dX2_scrape_2 (fun H locs M1 eM1 h => ?_)
  subst eM1
  refine lv_aload_n hx hb dX2_scrape_5 rfl (lv_at hl 0 rfl) ?_
  refine lv_iload_n hx hb dX2_scrape_6 rfl (lv_at hl 1 rfl) ?_
  refine S_callVi C0 hK h (c_X2_isPipe l z (uh M 0) (nI i) hk) (cwV 1 hts gX2_scrape_X2_isPipe rfl rfl rfl (by decide +kernel) ⟨Nat.le_of_ble_eq_true rfl, Nat.le_of_ble_eq_true rfl⟩) (k := 55) (ci := 2) (by omega) (fun ct hA => hA.1) rfl rfl rfl hl.1 (rest := []) rfl (Nat.le_of_ble_eq_true rfl) ⟨Nat.le_of_ble_eq_true rfl, Nat.le_of_ble_eq_true rfl⟩ dX2_scrape_7 (fun r u H locs hp h => ?_)
  obtain ⟨hr9, hu9⟩ := hp
  have hr9 := hr9.trans (if_pos (qin_nI (n := mp_ M) (by have := hk.1; have := hk.2.1; omega) hi))
  subst hr9
  rw [hu9] at h
  refine lv_if_ne (tgt := 19) hx hb dX2_scrape_10 (by decide) (fun _ => ?_) (fun q9 => absurd q9 (by decide))
  refine lv_aload_n hx hb dX2_scrape_19 rfl (lv_at hl 0 rfl) ?_
  refine lv_iload_n hx hb dX2_scrape_20 rfl (lv_at hl 1 rfl) ?_
  refine lv_iconst (v := 4) hx hb dX2_scrape_21 (by decide) ?_
  refine S_callVi C0 hK h (c_X2_li l z (uh M 0) i (by omega) 4 (by omega)) (cwV 2 hts gX2_scrape_X2_li rfl rfl rfl (by decide +kernel) ⟨Nat.le_of_ble_eq_true rfl, Nat.le_of_ble_eq_true rfl⟩) (k := 55) (ci := 2) (by omega) (fun ct hA => hA.1) rfl rfl rfl hl.1 (rest := []) rfl (Nat.le_of_ble_eq_true rfl) ⟨Nat.le_of_ble_eq_true rfl, Nat.le_of_ble_eq_true rfl⟩ dX2_scrape_22 (fun r u H locs hp h => ?_)
  obtain ⟨rfl, hu9⟩ := hp
  rw [hu9] at h
  refine lv_istore_n (lv' := [(2, .int (mB (uh M 0) (9 * i + 4))), (0, .ref (za z 55)), (1, .int (nI i))]) hx hb dX2_scrape_25 rfl hl (by decide) rfl (fun ls hl => ?_)
  refine lv_aload_n hx hb dX2_scrape_26 rfl (lv_at hl 1 rfl) ?_
  refine lv_iload_n hx hb dX2_scrape_27 rfl (lv_at hl 2 rfl) ?_
  refine lv_iconst (v := 4) hx hb dX2_scrape_28 (by decide) ?_
  refine lv_iconst (v := 0) hx hb dX2_scrape_29 (by decide) ?_
  refine S_callVv C0 hK h (c_X2_setPipe l z (uh M 0) i (by omega) 4 (by omega) 0) (cwV 3 hts gX2_scrape_X2_setPipe rfl rfl rfl (by decide +kernel) ⟨Nat.le_of_ble_eq_true rfl, Nat.le_of_ble_eq_true rfl⟩) (k := 55) (ci := 2) (by omega) (fun ct hA => hA.1) rfl rfl rfl hl.1 (rest := []) rfl (Nat.le_of_ble_eq_true rfl) ⟨Nat.le_of_ble_eq_true rfl, Nat.le_of_ble_eq_true rfl⟩ dX2_scrape_30 (fun u H locs hp h => ?_)
  obtain ⟨M2, eM2⟩ : ∃ z9, z9 = mSetP (uh M 0) i 4 0 := ⟨_, rfl⟩
  rw [hp, ← eM2] at h
  refine lv_iload_n hx hb dX2_scrape_33 rfl (lv_at hl 0 rfl) ?_
  exact G_iret C0 hK h ⟨rfl, by subst eM2; rfl⟩ (Nat.le_of_ble_eq_true rfl) (Nat.le_of_ble_eq_true rfl) dX2_scrape_34
set_option maxHeartbeats 4000000 in
set_option maxRecDepth 100000 in
theorem c_X2_scrape_no (l : Launch) (z : QZ) (M : QMs) (hk : MOk M) (x : Int32) (hno : ¬ qin x (mp_ M)) : GI l yX2_scrape wsX2_scrape ({ frames := 2, cells := 0, slots := 0, locals := 43 } : Room) z [.ref (za z 55), .int x] 0 0 (MAt z) 55 59 M (fun r M' => r = 0 ∧ M' = uh M 1) := by
  intro ct sz hn hq hat
  refine q_entry (lo := 55) (cc := cX2_scrape) (maxL := 3) (ret := (some .int)) (by decide) rfl (Nat.le_of_ble_eq_true rfl) hn hq hat ?_
  intro p e s m below meth c ls C0 hK hsz h hl
  subst hsz
  obtain ⟨hx, hb, hr, hml, hown, hts, hlocks⟩ := id C0
  have hin2 : ∀ w ∈ u_ws RX2 TX2 6, w ∈ wsX2_scrape := by decide +kernel
  have hl : lv_has ls 3 [(0, .ref (za z 55)), (1, .int x)] := hl
  refine lv_aload_n hx hb dX2_scrape_0 rfl (lv_at hl 0 rfl) ?_
  refine lv_iconst (v := 0) hx hb dX2_scrape_1 (by decide) ?_
  refine N_ph C0 hK h hin2 (by decide +kernel) dX2_scrape_2 (fun H locs M1 eM1 h => ?_)
  subst eM1
  refine lv_aload_n hx hb dX2_scrape_5 rfl (lv_at hl 0 rfl) ?_
  refine lv_iload_n hx hb dX2_scrape_6 rfl (lv_at hl 1 rfl) ?_
  refine S_callVi C0 hK h (c_X2_isPipe l z (uh M 0) x hk) (cwV 1 hts gX2_scrape_X2_isPipe rfl rfl rfl (by decide +kernel) ⟨Nat.le_of_ble_eq_true rfl, Nat.le_of_ble_eq_true rfl⟩) (k := 55) (ci := 2) (by omega) (fun ct hA => hA.1) rfl rfl rfl hl.1 (rest := []) rfl (Nat.le_of_ble_eq_true rfl) ⟨Nat.le_of_ble_eq_true rfl, Nat.le_of_ble_eq_true rfl⟩ dX2_scrape_7 (fun r u H locs hp h => ?_)
  obtain ⟨hr9, hu9⟩ := hp
  have hr9 := hr9.trans (if_neg hno)
  subst hr9
  rw [hu9] at h
  refine lv_if_ne (tgt := 19) hx hb dX2_scrape_10 (by decide) (fun q9 => absurd (by decide) q9) (fun _ => ?_)
  refine lv_aload_n hx hb dX2_scrape_13 rfl (lv_at hl 0 rfl) ?_
  refine lv_iconst (v := 1) hx hb dX2_scrape_14 (by decide) ?_
  refine S_callVi C0 hK h (c_X2_fail l z (uh M 0) 1) (cwV 1 hts gX2_scrape_X2_fail rfl rfl rfl (by decide +kernel) ⟨Nat.le_of_ble_eq_true rfl, Nat.le_of_ble_eq_true rfl⟩) (k := 55) (ci := 2) (by omega) (fun ct hA => hA.1) rfl rfl rfl hl.1 (rest := []) rfl (Nat.le_of_ble_eq_true rfl) ⟨Nat.le_of_ble_eq_true rfl, Nat.le_of_ble_eq_true rfl⟩ dX2_scrape_15 (fun r u H locs hp h => ?_)
  obtain ⟨rfl, hp⟩ := hp
  obtain ⟨M2, eM2⟩ : ∃ z9, z9 = uh (uh M 0) 1 := ⟨_, rfl⟩
  rw [hp, ← eM2] at h
  exact G_iret C0 hK h ⟨rfl, by subst eM2; rfl⟩ (Nat.le_of_ble_eq_true rfl) (Nat.le_of_ble_eq_true rfl) dX2_scrape_18
set_option maxHeartbeats 4000000 in
set_option maxRecDepth 100000 in
theorem c_X2_steal_ok (l : Launch) (z : QZ) (M : QMs) (hk : MOk M) (i : Nat) (hi : i < mp_ M) (x : Int32) (hx9 : 0 ≤ x ∧ x ≤ 9) : GI l yX2_steal wsX2_steal ({ frames := 2, cells := 0, slots := 0, locals := 43 } : Room) z [.ref (za z 55), .int (nI i), .int x] 0 0 (MAt z) 55 59 M (fun r M' => r = mB M (9 * i + 8) ∧ M' = mSetP (uh M 0) i 8 x) := by
  intro ct sz hn hq hat
  refine q_entry (lo := 55) (cc := cX2_steal) (maxL := 4) (ret := (some .int)) (by decide) rfl (Nat.le_of_ble_eq_true rfl) hn hq hat ?_
  intro p e s m below meth c ls C0 hK hsz h hl
  subst hsz
  obtain ⟨hx, hb, hr, hml, hown, hts, hlocks⟩ := id C0
  have hin2 : ∀ w ∈ u_ws RX2 TX2 6, w ∈ wsX2_steal := by decide +kernel
  have hl : lv_has ls 4 [(0, .ref (za z 55)), (1, .int (nI i)), (2, .int x)] := hl
  have hk1 := hk.1
  have hk2 := hk.2.1
  refine lv_aload_n hx hb dX2_steal_0 rfl (lv_at hl 0 rfl) ?_
  refine lv_iconst (v := 0) hx hb dX2_steal_1 (by decide) ?_
  refine N_ph C0 hK h hin2 (by decide +kernel) dX2_steal_2 (fun H locs M1 eM1 h => ?_)
  subst eM1
  refine lv_aload_n hx hb dX2_steal_5 rfl (lv_at hl 0 rfl) ?_
  refine lv_iload_n hx hb dX2_steal_6 rfl (lv_at hl 1 rfl) ?_
  refine S_callVi C0 hK h (c_X2_isPipe l z (uh M 0) (nI i) hk) (cwV 1 hts gX2_steal_X2_isPipe rfl rfl rfl (by decide +kernel) ⟨Nat.le_of_ble_eq_true rfl, Nat.le_of_ble_eq_true rfl⟩) (k := 55) (ci := 2) (by omega) (fun ct hA => hA.1) rfl rfl rfl hl.1 (rest := []) rfl (Nat.le_of_ble_eq_true rfl) ⟨Nat.le_of_ble_eq_true rfl, Nat.le_of_ble_eq_true rfl⟩ dX2_steal_7 (fun r u H locs hp h => ?_)
  obtain ⟨hr9, hu9⟩ := hp
  have hr9 := hr9.trans (if_pos (qin_nI (n := mp_ M) (by have := hk.1; have := hk.2.1; omega) hi))
  subst hr9
  rw [hu9] at h
  refine lv_if_ne (tgt := 19) hx hb dX2_steal_10 (by decide) (fun _ => ?_) (fun q9 => absurd q9 (by decide))
  refine lv_iload_n hx hb dX2_steal_19 rfl (lv_at hl 2 rfl) ?_
  refine lv_iconst (v := 0) hx hb dX2_steal_20 (by decide) ?_
  refine lv_bipush (v := 9) hx hb dX2_steal_21 (by decide) ?_
  refine S_callSi C0 hK h (c_X2_isIn l z (uh M 0) x 0 9) (va_cwS 3 hts gX2_steal_X2_isIn rfl rfl rfl (by decide +kernel) ⟨Nat.le_of_ble_eq_true rfl, Nat.le_of_ble_eq_true rfl⟩) rfl hl.1 (rest := []) rfl (Nat.le_of_ble_eq_true rfl) ⟨Nat.le_of_ble_eq_true rfl, Nat.le_of_ble_eq_true rfl⟩ dX2_steal_23 (fun r u H locs hp h => ?_)
  obtain ⟨hr9, hu9⟩ := hp
  have hr9 := hr9.trans (if_pos hx9)
  subst hr9
  rw [hu9] at h
  refine lv_if_ne (tgt := 35) hx hb dX2_steal_26 (by decide) (fun _ => ?_) (fun q9 => absurd q9 (by decide))
  refine lv_aload_n hx hb dX2_steal_35 rfl (lv_at hl 0 rfl) ?_
  refine lv_iload_n hx hb dX2_steal_36 rfl (lv_at hl 1 rfl) ?_
  refine lv_bipush (v := 8) hx hb dX2_steal_37 (by decide) ?_
  refine S_callVi C0 hK h (c_X2_li l z (uh M 0) i (by omega) 8 (by omega)) (cwV 2 hts gX2_steal_X2_li rfl rfl rfl (by decide +kernel) ⟨Nat.le_of_ble_eq_true rfl, Nat.le_of_ble_eq_true rfl⟩) (k := 55) (ci := 2) (by omega) (fun ct hA => hA.1) rfl rfl rfl hl.1 (rest := []) rfl (Nat.le_of_ble_eq_true rfl) ⟨Nat.le_of_ble_eq_true rfl, Nat.le_of_ble_eq_true rfl⟩ dX2_steal_39 (fun r u H locs hp h => ?_)
  obtain ⟨rfl, hu9⟩ := hp
  rw [hu9] at h
  refine lv_istore_n (lv' := [(3, .int (mB (uh M 0) (9 * i + 8))), (0, .ref (za z 55)), (1, .int (nI i)), (2, .int x)]) hx hb dX2_steal_42 rfl hl (by decide) rfl (fun ls hl => ?_)
  refine lv_aload_n hx hb dX2_steal_43 rfl (lv_at hl 1 rfl) ?_
  refine lv_iload_n hx hb dX2_steal_44 rfl (lv_at hl 2 rfl) ?_
  refine lv_bipush (v := 8) hx hb dX2_steal_45 (by decide) ?_
  refine lv_iload_n hx hb dX2_steal_47 rfl (lv_at hl 3 rfl) ?_
  refine S_callVv C0 hK h (c_X2_setPipe l z (uh M 0) i (by omega) 8 (by omega) x) (cwV 3 hts gX2_steal_X2_setPipe rfl rfl rfl (by decide +kernel) ⟨Nat.le_of_ble_eq_true rfl, Nat.le_of_ble_eq_true rfl⟩) (k := 55) (ci := 2) (by omega) (fun ct hA => hA.1) rfl rfl rfl hl.1 (rest := []) rfl (Nat.le_of_ble_eq_true rfl) ⟨Nat.le_of_ble_eq_true rfl, Nat.le_of_ble_eq_true rfl⟩ dX2_steal_48 (fun u H locs hp h => ?_)
  obtain ⟨M2, eM2⟩ : ∃ z9, z9 = mSetP (uh M 0) i 8 x := ⟨_, rfl⟩
  rw [hp, ← eM2] at h
  refine lv_iload_n hx hb dX2_steal_51 rfl (lv_at hl 0 rfl) ?_
  exact G_iret C0 hK h ⟨rfl, by subst eM2; rfl⟩ (Nat.le_of_ble_eq_true rfl) (Nat.le_of_ble_eq_true rfl) dX2_steal_52
set_option maxHeartbeats 4000000 in
set_option maxRecDepth 100000 in
theorem c_X2_steal_no (l : Launch) (z : QZ) (M : QMs) (hk : MOk M) (x y : Int32) (hno : ¬ qin x (mp_ M)) : GI l yX2_steal wsX2_steal ({ frames := 2, cells := 0, slots := 0, locals := 43 } : Room) z [.ref (za z 55), .int x, .int y] 0 0 (MAt z) 55 59 M (fun r M' => r = 0 ∧ M' = uh M 1) := by
  intro ct sz hn hq hat
  refine q_entry (lo := 55) (cc := cX2_steal) (maxL := 4) (ret := (some .int)) (by decide) rfl (Nat.le_of_ble_eq_true rfl) hn hq hat ?_
  intro p e s m below meth c ls C0 hK hsz h hl
  subst hsz
  obtain ⟨hx, hb, hr, hml, hown, hts, hlocks⟩ := id C0
  have hin2 : ∀ w ∈ u_ws RX2 TX2 6, w ∈ wsX2_steal := by decide +kernel
  have hl : lv_has ls 4 [(0, .ref (za z 55)), (1, .int x), (2, .int y)] := hl
  refine lv_aload_n hx hb dX2_steal_0 rfl (lv_at hl 0 rfl) ?_
  refine lv_iconst (v := 0) hx hb dX2_steal_1 (by decide) ?_
  refine N_ph C0 hK h hin2 (by decide +kernel) dX2_steal_2 (fun H locs M1 eM1 h => ?_)
  subst eM1
  refine lv_aload_n hx hb dX2_steal_5 rfl (lv_at hl 0 rfl) ?_
  refine lv_iload_n hx hb dX2_steal_6 rfl (lv_at hl 1 rfl) ?_
  refine S_callVi C0 hK h (c_X2_isPipe l z (uh M 0) x hk) (cwV 1 hts gX2_steal_X2_isPipe rfl rfl rfl (by decide +kernel) ⟨Nat.le_of_ble_eq_true rfl, Nat.le_of_ble_eq_true rfl⟩) (k := 55) (ci := 2) (by omega) (fun ct hA => hA.1) rfl rfl rfl hl.1 (rest := []) rfl (Nat.le_of_ble_eq_true rfl) ⟨Nat.le_of_ble_eq_true rfl, Nat.le_of_ble_eq_true rfl⟩ dX2_steal_7 (fun r u H locs hp h => ?_)
  obtain ⟨hr9, hu9⟩ := hp
  have hr9 := hr9.trans (if_neg hno)
  subst hr9
  rw [hu9] at h
  refine lv_if_ne (tgt := 19) hx hb dX2_steal_10 (by decide) (fun q9 => absurd (by decide) q9) (fun _ => ?_)
  refine lv_aload_n hx hb dX2_steal_13 rfl (lv_at hl 0 rfl) ?_
  refine lv_iconst (v := 1) hx hb dX2_steal_14 (by decide) ?_
  refine S_callVi C0 hK h (c_X2_fail l z (uh M 0) 1) (cwV 1 hts gX2_steal_X2_fail rfl rfl rfl (by decide +kernel) ⟨Nat.le_of_ble_eq_true rfl, Nat.le_of_ble_eq_true rfl⟩) (k := 55) (ci := 2) (by omega) (fun ct hA => hA.1) rfl rfl rfl hl.1 (rest := []) rfl (Nat.le_of_ble_eq_true rfl) ⟨Nat.le_of_ble_eq_true rfl, Nat.le_of_ble_eq_true rfl⟩ dX2_steal_15 (fun r u H locs hp h => ?_)
  obtain ⟨rfl, hp⟩ := hp
  obtain ⟨M2, eM2⟩ : ∃ z9, z9 = uh (uh M 0) 1 := ⟨_, rfl⟩
  rw [hp, ← eM2] at h
  exact G_iret C0 hK h ⟨rfl, by subst eM2; rfl⟩ (Nat.le_of_ble_eq_true rfl) (Nat.le_of_ble_eq_true rfl) dX2_steal_18
set_option maxHeartbeats 4000000 in
set_option maxRecDepth 100000 in
theorem c_X2_steal_no2 (l : Launch) (z : QZ) (M : QMs) (hk : MOk M) (i : Nat) (hi : i < mp_ M) (x : Int32) (hno : ¬ (0 ≤ x ∧ x ≤ 9)) : GI l yX2_steal wsX2_steal ({ frames := 2, cells := 0, slots := 0, locals := 43 } : Room) z [.ref (za z 55), .int (nI i), .int x] 0 0 (MAt z) 55 59 M (fun r M' => r = 0 ∧ M' = uh M 2) := by
  intro ct sz hn hq hat
  refine q_entry (lo := 55) (cc := cX2_steal) (maxL := 4) (ret := (some .int)) (by decide) rfl (Nat.le_of_ble_eq_true rfl) hn hq hat ?_
  intro p e s m below meth c ls C0 hK hsz h hl
  subst hsz
  obtain ⟨hx, hb, hr, hml, hown, hts, hlocks⟩ := id C0
  have hin2 : ∀ w ∈ u_ws RX2 TX2 6, w ∈ wsX2_steal := by decide +kernel
  have hl : lv_has ls 4 [(0, .ref (za z 55)), (1, .int (nI i)), (2, .int x)] := hl
  refine lv_aload_n hx hb dX2_steal_0 rfl (lv_at hl 0 rfl) ?_
  refine lv_iconst (v := 0) hx hb dX2_steal_1 (by decide) ?_
  refine N_ph C0 hK h hin2 (by decide +kernel) dX2_steal_2 (fun H locs M1 eM1 h => ?_)
  subst eM1
  refine lv_aload_n hx hb dX2_steal_5 rfl (lv_at hl 0 rfl) ?_
  refine lv_iload_n hx hb dX2_steal_6 rfl (lv_at hl 1 rfl) ?_
  refine S_callVi C0 hK h (c_X2_isPipe l z (uh M 0) (nI i) hk) (cwV 1 hts gX2_steal_X2_isPipe rfl rfl rfl (by decide +kernel) ⟨Nat.le_of_ble_eq_true rfl, Nat.le_of_ble_eq_true rfl⟩) (k := 55) (ci := 2) (by omega) (fun ct hA => hA.1) rfl rfl rfl hl.1 (rest := []) rfl (Nat.le_of_ble_eq_true rfl) ⟨Nat.le_of_ble_eq_true rfl, Nat.le_of_ble_eq_true rfl⟩ dX2_steal_7 (fun r u H locs hp h => ?_)
  obtain ⟨hr9, hu9⟩ := hp
  have hr9 := hr9.trans (if_pos (qin_nI (n := mp_ M) (by have := hk.1; have := hk.2.1; omega) hi))
  subst hr9
  rw [hu9] at h
  refine lv_if_ne (tgt := 19) hx hb dX2_steal_10 (by decide) (fun _ => ?_) (fun q9 => absurd q9 (by decide))
  refine lv_iload_n hx hb dX2_steal_19 rfl (lv_at hl 2 rfl) ?_
  refine lv_iconst (v := 0) hx hb dX2_steal_20 (by decide) ?_
  refine lv_bipush (v := 9) hx hb dX2_steal_21 (by decide) ?_
  refine S_callSi C0 hK h (c_X2_isIn l z (uh M 0) x 0 9) (va_cwS 3 hts gX2_steal_X2_isIn rfl rfl rfl (by decide +kernel) ⟨Nat.le_of_ble_eq_true rfl, Nat.le_of_ble_eq_true rfl⟩) rfl hl.1 (rest := []) rfl (Nat.le_of_ble_eq_true rfl) ⟨Nat.le_of_ble_eq_true rfl, Nat.le_of_ble_eq_true rfl⟩ dX2_steal_23 (fun r u H locs hp h => ?_)
  obtain ⟨hr9, hu9⟩ := hp
  have hr9 := hr9.trans (if_neg hno)
  subst hr9
  rw [hu9] at h
  refine lv_if_ne (tgt := 35) hx hb dX2_steal_26 (by decide) (fun q9 => absurd (by decide) q9) (fun _ => ?_)
  refine lv_aload_n hx hb dX2_steal_29 rfl (lv_at hl 0 rfl) ?_
  refine lv_iconst (v := 2) hx hb dX2_steal_30 (by decide) ?_
  refine S_callVi C0 hK h (c_X2_fail l z (uh M 0) 2) (cwV 1 hts gX2_steal_X2_fail rfl rfl rfl (by decide +kernel) ⟨Nat.le_of_ble_eq_true rfl, Nat.le_of_ble_eq_true rfl⟩) (k := 55) (ci := 2) (by omega) (fun ct hA => hA.1) rfl rfl rfl hl.1 (rest := []) rfl (Nat.le_of_ble_eq_true rfl) ⟨Nat.le_of_ble_eq_true rfl, Nat.le_of_ble_eq_true rfl⟩ dX2_steal_31 (fun r u H locs hp h => ?_)
  obtain ⟨rfl, hp⟩ := hp
  obtain ⟨M2, eM2⟩ : ∃ z9, z9 = uh (uh M 0) 2 := ⟨_, rfl⟩
  rw [hp, ← eM2] at h
  exact G_iret C0 hK h ⟨rfl, by subst eM2; rfl⟩ (Nat.le_of_ble_eq_true rfl) (Nat.le_of_ble_eq_true rfl) dX2_steal_34
set_option maxHeartbeats 4000000 in
set_option maxRecDepth 100000 in
theorem c_X2_pass_ok (l : Launch) (z : QZ) (M : QMs) (hk : MOk M) (n : Nat) (h1 : 1 ≤ n) (h2 : n ≤ 100) : GI l yX2_pass wsX2_pass ({ frames := 6, cells := 0, slots := 0, locals := 135 } : Room) z [.ref (za z 55), .int (nI n)] 0 0 (MAt z) 55 59 M (fun r M' => r = mall (itN mdayF n (uh M 0)) 6 - mall M 6 ∧ M' = itN mdayF n (uh M 0)) := by
  intro ct sz hn hq hat
  refine q_entry (lo := 55) (cc := cX2_pass) (maxL := 3) (ret := (some .int)) (by decide) rfl (Nat.le_of_ble_eq_true rfl) hn hq hat ?_
  intro p e s m below meth c ls C0 hK hsz h hl
  subst hsz
  obtain ⟨hx, hb, hr, hml, hown, hts, hlocks⟩ := id C0
  have hin2 : ∀ w ∈ u_ws RX2 TX2 6, w ∈ wsX2_pass := by decide +kernel
  have hl : lv_has ls 3 [(0, .ref (za z 55)), (1, .int (nI n))] := hl
  refine lv_aload_n hx hb dX2_pass_0 rfl (lv_at hl 0 rfl) ?_
  refine lv_iconst (v := 0) hx hb dX2_pass_1 (by decide) ?_
  refine N_ph C0 hK h hin2 (by decide +kernel) dX2_pass_2 (fun H locs M1 eM1 h => ?_)
  subst eM1
  refine lv_iload_n hx hb dX2_pass_5 rfl (lv_at hl 1 rfl) ?_
  refine lv_iconst (v := 1) hx hb dX2_pass_6 (by decide) ?_
  refine lv_bipush (v := 100) hx hb dX2_pass_7 (by decide) ?_
  refine S_callSi C0 hK h (c_X2_isIn l z (uh M 0) (nI n) 1 100) (va_cwS 3 hts gX2_pass_X2_isIn rfl rfl rfl (by decide +kernel) ⟨Nat.le_of_ble_eq_true rfl, Nat.le_of_ble_eq_true rfl⟩) rfl hl.1 (rest := []) rfl (Nat.le_of_ble_eq_true rfl) ⟨Nat.le_of_ble_eq_true rfl, Nat.le_of_ble_eq_true rfl⟩ dX2_pass_9 (fun r u H locs hp h => ?_)
  obtain ⟨hr9, hu9⟩ := hp
  have hr9 := hr9.trans (if_pos (q_rng (k := n) 1 100 rfl rfl))
  subst hr9
  rw [hu9] at h
  refine lv_if_ne (tgt := 21) hx hb dX2_pass_12 (by decide) (fun _ => ?_) (fun q9 => absurd q9 (by decide))
  refine lv_aload_n hx hb dX2_pass_21 rfl (lv_at hl 0 rfl) ?_
  refine lv_bipush (v := 6) hx hb dX2_pass_22 (by decide) ?_
  refine S_callVi C0 hK h (c_X2_all l z (uh M 0) hk 6 (by decide)) (cwV 1 hts gX2_pass_X2_all rfl rfl rfl (by decide +kernel) ⟨Nat.le_of_ble_eq_true rfl, Nat.le_of_ble_eq_true rfl⟩) (k := 55) (ci := 2) (by omega) (fun ct hA => hA.1) rfl rfl rfl hl.1 (rest := []) rfl (Nat.le_of_ble_eq_true rfl) ⟨Nat.le_of_ble_eq_true rfl, Nat.le_of_ble_eq_true rfl⟩ dX2_pass_24 (fun r u H locs hp h => ?_)
  obtain ⟨rfl, hu9⟩ := hp
  rw [hu9] at h
  refine lv_istore_n (lv' := [(2, .int (mall (uh M 0) 6)), (0, .ref (za z 55)), (1, .int (nI n))]) hx hb dX2_pass_27 rfl hl (by decide) rfl (fun ls hl => ?_)
  refine lv_aload_n hx hb dX2_pass_28 rfl (lv_at hl 1 rfl) ?_
  refine lv_iload_n hx hb dX2_pass_29 rfl (lv_at hl 2 rfl) ?_
  refine S_callVv C0 hK h (c_X2_daysOn l z (uh M 0) hk n (by omega)) (cwV 1 hts gX2_pass_X2_daysOn rfl rfl rfl (by decide +kernel) ⟨Nat.le_of_ble_eq_true rfl, Nat.le_of_ble_eq_true rfl⟩) (k := 55) (ci := 2) (by omega) (fun ct hA => hA.1) rfl rfl rfl hl.1 (rest := []) rfl (Nat.le_of_ble_eq_true rfl) ⟨Nat.le_of_ble_eq_true rfl, Nat.le_of_ble_eq_true rfl⟩ dX2_pass_30 (fun u H locs hp h => ?_)
  obtain ⟨M2, eM2⟩ : ∃ z9, z9 = itN mdayF n (uh M 0) := ⟨_, rfl⟩
  rw [hp, ← eM2] at h
  refine lv_aload_n hx hb dX2_pass_33 rfl (lv_at hl 1 rfl) ?_
  refine lv_bipush (v := 6) hx hb dX2_pass_34 (by decide) ?_
  refine S_callVi C0 hK h (c_X2_all l z M2 (by subst eM2; exact (mshp_days _ _).ok hk) 6 (by decide)) (cwV 1 hts gX2_pass_X2_all rfl rfl rfl (by decide +kernel) ⟨Nat.le_of_ble_eq_true rfl, Nat.le_of_ble_eq_true rfl⟩) (k := 55) (ci := 2) (by omega) (fun ct hA => hA.1) rfl rfl rfl hl.1 (rest := []) rfl (Nat.le_of_ble_eq_true rfl) ⟨Nat.le_of_ble_eq_true rfl, Nat.le_of_ble_eq_true rfl⟩ dX2_pass_36 (fun r u H locs hp h => ?_)
  obtain ⟨rfl, hu9⟩ := hp
  rw [hu9] at h
  refine lv_iload_n hx hb dX2_pass_39 rfl (lv_at hl 0 rfl) ?_
  refine lv_isub hx hb dX2_pass_40 ?_
  exact G_iret C0 hK h ⟨by subst eM2; rfl, by subst eM2; rfl⟩ (Nat.le_of_ble_eq_true rfl) (Nat.le_of_ble_eq_true rfl) dX2_pass_41
set_option maxHeartbeats 4000000 in
set_option maxRecDepth 100000 in
theorem c_X2_pass_no (l : Launch) (z : QZ) (M : QMs) (hk : MOk M) (x : Int32) (hno : ¬ (1 ≤ x ∧ x ≤ 100)) : GI l yX2_pass wsX2_pass ({ frames := 1, cells := 0, slots := 0, locals := 22 } : Room) z [.ref (za z 55), .int x] 0 0 (MAt z) 55 59 M (fun r M' => r = 0 ∧ M' = uh M 1) := by
  intro ct sz hn hq hat
  refine q_entry (lo := 55) (cc := cX2_pass) (maxL := 3) (ret := (some .int)) (by decide) rfl (Nat.le_of_ble_eq_true rfl) hn hq hat ?_
  intro p e s m below meth c ls C0 hK hsz h hl
  subst hsz
  obtain ⟨hx, hb, hr, hml, hown, hts, hlocks⟩ := id C0
  have hin2 : ∀ w ∈ u_ws RX2 TX2 6, w ∈ wsX2_pass := by decide +kernel
  have hl : lv_has ls 3 [(0, .ref (za z 55)), (1, .int x)] := hl
  refine lv_aload_n hx hb dX2_pass_0 rfl (lv_at hl 0 rfl) ?_
  refine lv_iconst (v := 0) hx hb dX2_pass_1 (by decide) ?_
  refine N_ph C0 hK h hin2 (by decide +kernel) dX2_pass_2 (fun H locs M1 eM1 h => ?_)
  subst eM1
  refine lv_iload_n hx hb dX2_pass_5 rfl (lv_at hl 1 rfl) ?_
  refine lv_iconst (v := 1) hx hb dX2_pass_6 (by decide) ?_
  refine lv_bipush (v := 100) hx hb dX2_pass_7 (by decide) ?_
  refine S_callSi C0 hK h (c_X2_isIn l z (uh M 0) x 1 100) (va_cwS 3 hts gX2_pass_X2_isIn rfl rfl rfl (by decide +kernel) ⟨Nat.le_of_ble_eq_true rfl, Nat.le_of_ble_eq_true rfl⟩) rfl hl.1 (rest := []) rfl (Nat.le_of_ble_eq_true rfl) ⟨Nat.le_of_ble_eq_true rfl, Nat.le_of_ble_eq_true rfl⟩ dX2_pass_9 (fun r u H locs hp h => ?_)
  obtain ⟨hr9, hu9⟩ := hp
  have hr9 := hr9.trans (if_neg hno)
  subst hr9
  rw [hu9] at h
  refine lv_if_ne (tgt := 21) hx hb dX2_pass_12 (by decide) (fun q9 => absurd (by decide) q9) (fun _ => ?_)
  refine lv_aload_n hx hb dX2_pass_15 rfl (lv_at hl 0 rfl) ?_
  refine lv_iconst (v := 1) hx hb dX2_pass_16 (by decide) ?_
  refine S_callVi C0 hK h (c_X2_fail l z (uh M 0) 1) (cwV 1 hts gX2_pass_X2_fail rfl rfl rfl (by decide +kernel) ⟨Nat.le_of_ble_eq_true rfl, Nat.le_of_ble_eq_true rfl⟩) (k := 55) (ci := 2) (by omega) (fun ct hA => hA.1) rfl rfl rfl hl.1 (rest := []) rfl (Nat.le_of_ble_eq_true rfl) ⟨Nat.le_of_ble_eq_true rfl, Nat.le_of_ble_eq_true rfl⟩ dX2_pass_17 (fun r u H locs hp h => ?_)
  obtain ⟨rfl, hp⟩ := hp
  obtain ⟨M2, eM2⟩ : ∃ z9, z9 = uh (uh M 0) 1 := ⟨_, rfl⟩
  rw [hp, ← eM2] at h
  exact G_iret C0 hK h ⟨rfl, by subst eM2; rfl⟩ (Nat.le_of_ble_eq_true rfl) (Nat.le_of_ble_eq_true rfl) dX2_pass_20
set_option maxHeartbeats 4000000 in
set_option maxRecDepth 100000 in
theorem c_X2_reach_ok (l : Launch) (z : QZ) (M : QMs) (hk : MOk M) (t : Nat) (hi : t < mt_ M) : GI l yX2_reach wsX2_reach ({ frames := 2, cells := 0, slots := 0, locals := 43 } : Room) z [.ref (za z 55), .int (nI t)] 0 0 (MAt z) 55 59 M (fun r M' => r = mreach M (nI t) ∧ M' = uh M 0) := by
  intro ct sz hn hq hat
  refine q_entry (lo := 55) (cc := cX2_reach) (maxL := 5) (ret := (some .int)) (by decide) rfl (Nat.le_of_ble_eq_true rfl) hn hq hat ?_
  intro p e s m below meth c ls C0 hK hsz h hl
  subst hsz
  obtain ⟨hx, hb, hr, hml, hown, hts, hlocks⟩ := id C0
  have hin2 : ∀ w ∈ u_ws RX2 TX2 6, w ∈ wsX2_reach := by decide +kernel
  have hl : lv_has ls 5 [(0, .ref (za z 55)), (1, .int (nI t))] := hl
  have hk1 := hk.1
  have hk2 := hk.2.1
  have L23 : ∀ (d i : Nat), i + d = mt_ M + 1 → ∀ (H : Heap) (locs : List Loc) (ls : Array Slot), GW z (MAt z) 55 59 s.heap ct (uh M 0) H locs → lv_has ls 5 [(3, .int (nI i)), (2, .int (itN (fun _ r => mrRound M (nI t) r) i 0)), (0, .ref (za z 55)), (1, .int (nI t))] → W p l e ({ frames := 2, cells := 0, slots := 0, locals := 43 } : Room) s m [.ref (za z 55), .int (nI t)].toArray below meth c H locs 0 0 (EI z (MAt z) 55 59 ct s below [.ref (za z 55), .int (nI t)] 0 0 (fun r M' => r = mreach M (nI t) ∧ M' = uh M 0)) (F0 m 23 ls []) := by
    intro  d
    induction d with
    | zero =>
      intro i hdi H locs ls h hl
      have hEi : i = mt_ M + 1 := by omega
      refine lv_iload_n hx hb dX2_reach_23 rfl (lv_at hl 0 rfl) ?_
      refine lv_aload_n hx hb dX2_reach_24 rfl (lv_at hl 2 rfl) ?_
      refine M_g C0 hK h hin2 1 (by decide) (by decide +kernel) rfl dX2_reach_25 ?_
      refine lv_icmp_gt (tgt := 93) hx hb dX2_reach_28 (by decide) (fun _ => ?_) (fun q9 => absurd (show nI (mt_ M) < nI i from nI_lt (by omega) (by omega)) q9)
      refine lv_iload_n hx hb dX2_reach_93 rfl (lv_at hl 1 rfl) ?_
      exact G_iret C0 hK h ⟨by rw [hEi]; rfl, rfl⟩ (Nat.le_of_ble_eq_true rfl) (Nat.le_of_ble_eq_true rfl) dX2_reach_94
    | succ d ihL23 =>
      intro i hdi H locs ls h hl
      have hEi : i < mt_ M + 1 := by omega
      have L34 : ∀ (g j : Nat), j + g = mp_ M → ∀ (H : Heap) (locs : List Loc) (ls : Array Slot), GW z (MAt z) 55 59 s.heap ct (uh M 0) H locs → lv_has ls 5 [(4, .int (nI j)), (3, .int (nI i)), (2, .int (itN (mrStep M (nI t)) j (itN (fun _ r => mrRound M (nI t) r) i 0))), (0, .ref (za z 55)), (1, .int (nI t))] → W p l e ({ frames := 2, cells := 0, slots := 0, locals := 43 } : Room) s m [.ref (za z 55), .int (nI t)].toArray below meth c H locs 0 0 (EI z (MAt z) 55 59 ct s below [.ref (za z 55), .int (nI t)] 0 0 (fun r M' => r = mreach M (nI t) ∧ M' = uh M 0)) (F0 m 34 ls []) := by
        intro  g
        induction g with
        | zero =>
          intro j hdj H locs ls h hl
          have hEj : j = mp_ M := by omega
          have hk7 := hk.2.1
          refine lv_iload hx hb dX2_reach_34 (lv_at hl 0 rfl) ?_
          refine lv_aload_n hx hb dX2_reach_36 rfl (lv_at hl 3 rfl) ?_
          refine M_g C0 hK h hin2 2 (by decide) (by decide +kernel) rfl dX2_reach_37 ?_
          refine lv_icmp_ge (tgt := 87) hx hb dX2_reach_40 (by decide) (fun _ => ?_) (fun q9 => absurd (nI_le (a := mp_ M) (by omega) (by omega)) q9)
          refine lv_iinc (v := nI (i + 1)) (lv' := [(3, .int (nI (i + 1))), (4, .int (nI j)), (2, .int (itN (mrStep M (nI t)) j (itN (fun _ r => mrRound M (nI t) r) i 0))), (0, .ref (za z 55)), (1, .int (nI t))]) hx hb dX2_reach_87 hl (k := 1) rfl (q_inc i 1) (by decide) rfl (fun ls hl => ?_)
          refine lv_goto (tgt := 23) hx hb dX2_reach_90 (by decide) ?_
          rw [hEj] at hl
          exact ihL23 (i + 1) (by omega) _ _ _ h (lv_sub hl [0, 2, 3, 4] rfl)
        | succ g ihL34 =>
          intro j hdj H locs ls h hl
          have hEj : j < mp_ M := by omega
          have hk7 := hk.2.1
          refine lv_iload hx hb dX2_reach_34 (lv_at hl 0 rfl) ?_
          refine lv_aload_n hx hb dX2_reach_36 rfl (lv_at hl 3 rfl) ?_
          refine M_g C0 hK h hin2 2 (by decide) (by decide +kernel) rfl dX2_reach_37 ?_
          refine lv_icmp_ge (tgt := 87) hx hb dX2_reach_40 (by decide) (fun q9 => absurd q9 (nI_ge (b := mp_ M) (by omega) (by omega))) (fun _ => ?_)
          refine lv_aload_n hx hb dX2_reach_43 rfl (lv_at hl 3 rfl) ?_
          refine lv_iload hx hb dX2_reach_44 (lv_at hl 0 rfl) ?_
          refine lv_iconst (v := 0) hx hb dX2_reach_46 (by decide) ?_
          refine S_callVi C0 hK h (c_X2_li l z (uh M 0) j (by omega) 0 (by omega)) (cwV 2 hts gX2_reach_X2_li rfl rfl rfl (by decide +kernel) ⟨Nat.le_of_ble_eq_true rfl, Nat.le_of_ble_eq_true rfl⟩) (k := 55) (ci := 2) (by omega) (fun ct hA => hA.1) rfl rfl rfl hl.1 (rest := []) rfl (Nat.le_of_ble_eq_true rfl) ⟨Nat.le_of_ble_eq_true rfl, Nat.le_of_ble_eq_true rfl⟩ dX2_reach_47 (fun r u H locs hp h => ?_)
          obtain ⟨rfl, hu9⟩ := hp
          rw [hu9] at h
          refine lv_iload_n hx hb dX2_reach_50 rfl (lv_at hl 4 rfl) ?_
          refine lv_icmp_eq (tgt := 69) hx hb dX2_reach_51 (by decide) (fun c_51 => ?_) (fun c_51 => ?_)
          · refine lv_iload_n hx hb dX2_reach_69 rfl (lv_at hl 2 rfl) ?_
            refine lv_iconst (v := 1) hx hb dX2_reach_70 (by decide) ?_
            refine lv_aload_n hx hb dX2_reach_71 rfl (lv_at hl 3 rfl) ?_
            refine lv_iload hx hb dX2_reach_72 (lv_at hl 0 rfl) ?_
            refine lv_iconst (v := 1) hx hb dX2_reach_74 (by decide) ?_
            refine S_callVi C0 hK h (c_X2_li l z (uh M 0) j (by omega) 1 (by omega)) (cwV 2 hts gX2_reach_X2_li rfl rfl rfl (by decide +kernel) ⟨Nat.le_of_ble_eq_true rfl, Nat.le_of_ble_eq_true rfl⟩) (k := 55) (ci := 2) (by omega) (fun ct hA => hA.1) rfl rfl rfl hl.1 (rest := [.int 1, .int (itN (mrStep M (nI t)) j (itN (fun _ r => mrRound M (nI t) r) i 0))]) rfl (Nat.le_of_ble_eq_true rfl) ⟨Nat.le_of_ble_eq_true rfl, Nat.le_of_ble_eq_true rfl⟩ dX2_reach_75 (fun r u H locs hp h => ?_)
            obtain ⟨rfl, hu9⟩ := hp
            rw [hu9] at h
            refine lv_ishl hx hb dX2_reach_78 ?_
            refine lv_ior hx hb dX2_reach_79 ?_
            refine lv_istore_n (lv' := [(2, .int ((itN (mrStep M (nI t)) j (itN (fun _ r => mrRound M (nI t) r) i 0)) ||| (1 <<< ((mB (uh M 0) (9 * j + 1)) &&& 31)))), (4, .int (nI j)), (3, .int (nI i)), (0, .ref (za z 55)), (1, .int (nI t))]) hx hb dX2_reach_80 rfl hl (by decide) rfl (fun ls hl => ?_)
            refine lv_iinc (v := nI (j + 1)) (lv' := [(4, .int (nI (j + 1))), (2, .int ((itN (mrStep M (nI t)) j (itN (fun _ r => mrRound M (nI t) r) i 0)) ||| (1 <<< ((mB (uh M 0) (9 * j + 1)) &&& 31)))), (3, .int (nI i)), (0, .ref (za z 55)), (1, .int (nI t))]) hx hb dX2_reach_81 hl (k := 1) rfl (q_inc j 1) (by decide) rfl (fun ls hl => ?_)
            refine lv_goto (tgt := 34) hx hb dX2_reach_84 (by decide) ?_
            have e9 : itN (mrStep M (nI t)) (j + 1) (itN (fun _ r => mrRound M (nI t) r) i 0) = (itN (mrStep M (nI t)) j (itN (fun _ r => mrRound M (nI t) r) i 0)) ||| (1 <<< ((mB M (9 * j + 1)) &&& 31)) := mrStep_a c_51
            have hl : lv_has ls 5 [(4, .int (nI (j + 1))), (2, .int (itN (mrStep M (nI t)) (j + 1) (itN (fun _ r => mrRound M (nI t) r) i 0))), (3, .int (nI i)), (0, .ref (za z 55)), (1, .int (nI t))] := by rw [e9]; exact hl
            exact ihL34 (j + 1) (by omega) _ _ _ h (lv_sub hl [0, 2, 1, 3, 4] rfl)
          · refine lv_iload_n hx hb dX2_reach_54 rfl (lv_at hl 2 rfl) ?_
            refine lv_aload_n hx hb dX2_reach_55 rfl (lv_at hl 3 rfl) ?_
            refine lv_iload hx hb dX2_reach_56 (lv_at hl 0 rfl) ?_
            refine lv_iconst (v := 0) hx hb dX2_reach_58 (by decide) ?_
            refine S_callVi C0 hK h (c_X2_li l z (uh M 0) j (by omega) 0 (by omega)) (cwV 2 hts gX2_reach_X2_li rfl rfl rfl (by decide +kernel) ⟨Nat.le_of_ble_eq_true rfl, Nat.le_of_ble_eq_true rfl⟩) (k := 55) (ci := 2) (by omega) (fun ct hA => hA.1) rfl rfl rfl hl.1 (rest := [.int (itN (mrStep M (nI t)) j (itN (fun _ r => mrRound M (nI t) r) i 0))]) rfl (Nat.le_of_ble_eq_true rfl) ⟨Nat.le_of_ble_eq_true rfl, Nat.le_of_ble_eq_true rfl⟩ dX2_reach_59 (fun r u H locs hp h => ?_)
            obtain ⟨rfl, hu9⟩ := hp
            rw [hu9] at h
            refine lv_ishr hx hb dX2_reach_62 ?_
            refine lv_iconst (v := 1) hx hb dX2_reach_63 (by decide) ?_
            refine lv_iand hx hb dX2_reach_64 ?_
            refine lv_iconst (v := 1) hx hb dX2_reach_65 (by decide) ?_
            refine lv_icmp_ne (tgt := 81) hx hb dX2_reach_66 (by decide) (fun c_66 => ?_) (fun c_66 => ?_)
            · refine lv_iinc (v := nI (j + 1)) (lv' := [(4, .int (nI (j + 1))), (3, .int (nI i)), (2, .int (itN (mrStep M (nI t)) j (itN (fun _ r => mrRound M (nI t) r) i 0))), (0, .ref (za z 55)), (1, .int (nI t))]) hx hb dX2_reach_81 hl (k := 0) rfl (q_inc j 1) (by decide) rfl (fun ls hl => ?_)
              refine lv_goto (tgt := 34) hx hb dX2_reach_84 (by decide) ?_
              have e9 : itN (mrStep M (nI t)) (j + 1) (itN (fun _ r => mrRound M (nI t) r) i 0) = itN (mrStep M (nI t)) j (itN (fun _ r => mrRound M (nI t) r) i 0) := mrStep_b c_51 c_66
              have hl : lv_has ls 5 [(4, .int (nI (j + 1))), (3, .int (nI i)), (2, .int (itN (mrStep M (nI t)) (j + 1) (itN (fun _ r => mrRound M (nI t) r) i 0))), (0, .ref (za z 55)), (1, .int (nI t))] := by rw [e9]; exact hl
              exact ihL34 (j + 1) (by omega) _ _ _ h (lv_sub hl [0, 1, 2, 3, 4] rfl)
            · refine lv_iload_n hx hb dX2_reach_69 rfl (lv_at hl 2 rfl) ?_
              refine lv_iconst (v := 1) hx hb dX2_reach_70 (by decide) ?_
              refine lv_aload_n hx hb dX2_reach_71 rfl (lv_at hl 3 rfl) ?_
              refine lv_iload hx hb dX2_reach_72 (lv_at hl 0 rfl) ?_
              refine lv_iconst (v := 1) hx hb dX2_reach_74 (by decide) ?_
              refine S_callVi C0 hK h (c_X2_li l z (uh M 0) j (by omega) 1 (by omega)) (cwV 2 hts gX2_reach_X2_li rfl rfl rfl (by decide +kernel) ⟨Nat.le_of_ble_eq_true rfl, Nat.le_of_ble_eq_true rfl⟩) (k := 55) (ci := 2) (by omega) (fun ct hA => hA.1) rfl rfl rfl hl.1 (rest := [.int 1, .int (itN (mrStep M (nI t)) j (itN (fun _ r => mrRound M (nI t) r) i 0))]) rfl (Nat.le_of_ble_eq_true rfl) ⟨Nat.le_of_ble_eq_true rfl, Nat.le_of_ble_eq_true rfl⟩ dX2_reach_75 (fun r u H locs hp h => ?_)
              obtain ⟨rfl, hu9⟩ := hp
              rw [hu9] at h
              refine lv_ishl hx hb dX2_reach_78 ?_
              refine lv_ior hx hb dX2_reach_79 ?_
              refine lv_istore_n (lv' := [(2, .int ((itN (mrStep M (nI t)) j (itN (fun _ r => mrRound M (nI t) r) i 0)) ||| (1 <<< ((mB (uh M 0) (9 * j + 1)) &&& 31)))), (4, .int (nI j)), (3, .int (nI i)), (0, .ref (za z 55)), (1, .int (nI t))]) hx hb dX2_reach_80 rfl hl (by decide) rfl (fun ls hl => ?_)
              refine lv_iinc (v := nI (j + 1)) (lv' := [(4, .int (nI (j + 1))), (2, .int ((itN (mrStep M (nI t)) j (itN (fun _ r => mrRound M (nI t) r) i 0)) ||| (1 <<< ((mB (uh M 0) (9 * j + 1)) &&& 31)))), (3, .int (nI i)), (0, .ref (za z 55)), (1, .int (nI t))]) hx hb dX2_reach_81 hl (k := 1) rfl (q_inc j 1) (by decide) rfl (fun ls hl => ?_)
              refine lv_goto (tgt := 34) hx hb dX2_reach_84 (by decide) ?_
              have e9 : itN (mrStep M (nI t)) (j + 1) (itN (fun _ r => mrRound M (nI t) r) i 0) = (itN (mrStep M (nI t)) j (itN (fun _ r => mrRound M (nI t) r) i 0)) ||| (1 <<< ((mB M (9 * j + 1)) &&& 31)) := mrStep_c c_51 c_66
              have hl : lv_has ls 5 [(4, .int (nI (j + 1))), (2, .int (itN (mrStep M (nI t)) (j + 1) (itN (fun _ r => mrRound M (nI t) r) i 0))), (3, .int (nI i)), (0, .ref (za z 55)), (1, .int (nI t))] := by rw [e9]; exact hl
              exact ihL34 (j + 1) (by omega) _ _ _ h (lv_sub hl [0, 2, 1, 3, 4] rfl)
      refine lv_iload_n hx hb dX2_reach_23 rfl (lv_at hl 0 rfl) ?_
      refine lv_aload_n hx hb dX2_reach_24 rfl (lv_at hl 2 rfl) ?_
      refine M_g C0 hK h hin2 1 (by decide) (by decide +kernel) rfl dX2_reach_25 ?_
      refine lv_icmp_gt (tgt := 93) hx hb dX2_reach_28 (by decide) (fun q9 => absurd q9 (show ¬ nI (mt_ M) < nI i from nI_nlt (by omega) (by omega))) (fun _ => ?_)
      refine lv_iconst (v := 0) hx hb dX2_reach_31 (by decide) ?_
      refine lv_istore (lv' := [(4, .int 0), (3, .int (nI i)), (2, .int (itN (fun _ r => mrRound M (nI t) r) i 0)), (0, .ref (za z 55)), (1, .int (nI t))]) hx hb dX2_reach_32 hl (by decide) rfl (fun ls hl => ?_)
      exact L34 (mp_ M) 0 (by omega) _ _ _ h (lv_sub hl [0, 1, 2, 3, 4] rfl)
  refine lv_aload_n hx hb dX2_reach_0 rfl (lv_at hl 0 rfl) ?_
  refine lv_iconst (v := 0) hx hb dX2_reach_1 (by decide) ?_
  refine N_ph C0 hK h hin2 (by decide +kernel) dX2_reach_2 (fun H locs M1 eM1 h => ?_)
  subst eM1
  refine lv_aload_n hx hb dX2_reach_5 rfl (lv_at hl 0 rfl) ?_
  refine lv_iload_n hx hb dX2_reach_6 rfl (lv_at hl 1 rfl) ?_
  refine S_callVi C0 hK h (c_X2_isTank l z (uh M 0) (nI t) hk) (cwV 1 hts gX2_reach_X2_isTank rfl rfl rfl (by decide +kernel) ⟨Nat.le_of_ble_eq_true rfl, Nat.le_of_ble_eq_true rfl⟩) (k := 55) (ci := 2) (by omega) (fun ct hA => hA.1) rfl rfl rfl hl.1 (rest := []) rfl (Nat.le_of_ble_eq_true rfl) ⟨Nat.le_of_ble_eq_true rfl, Nat.le_of_ble_eq_true rfl⟩ dX2_reach_7 (fun r u H locs hp h => ?_)
  obtain ⟨hr9, hu9⟩ := hp
  have hr9 := hr9.trans (if_pos (qin_nI (n := mt_ M) (by have := hk.1; have := hk.2.1; omega) hi))
  subst hr9
  rw [hu9] at h
  refine lv_if_ne (tgt := 19) hx hb dX2_reach_10 (by decide) (fun _ => ?_) (fun q9 => absurd q9 (by decide))
  refine lv_iconst (v := 0) hx hb dX2_reach_19 (by decide) ?_
  refine lv_istore_n (lv' := [(2, .int 0), (0, .ref (za z 55)), (1, .int (nI t))]) hx hb dX2_reach_20 rfl hl (by decide) rfl (fun ls hl => ?_)
  refine lv_iconst (v := 0) hx hb dX2_reach_21 (by decide) ?_
  refine lv_istore_n (lv' := [(3, .int 0), (2, .int 0), (0, .ref (za z 55)), (1, .int (nI t))]) hx hb dX2_reach_22 rfl hl (by decide) rfl (fun ls hl => ?_)
  exact L23 (mt_ M + 1) 0 (by omega) _ _ _ h (lv_sub hl [0, 1, 2, 3] rfl)
set_option maxHeartbeats 4000000 in
set_option maxRecDepth 100000 in
theorem c_X2_reach_no (l : Launch) (z : QZ) (M : QMs) (hk : MOk M) (x : Int32) (hno : ¬ qin x (mt_ M)) : GI l yX2_reach wsX2_reach ({ frames := 2, cells := 0, slots := 0, locals := 43 } : Room) z [.ref (za z 55), .int x] 0 0 (MAt z) 55 59 M (fun r M' => r = 0 ∧ M' = uh M 1) := by
  intro ct sz hn hq hat
  refine q_entry (lo := 55) (cc := cX2_reach) (maxL := 5) (ret := (some .int)) (by decide) rfl (Nat.le_of_ble_eq_true rfl) hn hq hat ?_
  intro p e s m below meth c ls C0 hK hsz h hl
  subst hsz
  obtain ⟨hx, hb, hr, hml, hown, hts, hlocks⟩ := id C0
  have hin2 : ∀ w ∈ u_ws RX2 TX2 6, w ∈ wsX2_reach := by decide +kernel
  have hl : lv_has ls 5 [(0, .ref (za z 55)), (1, .int x)] := hl
  refine lv_aload_n hx hb dX2_reach_0 rfl (lv_at hl 0 rfl) ?_
  refine lv_iconst (v := 0) hx hb dX2_reach_1 (by decide) ?_
  refine N_ph C0 hK h hin2 (by decide +kernel) dX2_reach_2 (fun H locs M1 eM1 h => ?_)
  subst eM1
  refine lv_aload_n hx hb dX2_reach_5 rfl (lv_at hl 0 rfl) ?_
  refine lv_iload_n hx hb dX2_reach_6 rfl (lv_at hl 1 rfl) ?_
  refine S_callVi C0 hK h (c_X2_isTank l z (uh M 0) x hk) (cwV 1 hts gX2_reach_X2_isTank rfl rfl rfl (by decide +kernel) ⟨Nat.le_of_ble_eq_true rfl, Nat.le_of_ble_eq_true rfl⟩) (k := 55) (ci := 2) (by omega) (fun ct hA => hA.1) rfl rfl rfl hl.1 (rest := []) rfl (Nat.le_of_ble_eq_true rfl) ⟨Nat.le_of_ble_eq_true rfl, Nat.le_of_ble_eq_true rfl⟩ dX2_reach_7 (fun r u H locs hp h => ?_)
  obtain ⟨hr9, hu9⟩ := hp
  have hr9 := hr9.trans (if_neg hno)
  subst hr9
  rw [hu9] at h
  refine lv_if_ne (tgt := 19) hx hb dX2_reach_10 (by decide) (fun q9 => absurd (by decide) q9) (fun _ => ?_)
  refine lv_aload_n hx hb dX2_reach_13 rfl (lv_at hl 0 rfl) ?_
  refine lv_iconst (v := 1) hx hb dX2_reach_14 (by decide) ?_
  refine S_callVi C0 hK h (c_X2_fail l z (uh M 0) 1) (cwV 1 hts gX2_reach_X2_fail rfl rfl rfl (by decide +kernel) ⟨Nat.le_of_ble_eq_true rfl, Nat.le_of_ble_eq_true rfl⟩) (k := 55) (ci := 2) (by omega) (fun ct hA => hA.1) rfl rfl rfl hl.1 (rest := []) rfl (Nat.le_of_ble_eq_true rfl) ⟨Nat.le_of_ble_eq_true rfl, Nat.le_of_ble_eq_true rfl⟩ dX2_reach_15 (fun r u H locs hp h => ?_)
  obtain ⟨rfl, hp⟩ := hp
  obtain ⟨M2, eM2⟩ : ∃ z9, z9 = uh (uh M 0) 1 := ⟨_, rfl⟩
  rw [hp, ← eM2] at h
  exact G_iret C0 hK h ⟨rfl, by subst eM2; rfl⟩ (Nat.le_of_ble_eq_true rfl) (Nat.le_of_ble_eq_true rfl) dX2_reach_18
end
section
set_option maxHeartbeats 4000000 in
set_option maxRecDepth 100000 in
theorem c_X2_suspect (l : Launch) (z : QZ) (M : QMs) (hk : MOk M) : GI l yX2_suspect wsX2_suspect ({ frames := 1, cells := 0, slots := 0, locals := 22 } : Room) z [.ref (za z 55)] 0 0 (MAt z) 55 59 M (fun r M' => r = msus (uh M 0) (mp_ M) ∧ M' = uh M 0) := by
  intro ct sz hn hq hat
  refine q_entry (lo := 55) (cc := cX2_suspect) (maxL := 3) (ret := (some .int)) (by decide) rfl (Nat.le_of_ble_eq_true rfl) hn hq hat ?_
  intro p e s m below meth c ls C0 hK hsz h hl
  subst hsz
  obtain ⟨hx, hb, hr, hml, hown, hts, hlocks⟩ := id C0
  have hin2 : ∀ w ∈ u_ws RX2 TX2 6, w ∈ wsX2_suspect := by decide +kernel
  have hl : lv_has ls 3 [(0, .ref (za z 55))] := hl
  have hk1 := hk.1
  have hk2 := hk.2.1
  have L9 : ∀ (d i : Nat), i + d = mp_ M → ∀ (H : Heap) (locs : List Loc) (ls : Array Slot), GW z (MAt z) 55 59 s.heap ct (uh M 0) H locs → lv_has ls 3 [(2, .int (nI i)), (1, .int (msus (uh M 0) i)), (0, .ref (za z 55))] → W p l e ({ frames := 1, cells := 0, slots := 0, locals := 22 } : Room) s m [.ref (za z 55)].toArray below meth c H locs 0 0 (EI z (MAt z) 55 59 ct s below [.ref (za z 55)] 0 0 (fun r M' => r = msus (uh M 0) (mp_ M) ∧ M' = uh M 0)) (F0 m 9 ls []) := by
    intro  d
    induction d with
    | zero =>
      intro i hdi H locs ls h hl
      have hEi : i = mp_ M := by omega
      refine lv_iload_n hx hb dX2_suspect_9 rfl (lv_at hl 0 rfl) ?_
      refine lv_aload_n hx hb dX2_suspect_10 rfl (lv_at hl 2 rfl) ?_
      refine M_g C0 hK h hin2 2 (by decide) (by decide +kernel) rfl dX2_suspect_11 ?_
      refine lv_icmp_ge (tgt := 51) hx hb dX2_suspect_14 (by decide) (fun _ => ?_) (fun q9 => absurd (nI_le (a := mp_ M) (by omega) (by omega)) q9)
      refine lv_iload_n hx hb dX2_suspect_51 rfl (lv_at hl 1 rfl) ?_
      exact G_iret C0 hK h ⟨by rw [hEi], rfl⟩ (Nat.le_of_ble_eq_true rfl) (Nat.le_of_ble_eq_true rfl) dX2_suspect_52
    | succ d ihL9 =>
      intro i hdi H locs ls h hl
      have hEi : i < mp_ M := by omega
      refine lv_iload_n hx hb dX2_suspect_9 rfl (lv_at hl 0 rfl) ?_
      refine lv_aload_n hx hb dX2_suspect_10 rfl (lv_at hl 2 rfl) ?_
      refine M_g C0 hK h hin2 2 (by decide) (by decide +kernel) rfl dX2_suspect_11 ?_
      refine lv_icmp_ge (tgt := 51) hx hb dX2_suspect_14 (by decide) (fun q9 => absurd q9 (nI_ge (b := mp_ M) (by omega) (by omega))) (fun _ => ?_)
      refine lv_aload_n hx hb dX2_suspect_17 rfl (lv_at hl 2 rfl) ?_
      refine lv_iload_n hx hb dX2_suspect_18 rfl (lv_at hl 0 rfl) ?_
      refine lv_bipush (v := 6) hx hb dX2_suspect_19 (by decide) ?_
      refine S_callVi C0 hK h (c_X2_li l z (uh M 0) i (by omega) 6 (by omega)) (cwV 2 hts gX2_suspect_X2_li rfl rfl rfl (by decide +kernel) ⟨Nat.le_of_ble_eq_true rfl, Nat.le_of_ble_eq_true rfl⟩) (k := 55) (ci := 2) (by omega) (fun ct hA => hA.1) rfl rfl rfl hl.1 (rest := []) rfl (Nat.le_of_ble_eq_true rfl) ⟨Nat.le_of_ble_eq_true rfl, Nat.le_of_ble_eq_true rfl⟩ dX2_suspect_21 (fun r u H locs hp h => ?_)
      obtain ⟨rfl, hu9⟩ := hp
      rw [hu9] at h
      refine lv_iload_n hx hb dX2_suspect_24 rfl (lv_at hl 1 rfl) ?_
      refine lv_iconst (v := (-1)) hx hb dX2_suspect_25 (by decide) ?_
      refine lv_icmp_ne (tgt := 33) hx hb dX2_suspect_26 (by decide) (fun c_26 => ?_) (fun c_26 => ?_)
      · obtain ⟨j, hj, ej⟩ := (msus_c (uh M 0) i).resolve_left c_26
        refine lv_aload_n hx hb dX2_suspect_33 rfl (lv_at hl 2 rfl) ?_
        refine lv_iload_n hx hb dX2_suspect_34 rfl (lv_at hl 1 rfl) ?_
        refine lv_bipush (v := 6) hx hb dX2_suspect_35 (by decide) ?_
        refine S_callVi C0 hK h (c_X2_li l z (uh M 0) j (by omega) 6 (by omega)) (cwV 2 hts gX2_suspect_X2_li rfl rfl rfl (by decide +kernel) ⟨Nat.le_of_ble_eq_true rfl, Nat.le_of_ble_eq_true rfl⟩) (k := 55) (ci := 2) (by omega) (fun ct hA => hA.1) rfl rfl rfl hl.1 (rest := [.int (mB (uh M 0) (9 * i + 6))]) (by rw [ej]; rfl) (Nat.le_of_ble_eq_true rfl) ⟨Nat.le_of_ble_eq_true rfl, Nat.le_of_ble_eq_true rfl⟩ dX2_suspect_37 (fun r u H locs hp h => ?_)
        obtain ⟨rfl, hu9⟩ := hp
        rw [hu9] at h
        refine lv_icmp_le (tgt := 45) hx hb dX2_suspect_40 (by decide) (fun c_40 => ?_) (fun c_40 => ?_)
        · refine lv_iinc (v := nI (i + 1)) (lv' := [(2, .int (nI (i + 1))), (1, .int (msus (uh M 0) i)), (0, .ref (za z 55))]) hx hb dX2_suspect_45 hl (k := 0) rfl (q_inc i 1) (by decide) rfl (fun ls hl => ?_)
          refine lv_goto (tgt := 9) hx hb dX2_suspect_48 (by decide) ?_
          have e9 : msus (uh M 0) (i + 1) = msus (uh M 0) i := msus_a c_26 ej c_40
          have hl : lv_has ls 3 [(2, .int (nI (i + 1))), (1, .int (msus (uh M 0) (i + 1))), (0, .ref (za z 55))] := by rw [e9]; exact hl
          exact ihL9 (i + 1) (by omega) _ _ _ h (lv_sub hl [0, 1, 2] rfl)
        · refine lv_iload_n hx hb dX2_suspect_43 rfl (lv_at hl 0 rfl) ?_
          refine lv_istore_n (lv' := [(1, .int (nI i)), (2, .int (nI i)), (0, .ref (za z 55))]) hx hb dX2_suspect_44 rfl hl (by decide) rfl (fun ls hl => ?_)
          refine lv_iinc (v := nI (i + 1)) (lv' := [(2, .int (nI (i + 1))), (1, .int (nI i)), (0, .ref (za z 55))]) hx hb dX2_suspect_45 hl (k := 1) rfl (q_inc i 1) (by decide) rfl (fun ls hl => ?_)
          refine lv_goto (tgt := 9) hx hb dX2_suspect_48 (by decide) ?_
          have e9 : msus (uh M 0) (i + 1) = nI i := msus_b c_26 ej c_40
          have hl : lv_has ls 3 [(2, .int (nI (i + 1))), (1, .int (msus (uh M 0) (i + 1))), (0, .ref (za z 55))] := by rw [e9]; exact hl
          exact ihL9 (i + 1) (by omega) _ _ _ h (lv_sub hl [0, 1, 2] rfl)
      · refine lv_iconst (v := 0) hx hb dX2_suspect_29 (by decide) ?_
        refine lv_goto (tgt := 40) hx hb dX2_suspect_30 (by decide) ?_
        refine lv_icmp_le (tgt := 45) hx hb dX2_suspect_40 (by decide) (fun c_40 => ?_) (fun c_40 => ?_)
        · refine lv_iinc (v := nI (i + 1)) (lv' := [(2, .int (nI (i + 1))), (1, .int (msus (uh M 0) i)), (0, .ref (za z 55))]) hx hb dX2_suspect_45 hl (k := 0) rfl (q_inc i 1) (by decide) rfl (fun ls hl => ?_)
          refine lv_goto (tgt := 9) hx hb dX2_suspect_48 (by decide) ?_
          have e9 : msus (uh M 0) (i + 1) = msus (uh M 0) i := msus_e c_26 c_40
          have hl : lv_has ls 3 [(2, .int (nI (i + 1))), (1, .int (msus (uh M 0) (i + 1))), (0, .ref (za z 55))] := by rw [e9]; exact hl
          exact ihL9 (i + 1) (by omega) _ _ _ h (lv_sub hl [0, 1, 2] rfl)
        · refine lv_iload_n hx hb dX2_suspect_43 rfl (lv_at hl 0 rfl) ?_
          refine lv_istore_n (lv' := [(1, .int (nI i)), (2, .int (nI i)), (0, .ref (za z 55))]) hx hb dX2_suspect_44 rfl hl (by decide) rfl (fun ls hl => ?_)
          refine lv_iinc (v := nI (i + 1)) (lv' := [(2, .int (nI (i + 1))), (1, .int (nI i)), (0, .ref (za z 55))]) hx hb dX2_suspect_45 hl (k := 1) rfl (q_inc i 1) (by decide) rfl (fun ls hl => ?_)
          refine lv_goto (tgt := 9) hx hb dX2_suspect_48 (by decide) ?_
          have e9 : msus (uh M 0) (i + 1) = nI i := msus_d c_26 c_40
          have hl : lv_has ls 3 [(2, .int (nI (i + 1))), (1, .int (msus (uh M 0) (i + 1))), (0, .ref (za z 55))] := by rw [e9]; exact hl
          exact ihL9 (i + 1) (by omega) _ _ _ h (lv_sub hl [0, 1, 2] rfl)
  refine lv_aload_n hx hb dX2_suspect_0 rfl (lv_at hl 0 rfl) ?_
  refine lv_iconst (v := 0) hx hb dX2_suspect_1 (by decide) ?_
  refine N_ph C0 hK h hin2 (by decide +kernel) dX2_suspect_2 (fun H locs M1 eM1 h => ?_)
  subst eM1
  refine lv_iconst (v := (-1)) hx hb dX2_suspect_5 (by decide) ?_
  refine lv_istore_n (lv' := [(1, .int ((-1))), (0, .ref (za z 55))]) hx hb dX2_suspect_6 rfl hl (by decide) rfl (fun ls hl => ?_)
  refine lv_iconst (v := 0) hx hb dX2_suspect_7 (by decide) ?_
  refine lv_istore_n (lv' := [(2, .int 0), (1, .int ((-1))), (0, .ref (za z 55))]) hx hb dX2_suspect_8 rfl hl (by decide) rfl (fun ls hl => ?_)
  exact L9 (mp_ M) 0 (by omega) _ _ _ h (lv_sub hl [0, 1, 2] rfl)
set_option maxHeartbeats 4000000 in
set_option maxRecDepth 100000 in
theorem c_X2_digest (l : Launch) (z : QZ) (M : QMs) (hk : MOk M) : GL l yX2_digest wsX2_digest ({ frames := 4, cells := 0, slots := 0, locals := 87 } : Room) z [.ref (za z 55)] 0 0 (MAt z) 55 59 M (fun r M' => r = mdigP (uh M 0) (mp_ M) (mdigT (uh M 0) (mt_ M) (qlong (mcount (uh M 0)) 9 1031)) ∧ M' = uh M 0) := by
  intro ct sz hn hq hat
  refine q_entry (lo := 55) (cc := cX2_digest) (maxL := 5) (ret := (some .long)) (by decide) rfl (Nat.le_of_ble_eq_true rfl) hn hq hat ?_
  intro p e s m below meth c ls C0 hK hsz h hl
  subst hsz
  obtain ⟨hx, hb, hr, hml, hown, hts, hlocks⟩ := id C0
  have hin2 : ∀ w ∈ u_ws RX2 TX2 6, w ∈ wsX2_digest := by decide +kernel
  have hl : lv_has ls 5 [(0, .ref (za z 55))] := hl
  have hk1 := hk.1
  have hk2 := hk.2.1
  have L85 : ∀ (d i : Nat), i + d = mp_ M → ∀ (H : Heap) (locs : List Loc) (ls : Array Slot), GW z (MAt z) 55 59 s.heap ct (uh M 0) H locs → lv_has ls 5 [(3, .int (nI i)), (1, .long (mdigP (uh M 0) i (mdigT (uh M 0) (mt_ M) (qlong (mcount (uh M 0)) 9 1031)))), (0, .ref (za z 55))] → W p l e ({ frames := 4, cells := 0, slots := 0, locals := 87 } : Room) s m [.ref (za z 55)].toArray below meth c H locs 0 0 (EL z (MAt z) 55 59 ct s below [.ref (za z 55)] 0 0 (fun r M' => r = mdigP (uh M 0) (mp_ M) (mdigT (uh M 0) (mt_ M) (qlong (mcount (uh M 0)) 9 1031)) ∧ M' = uh M 0)) (F0 m 85 ls []) := by
    intro  d
    induction d with
    | zero =>
      intro i hdi H locs ls h hl
      have hEi : i = mp_ M := by omega
      refine lv_iload_n hx hb dX2_digest_85 rfl (lv_at hl 0 rfl) ?_
      refine lv_aload_n hx hb dX2_digest_86 rfl (lv_at hl 2 rfl) ?_
      refine M_g C0 hK h hin2 2 (by decide) (by decide +kernel) rfl dX2_digest_87 ?_
      refine lv_icmp_ge (tgt := 145) hx hb dX2_digest_90 (by decide) (fun _ => ?_) (fun q9 => absurd (nI_le (a := mp_ M) (by omega) (by omega)) q9)
      refine lv_lload_n hx hb dX2_digest_145 rfl (lv_at hl 1 rfl) ?_
      exact G_lret C0 hK h ⟨by rw [hEi], rfl⟩ (Nat.le_of_ble_eq_true rfl) (Nat.le_of_ble_eq_true rfl) dX2_digest_146
    | succ d ihL85 =>
      intro i hdi H locs ls h hl
      have hEi : i < mp_ M := by omega
      have L96 : ∀ (g j : Nat), j + g = 9 → ∀ (H : Heap) (locs : List Loc) (ls : Array Slot), GW z (MAt z) 55 59 s.heap ct (uh M 0) H locs → lv_has ls 5 [(4, .int (nI j)), (3, .int (nI i)), (1, .long (qlong (fun w => mtold (uh M 0) i w) j (mdigP (uh M 0) i (mdigT (uh M 0) (mt_ M) (qlong (mcount (uh M 0)) 9 1031))))), (0, .ref (za z 55))] → W p l e ({ frames := 4, cells := 0, slots := 0, locals := 87 } : Room) s m [.ref (za z 55)].toArray below meth c H locs 0 0 (EL z (MAt z) 55 59 ct s below [.ref (za z 55)] 0 0 (fun r M' => r = mdigP (uh M 0) (mp_ M) (mdigT (uh M 0) (mt_ M) (qlong (mcount (uh M 0)) 9 1031)) ∧ M' = uh M 0)) (F0 m 96 ls []) := by
        intro  g
        induction g with
        | zero =>
          intro j hdj H locs ls h hl
          have hEj : j = 9 := by omega
          refine lv_iload hx hb dX2_digest_96 (lv_at hl 0 rfl) ?_
          refine lv_bipush (v := 9) hx hb dX2_digest_98 (by decide) ?_
          refine lv_icmp_ge (tgt := 124) hx hb dX2_digest_100 (by decide) (fun _ => ?_) (fun q9 => absurd (nI_le (a := 9) (by omega) (by omega)) q9)
          refine lv_lload_n hx hb dX2_digest_124 rfl (lv_at hl 2 rfl) ?_
          refine lv_ldc2 hx hb hown (hts (.constantLong RX2 118 (31)) (by decide +kernel)) dX2_digest_125 ?_
          refine lv_lmul hx hb dX2_digest_128 ?_
          refine lv_aload_n hx hb dX2_digest_129 rfl (lv_at hl 3 rfl) ?_
          refine lv_iload_n hx hb dX2_digest_130 rfl (lv_at hl 1 rfl) ?_
          refine lv_bipush (v := 8) hx hb dX2_digest_131 (by decide) ?_
          refine S_callVi C0 hK h (c_X2_li l z (uh M 0) i (by omega) 8 (by omega)) (cwV 2 hts gX2_digest_X2_li rfl rfl rfl (by decide +kernel) ⟨Nat.le_of_ble_eq_true rfl, Nat.le_of_ble_eq_true rfl⟩) (k := 55) (ci := 2) (by omega) (fun ct hA => hA.1) rfl rfl rfl hl.1 (rest := [.long ((qlong (fun w => mtold (uh M 0) i w) j (mdigP (uh M 0) i (mdigT (uh M 0) (mt_ M) (qlong (mcount (uh M 0)) 9 1031)))) * 31)]) rfl (Nat.le_of_ble_eq_true rfl) ⟨Nat.le_of_ble_eq_true rfl, Nat.le_of_ble_eq_true rfl⟩ dX2_digest_133 (fun r u H locs hp h => ?_)
          obtain ⟨rfl, hu9⟩ := hp
          rw [hu9] at h
          refine lv_i2l hx hb dX2_digest_136 rfl ?_
          refine lv_ladd hx hb dX2_digest_137 ?_
          refine lv_lstore_n (lv' := [(1, .long (((qlong (fun w => mtold (uh M 0) i w) j (mdigP (uh M 0) i (mdigT (uh M 0) (mt_ M) (qlong (mcount (uh M 0)) 9 1031)))) * 31) + ((mB (uh M 0) (9 * i + 8)).toInt64))), (4, .int (nI j)), (3, .int (nI i)), (0, .ref (za z 55))]) hx hb dX2_digest_138 rfl hl (by decide) rfl (fun ls hl => ?_)
          refine lv_iinc (v := nI (i + 1)) (lv' := [(3, .int (nI (i + 1))), (1, .long (((qlong (fun w => mtold (uh M 0) i w) j (mdigP (uh M 0) i (mdigT (uh M 0) (mt_ M) (qlong (mcount (uh M 0)) 9 1031)))) * 31) + ((mB (uh M 0) (9 * i + 8)).toInt64))), (4, .int (nI j)), (0, .ref (za z 55))]) hx hb dX2_digest_139 hl (k := 2) rfl (q_inc i 1) (by decide) rfl (fun ls hl => ?_)
          refine lv_goto (tgt := 85) hx hb dX2_digest_142 (by decide) ?_
          have hl : lv_has ls 5 [(3, .int (nI (i + 1))), (1, .long (mdigP (uh M 0) (i + 1) (mdigT (uh M 0) (mt_ M) (qlong (mcount (uh M 0)) 9 1031)))), (4, .int (nI j)), (0, .ref (za z 55))] := by subst hEj; exact hl
          exact ihL85 (i + 1) (by omega) _ _ _ h (lv_sub hl [0, 1, 3] rfl)
        | succ g ihL96 =>
          intro j hdj H locs ls h hl
          have hEj : j < 9 := by omega
          refine lv_iload hx hb dX2_digest_96 (lv_at hl 0 rfl) ?_
          refine lv_bipush (v := 9) hx hb dX2_digest_98 (by decide) ?_
          refine lv_icmp_ge (tgt := 124) hx hb dX2_digest_100 (by decide) (fun q9 => absurd q9 (nI_ge (b := 9) (by omega) (by omega))) (fun _ => ?_)
          refine lv_lload_n hx hb dX2_digest_103 rfl (lv_at hl 2 rfl) ?_
          refine lv_ldc2 hx hb hown (hts (.constantLong RX2 118 (31)) (by decide +kernel)) dX2_digest_104 ?_
          refine lv_lmul hx hb dX2_digest_107 ?_
          refine lv_aload_n hx hb dX2_digest_108 rfl (lv_at hl 3 rfl) ?_
          refine lv_iload_n hx hb dX2_digest_109 rfl (lv_at hl 1 rfl) ?_
          refine lv_iload hx hb dX2_digest_110 (lv_at hl 0 rfl) ?_
          refine S_callVi C0 hK h (c_X2_pipeTold l z (uh M 0) hk i hEi j (by omega)) (cwV 2 hts gX2_digest_X2_pipeTold rfl rfl rfl (by decide +kernel) ⟨Nat.le_of_ble_eq_true rfl, Nat.le_of_ble_eq_true rfl⟩) (k := 55) (ci := 2) (by omega) (fun ct hA => hA.1) rfl rfl rfl hl.1 (rest := [.long ((qlong (fun w => mtold (uh M 0) i w) j (mdigP (uh M 0) i (mdigT (uh M 0) (mt_ M) (qlong (mcount (uh M 0)) 9 1031)))) * 31)]) rfl (Nat.le_of_ble_eq_true rfl) ⟨Nat.le_of_ble_eq_true rfl, Nat.le_of_ble_eq_true rfl⟩ dX2_digest_112 (fun r u H locs hp h => ?_)
          obtain ⟨rfl, hu9⟩ := hp
          rw [hu9] at h
          refine lv_i2l hx hb dX2_digest_115 rfl ?_
          refine lv_ladd hx hb dX2_digest_116 ?_
          refine lv_lstore_n (lv' := [(1, .long (((qlong (fun w => mtold (uh M 0) i w) j (mdigP (uh M 0) i (mdigT (uh M 0) (mt_ M) (qlong (mcount (uh M 0)) 9 1031)))) * 31) + ((mtold (uh M 0) i j).toInt64))), (4, .int (nI j)), (3, .int (nI i)), (0, .ref (za z 55))]) hx hb dX2_digest_117 rfl hl (by decide) rfl (fun ls hl => ?_)
          refine lv_iinc (v := nI (j + 1)) (lv' := [(4, .int (nI (j + 1))), (1, .long (((qlong (fun w => mtold (uh M 0) i w) j (mdigP (uh M 0) i (mdigT (uh M 0) (mt_ M) (qlong (mcount (uh M 0)) 9 1031)))) * 31) + ((mtold (uh M 0) i j).toInt64))), (3, .int (nI i)), (0, .ref (za z 55))]) hx hb dX2_digest_118 hl (k := 1) rfl (q_inc j 1) (by decide) rfl (fun ls hl => ?_)
          refine lv_goto (tgt := 96) hx hb dX2_digest_121 (by decide) ?_
          have hl : lv_has ls 5 [(4, .int (nI (j + 1))), (1, .long (qlong (fun w => mtold (uh M 0) i w) (j + 1) (mdigP (uh M 0) i (mdigT (uh M 0) (mt_ M) (qlong (mcount (uh M 0)) 9 1031))))), (3, .int (nI i)), (0, .ref (za z 55))] := hl
          exact ihL96 (j + 1) (by omega) _ _ _ h (lv_sub hl [0, 2, 1, 3] rfl)
      refine lv_iload_n hx hb dX2_digest_85 rfl (lv_at hl 0 rfl) ?_
      refine lv_aload_n hx hb dX2_digest_86 rfl (lv_at hl 2 rfl) ?_
      refine M_g C0 hK h hin2 2 (by decide) (by decide +kernel) rfl dX2_digest_87 ?_
      refine lv_icmp_ge (tgt := 145) hx hb dX2_digest_90 (by decide) (fun q9 => absurd q9 (nI_ge (b := mp_ M) (by omega) (by omega))) (fun _ => ?_)
      refine lv_iconst (v := 0) hx hb dX2_digest_93 (by decide) ?_
      refine lv_istore (lv' := [(4, .int 0), (3, .int (nI i)), (1, .long (mdigP (uh M 0) i (mdigT (uh M 0) (mt_ M) (qlong (mcount (uh M 0)) 9 1031)))), (0, .ref (za z 55))]) hx hb dX2_digest_94 hl (by decide) rfl (fun ls hl => ?_)
      exact L96 (9) 0 (by omega) _ _ _ h (lv_sub hl [0, 1, 2, 3] rfl)
  have L38 : ∀ (d i : Nat), i + d = mt_ M → ∀ (H : Heap) (locs : List Loc) (ls : Array Slot), GW z (MAt z) 55 59 s.heap ct (uh M 0) H locs → lv_has ls 5 [(3, .int (nI i)), (1, .long (mdigT (uh M 0) i (qlong (mcount (uh M 0)) 9 1031))), (0, .ref (za z 55))] → W p l e ({ frames := 4, cells := 0, slots := 0, locals := 87 } : Room) s m [.ref (za z 55)].toArray below meth c H locs 0 0 (EL z (MAt z) 55 59 ct s below [.ref (za z 55)] 0 0 (fun r M' => r = mdigP (uh M 0) (mp_ M) (mdigT (uh M 0) (mt_ M) (qlong (mcount (uh M 0)) 9 1031)) ∧ M' = uh M 0)) (F0 m 38 ls []) := by
    intro  d
    induction d with
    | zero =>
      intro i hdi H locs ls h hl
      have hEi : i = mt_ M := by omega
      refine lv_iload_n hx hb dX2_digest_38 rfl (lv_at hl 0 rfl) ?_
      refine lv_aload_n hx hb dX2_digest_39 rfl (lv_at hl 2 rfl) ?_
      refine M_g C0 hK h hin2 1 (by decide) (by decide +kernel) rfl dX2_digest_40 ?_
      refine lv_icmp_ge (tgt := 83) hx hb dX2_digest_43 (by decide) (fun _ => ?_) (fun q9 => absurd (nI_le (a := mt_ M) (by omega) (by omega)) q9)
      refine lv_iconst (v := 0) hx hb dX2_digest_83 (by decide) ?_
      refine lv_istore_n (lv' := [(3, .int 0), (1, .long (mdigT (uh M 0) i (qlong (mcount (uh M 0)) 9 1031))), (0, .ref (za z 55))]) hx hb dX2_digest_84 rfl hl (by decide) rfl (fun ls hl => ?_)
      have hl : lv_has ls 5 [(3, .int 0), (1, .long (mdigT (uh M 0) (mt_ M) (qlong (mcount (uh M 0)) 9 1031))), (0, .ref (za z 55))] := by subst hEi; exact hl
      exact L85 (mp_ M) 0 (by omega) _ _ _ h (lv_sub hl [0, 1, 2] rfl)
    | succ d ihL38 =>
      intro i hdi H locs ls h hl
      have hEi : i < mt_ M := by omega
      have L49 : ∀ (g j : Nat), j + g = 8 → ∀ (H : Heap) (locs : List Loc) (ls : Array Slot), GW z (MAt z) 55 59 s.heap ct (uh M 0) H locs → lv_has ls 5 [(4, .int (nI j)), (3, .int (nI i)), (1, .long (qlong (fun w => mA (uh M 0) (8 * i + w)) j (mdigT (uh M 0) i (qlong (mcount (uh M 0)) 9 1031)))), (0, .ref (za z 55))] → W p l e ({ frames := 4, cells := 0, slots := 0, locals := 87 } : Room) s m [.ref (za z 55)].toArray below meth c H locs 0 0 (EL z (MAt z) 55 59 ct s below [.ref (za z 55)] 0 0 (fun r M' => r = mdigP (uh M 0) (mp_ M) (mdigT (uh M 0) (mt_ M) (qlong (mcount (uh M 0)) 9 1031)) ∧ M' = uh M 0)) (F0 m 49 ls []) := by
        intro  g
        induction g with
        | zero =>
          intro j hdj H locs ls h hl
          have hEj : j = 8 := by omega
          refine lv_iload hx hb dX2_digest_49 (lv_at hl 0 rfl) ?_
          refine lv_bipush (v := 8) hx hb dX2_digest_51 (by decide) ?_
          refine lv_icmp_ge (tgt := 77) hx hb dX2_digest_53 (by decide) (fun _ => ?_) (fun q9 => absurd (nI_le (a := 8) (by omega) (by omega)) q9)
          refine lv_iinc (v := nI (i + 1)) (lv' := [(3, .int (nI (i + 1))), (4, .int (nI j)), (1, .long (qlong (fun w => mA (uh M 0) (8 * i + w)) j (mdigT (uh M 0) i (qlong (mcount (uh M 0)) 9 1031)))), (0, .ref (za z 55))]) hx hb dX2_digest_77 hl (k := 1) rfl (q_inc i 1) (by decide) rfl (fun ls hl => ?_)
          refine lv_goto (tgt := 38) hx hb dX2_digest_80 (by decide) ?_
          have hl : lv_has ls 5 [(3, .int (nI (i + 1))), (4, .int (nI j)), (1, .long (mdigT (uh M 0) (i + 1) (qlong (mcount (uh M 0)) 9 1031))), (0, .ref (za z 55))] := by subst hEj; exact hl
          exact ihL38 (i + 1) (by omega) _ _ _ h (lv_sub hl [0, 2, 3] rfl)
        | succ g ihL49 =>
          intro j hdj H locs ls h hl
          have hEj : j < 8 := by omega
          refine lv_iload hx hb dX2_digest_49 (lv_at hl 0 rfl) ?_
          refine lv_bipush (v := 8) hx hb dX2_digest_51 (by decide) ?_
          refine lv_icmp_ge (tgt := 77) hx hb dX2_digest_53 (by decide) (fun q9 => absurd q9 (nI_ge (b := 8) (by omega) (by omega))) (fun _ => ?_)
          refine lv_lload_n hx hb dX2_digest_56 rfl (lv_at hl 2 rfl) ?_
          refine lv_ldc2 hx hb hown (hts (.constantLong RX2 118 (31)) (by decide +kernel)) dX2_digest_57 ?_
          refine lv_lmul hx hb dX2_digest_60 ?_
          refine lv_aload_n hx hb dX2_digest_61 rfl (lv_at hl 3 rfl) ?_
          refine lv_iload_n hx hb dX2_digest_62 rfl (lv_at hl 1 rfl) ?_
          refine lv_iload hx hb dX2_digest_63 (lv_at hl 0 rfl) ?_
          refine S_callVi C0 hK h (c_X2_la l z (uh M 0) i (by omega) j (by omega)) (cwV 2 hts gX2_digest_X2_la rfl rfl rfl (by decide +kernel) ⟨Nat.le_of_ble_eq_true rfl, Nat.le_of_ble_eq_true rfl⟩) (k := 55) (ci := 2) (by omega) (fun ct hA => hA.1) rfl rfl rfl hl.1 (rest := [.long ((qlong (fun w => mA (uh M 0) (8 * i + w)) j (mdigT (uh M 0) i (qlong (mcount (uh M 0)) 9 1031))) * 31)]) rfl (Nat.le_of_ble_eq_true rfl) ⟨Nat.le_of_ble_eq_true rfl, Nat.le_of_ble_eq_true rfl⟩ dX2_digest_65 (fun r u H locs hp h => ?_)
          obtain ⟨rfl, hu9⟩ := hp
          rw [hu9] at h
          refine lv_i2l hx hb dX2_digest_68 rfl ?_
          refine lv_ladd hx hb dX2_digest_69 ?_
          refine lv_lstore_n (lv' := [(1, .long (((qlong (fun w => mA (uh M 0) (8 * i + w)) j (mdigT (uh M 0) i (qlong (mcount (uh M 0)) 9 1031))) * 31) + ((mA (uh M 0) (8 * i + j)).toInt64))), (4, .int (nI j)), (3, .int (nI i)), (0, .ref (za z 55))]) hx hb dX2_digest_70 rfl hl (by decide) rfl (fun ls hl => ?_)
          refine lv_iinc (v := nI (j + 1)) (lv' := [(4, .int (nI (j + 1))), (1, .long (((qlong (fun w => mA (uh M 0) (8 * i + w)) j (mdigT (uh M 0) i (qlong (mcount (uh M 0)) 9 1031))) * 31) + ((mA (uh M 0) (8 * i + j)).toInt64))), (3, .int (nI i)), (0, .ref (za z 55))]) hx hb dX2_digest_71 hl (k := 1) rfl (q_inc j 1) (by decide) rfl (fun ls hl => ?_)
          refine lv_goto (tgt := 49) hx hb dX2_digest_74 (by decide) ?_
          have hl : lv_has ls 5 [(4, .int (nI (j + 1))), (1, .long (qlong (fun w => mA (uh M 0) (8 * i + w)) (j + 1) (mdigT (uh M 0) i (qlong (mcount (uh M 0)) 9 1031)))), (3, .int (nI i)), (0, .ref (za z 55))] := hl
          exact ihL49 (j + 1) (by omega) _ _ _ h (lv_sub hl [0, 2, 1, 3] rfl)
      refine lv_iload_n hx hb dX2_digest_38 rfl (lv_at hl 0 rfl) ?_
      refine lv_aload_n hx hb dX2_digest_39 rfl (lv_at hl 2 rfl) ?_
      refine M_g C0 hK h hin2 1 (by decide) (by decide +kernel) rfl dX2_digest_40 ?_
      refine lv_icmp_ge (tgt := 83) hx hb dX2_digest_43 (by decide) (fun q9 => absurd q9 (nI_ge (b := mt_ M) (by omega) (by omega))) (fun _ => ?_)
      refine lv_iconst (v := 0) hx hb dX2_digest_46 (by decide) ?_
      refine lv_istore (lv' := [(4, .int 0), (3, .int (nI i)), (1, .long (mdigT (uh M 0) i (qlong (mcount (uh M 0)) 9 1031))), (0, .ref (za z 55))]) hx hb dX2_digest_47 hl (by decide) rfl (fun ls hl => ?_)
      exact L49 (8) 0 (by omega) _ _ _ h (lv_sub hl [0, 1, 2, 3] rfl)
  have L11 : ∀ (d i : Nat), i + d = 9 → ∀ (H : Heap) (locs : List Loc) (ls : Array Slot), GW z (MAt z) 55 59 s.heap ct (uh M 0) H locs → lv_has ls 5 [(3, .int (nI i)), (1, .long (qlong (mcount (uh M 0)) i 1031)), (0, .ref (za z 55))] → W p l e ({ frames := 4, cells := 0, slots := 0, locals := 87 } : Room) s m [.ref (za z 55)].toArray below meth c H locs 0 0 (EL z (MAt z) 55 59 ct s below [.ref (za z 55)] 0 0 (fun r M' => r = mdigP (uh M 0) (mp_ M) (mdigT (uh M 0) (mt_ M) (qlong (mcount (uh M 0)) 9 1031)) ∧ M' = uh M 0)) (F0 m 11 ls []) := by
    intro  d
    induction d with
    | zero =>
      intro i hdi H locs ls h hl
      have hEi : i = 9 := by omega
      refine lv_iload_n hx hb dX2_digest_11 rfl (lv_at hl 0 rfl) ?_
      refine lv_bipush (v := 9) hx hb dX2_digest_12 (by decide) ?_
      refine lv_icmp_ge (tgt := 36) hx hb dX2_digest_14 (by decide) (fun _ => ?_) (fun q9 => absurd (nI_le (a := 9) (by omega) (by omega)) q9)
      refine lv_iconst (v := 0) hx hb dX2_digest_36 (by decide) ?_
      refine lv_istore_n (lv' := [(3, .int 0), (1, .long (qlong (mcount (uh M 0)) i 1031)), (0, .ref (za z 55))]) hx hb dX2_digest_37 rfl hl (by decide) rfl (fun ls hl => ?_)
      have hl : lv_has ls 5 [(3, .int 0), (1, .long (qlong (mcount (uh M 0)) 9 1031)), (0, .ref (za z 55))] := by subst hEi; exact hl
      exact L38 (mt_ M) 0 (by omega) _ _ _ h (lv_sub hl [0, 1, 2] rfl)
    | succ d ihL11 =>
      intro i hdi H locs ls h hl
      have hEi : i < 9 := by omega
      refine lv_iload_n hx hb dX2_digest_11 rfl (lv_at hl 0 rfl) ?_
      refine lv_bipush (v := 9) hx hb dX2_digest_12 (by decide) ?_
      refine lv_icmp_ge (tgt := 36) hx hb dX2_digest_14 (by decide) (fun q9 => absurd q9 (nI_ge (b := 9) (by omega) (by omega))) (fun _ => ?_)
      refine lv_lload_n hx hb dX2_digest_17 rfl (lv_at hl 1 rfl) ?_
      refine lv_ldc2 hx hb hown (hts (.constantLong RX2 118 (31)) (by decide +kernel)) dX2_digest_18 ?_
      refine lv_lmul hx hb dX2_digest_21 ?_
      refine lv_aload_n hx hb dX2_digest_22 rfl (lv_at hl 2 rfl) ?_
      refine lv_iload_n hx hb dX2_digest_23 rfl (lv_at hl 0 rfl) ?_
      refine S_callVi C0 hK h (c_X2_counted l z (uh M 0) hk i (by omega)) (cwV 1 hts gX2_digest_X2_counted rfl rfl rfl (by decide +kernel) ⟨Nat.le_of_ble_eq_true rfl, Nat.le_of_ble_eq_true rfl⟩) (k := 55) (ci := 2) (by omega) (fun ct hA => hA.1) rfl rfl rfl hl.1 (rest := [.long ((qlong (mcount (uh M 0)) i 1031) * 31)]) rfl (Nat.le_of_ble_eq_true rfl) ⟨Nat.le_of_ble_eq_true rfl, Nat.le_of_ble_eq_true rfl⟩ dX2_digest_24 (fun r u H locs hp h => ?_)
      obtain ⟨rfl, hu9⟩ := hp
      rw [hu9] at h
      refine lv_i2l hx hb dX2_digest_27 rfl ?_
      refine lv_ladd hx hb dX2_digest_28 ?_
      refine lv_lstore_n (lv' := [(1, .long (((qlong (mcount (uh M 0)) i 1031) * 31) + ((mcount (uh M 0) i).toInt64))), (3, .int (nI i)), (0, .ref (za z 55))]) hx hb dX2_digest_29 rfl hl (by decide) rfl (fun ls hl => ?_)
      refine lv_iinc (v := nI (i + 1)) (lv' := [(3, .int (nI (i + 1))), (1, .long (((qlong (mcount (uh M 0)) i 1031) * 31) + ((mcount (uh M 0) i).toInt64))), (0, .ref (za z 55))]) hx hb dX2_digest_30 hl (k := 1) rfl (q_inc i 1) (by decide) rfl (fun ls hl => ?_)
      refine lv_goto (tgt := 11) hx hb dX2_digest_33 (by decide) ?_
      have hl : lv_has ls 5 [(3, .int (nI (i + 1))), (1, .long (qlong (mcount (uh M 0)) (i + 1) 1031)), (0, .ref (za z 55))] := hl
      exact ihL11 (i + 1) (by omega) _ _ _ h (lv_sub hl [0, 1, 2] rfl)
  refine lv_aload_n hx hb dX2_digest_0 rfl (lv_at hl 0 rfl) ?_
  refine lv_iconst (v := 0) hx hb dX2_digest_1 (by decide) ?_
  refine N_ph C0 hK h hin2 (by decide +kernel) dX2_digest_2 (fun H locs M1 eM1 h => ?_)
  subst eM1
  refine lv_ldc2 hx hb hown (hts (.constantLong RX2 116 (1031)) (by decide +kernel)) dX2_digest_5 ?_
  refine lv_lstore_n (lv' := [(1, .long 1031), (0, .ref (za z 55))]) hx hb dX2_digest_8 rfl hl (by decide) rfl (fun ls hl => ?_)
  refine lv_iconst (v := 0) hx hb dX2_digest_9 (by decide) ?_
  refine lv_istore_n (lv' := [(3, .int 0), (1, .long 1031), (0, .ref (za z 55))]) hx hb dX2_digest_10 rfl hl (by decide) rfl (fun ls hl => ?_)
  exact L11 (9) 0 (by omega) _ _ _ h (lv_sub hl [0, 1, 2] rfl)
set_option maxHeartbeats 4000000 in
set_option maxRecDepth 100000 in
theorem c_X2_mean (l : Launch) (z : QZ) (M : QMs) (hk : MOk M) : GD l yX2_mean wsX2_mean ({ frames := 2, cells := 0, slots := 0, locals := 45 } : Room) z [.ref (za z 55)] 0 0 (MAt z) 55 59 M (fun r M' => r = mmean (uh M 0) ∧ M' = uh M 0) := by
  intro ct sz hn hq hat
  refine q_entry (lo := 55) (cc := cX2_mean) (maxL := 1) (ret := (some .double)) (by decide) rfl (Nat.le_of_ble_eq_true rfl) hn hq hat ?_
  intro p e s m below meth c ls C0 hK hsz h hl
  subst hsz
  obtain ⟨hx, hb, hr, hml, hown, hts, hlocks⟩ := id C0
  have hin2 : ∀ w ∈ u_ws RX2 TX2 6, w ∈ wsX2_mean := by decide +kernel
  have hl : lv_has ls 1 [(0, .ref (za z 55))] := hl
  refine lv_aload_n hx hb dX2_mean_0 rfl (lv_at hl 0 rfl) ?_
  refine lv_iconst (v := 0) hx hb dX2_mean_1 (by decide) ?_
  refine N_ph C0 hK h hin2 (by decide +kernel) dX2_mean_2 (fun H locs M1 eM1 h => ?_)
  subst eM1
  refine lv_aload_n hx hb dX2_mean_5 rfl (lv_at hl 0 rfl) ?_
  refine M_g C0 hK h hin2 5 (by decide) (by decide +kernel) rfl dX2_mean_6 ?_
  refine lv_iconst (v := 0) hx hb dX2_mean_9 (by decide) ?_
  refine M_ldY C0 hK h (k := 0) rfl (by omega) dX2_mean_10 ?_
  refine lv_if_ne (tgt := 18) hx hb dX2_mean_11 (by decide) (fun c_11 => ?_) (fun c_11 => ?_)
  · refine lv_aload_n hx hb dX2_mean_18 rfl (lv_at hl 0 rfl) ?_
    refine lv_bipush (v := 6) hx hb dX2_mean_19 (by decide) ?_
    refine S_callVi C0 hK h (c_X2_all l z (uh M 0) hk 6 (by decide)) (cwV 1 hts gX2_mean_X2_all rfl rfl rfl (by decide +kernel) ⟨Nat.le_of_ble_eq_true rfl, Nat.le_of_ble_eq_true rfl⟩) (k := 55) (ci := 2) (by omega) (fun ct hA => hA.1) rfl rfl rfl hl.1 (rest := []) rfl (Nat.le_of_ble_eq_true rfl) ⟨Nat.le_of_ble_eq_true rfl, Nat.le_of_ble_eq_true rfl⟩ dX2_mean_21 (fun r u H locs hp h => ?_)
    obtain ⟨rfl, hu9⟩ := hp
    rw [hu9] at h
    refine lv_i2d hx hb dX2_mean_24 ?_
    refine lv_aload_n hx hb dX2_mean_25 rfl (lv_at hl 0 rfl) ?_
    refine M_g C0 hK h hin2 5 (by decide) (by decide +kernel) rfl dX2_mean_26 ?_
    refine lv_iconst (v := 0) hx hb dX2_mean_29 (by decide) ?_
    refine M_ldY C0 hK h (k := 0) rfl (by omega) dX2_mean_30 ?_
    refine lv_i2d hx hb dX2_mean_31 ?_
    refine lv_ddiv hx hb dX2_mean_32 (q_ddiv c_11) ?_
    exact G_dret C0 hK h ⟨by unfold mmean; rw [if_neg c_11], rfl⟩ (Nat.le_of_ble_eq_true rfl) (Nat.le_of_ble_eq_true rfl) dX2_mean_33
  · refine lv_dconst0 hx hb dX2_mean_14 ?_
    refine lv_goto (tgt := 33) hx hb dX2_mean_15 (by decide) ?_
    exact G_dret C0 hK h ⟨by unfold mmean; rw [if_pos c_11], rfl⟩ (Nat.le_of_ble_eq_true rfl) (Nat.le_of_ble_eq_true rfl) dX2_mean_33
end
section
/-! PART 25: worlds that grow; the reference's kept and bringBack -/
abbrev qR (n : Nat) (c : ClassId) (f : Nat → Option Nat) : va_E := .inl (c, n, .inr (.inr (.inr (.inr f))))
abbrev zx (z : QZ) (q : Nat) : QZ := (z.1, z.2.1, z.2.2.1, z.2.2.2.1, zn z + 1, va_up (za z) (zn z) q)
theorem wd_snoc {n : Nat} {ad : Nat → Nat} {ct : Nat → va_E} {q : Nat} {e : va_E} : wd n ad ct ++ [(q, e)] = wd (n + 1) (va_up ad n q) (va_up ct n e) := by
  unfold wd
  rw [List.range_succ, List.map_append]
  congr 1
  · apply List.map_congr_left
    intro k hk
    have := List.mem_range.mp hk
    rw [va_up_ne _ _ (by omega), va_up_ne _ _ (by omega)]
  · simp [va_up_self]
theorem wd_qI {n : Nat} {ad : Nat → Nat} {ct : Nat → va_E} {A : Nat → Prop} (h : va_D A (wd n ad ct)) : qI n ad := fun i j hi hj e => h.1 i j _ _ (wd_get hi) (wd_get hj) e
theorem wd_at {n : Nat} {ad : Nat → Nat} {ct : Nat → va_E} {X : va_W} {k : Nat} (h : k < n) : (wd n ad ct ++ X)[k]? = some (ad k, ct k) := by
  rw [List.getElem?_append_left (by rw [wd_len]; exact h)]; exact wd_get h
theorem wd_tl {n : Nat} {ad : Nat → Nat} {ct : Nat → va_E} {X : va_W} (j : Nat) : (wd n ad ct ++ X)[n + j]? = X[j]? := by
  rw [List.getElem?_append_right (by rw [wd_len]; omega), wd_len, Nat.add_sub_cancel_left]
theorem wd_tset {n : Nat} {ad : Nat → Nat} {ct : Nat → va_E} {X : va_W} {j : Nat} {y : Nat × va_E} : (wd n ad ct ++ X).set (n + j) y = wd n ad ct ++ X.set j y := by
  rw [List.set_append_right _ _ (by rw [wd_len]; omega), wd_len, Nat.add_sub_cancel_left]
theorem qA_x {z : QZ} {q sz x : Nat} (hq : sz ≤ q) : qA (zn (zx z q)) (za (zx z q)) sz x ↔ qA (zn z) (za z) sz x := by
  constructor
  · rintro (⟨k, hk, e⟩ | h)
    · by_cases h1 : k = zn z
      · subst h1
        rw [show za (zx z q) (zn z) = q from va_up_self _ _ _] at e
        exact Or.inr (by omega)
      · rw [show za (zx z q) k = za z k from va_up_ne _ _ h1] at e
        exact Or.inl ⟨k, by have : k < zn z + 1 := hk; omega, e⟩
    · exact Or.inr h
  · rintro (⟨k, hk, e⟩ | h)
    · exact Or.inl ⟨k, by show k < zn z + 1; omega, by rw [show za (zx z q) k = za z k from va_up_ne _ _ (by omega)]; exact e⟩
    · exact Or.inr h
theorem va_S.iff {A B : Nat → Prop} (h : ∀ x, A x ↔ B x) {H0 H : Heap} {locs : List Loc} (hS : va_S A H0 H locs) : va_S B H0 H locs := ⟨hS.1, fun q h1 h2 => hS.2.1 q h1 (fun h3 => h2 ((h q).mp h3)), fun l hl => (h _).mp (hS.2.2 l hl)⟩
theorem wd_new {n : Nat} {ad : Nat → Nat} {ct : Nat → va_E} {q sz : Nat} {e : va_E} (hD : va_D (qA n ad sz) (wd n ad ct ++ [(q, e)])) : sz ≤ q := by
  have h1 : (wd n ad ct ++ [(q, e)])[n + 0]? = some (q, e) := wd_tl 0
  rcases hD.2 _ _ h1 with ⟨k, hk, e1⟩ | h
  · have := hD.1 k (n + 0) _ _ (wd_at hk) h1 e1
    omega
  · exact h
/-- the state of a world that has one cell more -/
theorem GW_push {z : QZ} {α : Type} {At : α → (Nat → va_E) → Prop} {lo hi : Nat} {H0 H1 : Heap} {c0 ct : Nat → va_E} {a : α} {locs : List Loc} {q : Nat} {e : va_E}
    (hP : va_P (zG z) vwCl (wd (zn z) (za z) ct ++ [(q, e)]) H1) (hD : va_D (qA (zn z) (za z) H0.size) (wd (zn z) (za z) ct ++ [(q, e)])) (hS : va_S (qA (zn z) (za z) H0.size) H0 H1 locs) (hA : At a (va_up ct (zn z) e)) (hF : Fr lo hi c0 ct) (hn : hi ≤ zn z) :
    H0.size ≤ q ∧ GW (zx z q) At lo hi H0 (va_up c0 (zn z) e) a H1 locs := by
  have hq := wd_new hD
  refine ⟨hq, va_up ct (zn z) e, ?_, ?_, hA, ?_, by show hi ≤ zn z + 1; omega, ?_⟩
  · rw [wd_snoc] at hP; exact hP
  · exact hS.iff (fun x => (qA_x hq).symm)
  · intro k hk
    by_cases h : k = zn z
    · subst h; rw [va_up_self, va_up_self]
    · rw [va_up_ne _ _ h, va_up_ne _ _ h]; exact hF k hk
  · rw [wd_snoc] at hD; exact wd_qI hD
/-- back to the world without it -/
theorem GW_pop {z : QZ} {α : Type} {At At2 : α → (Nat → va_E) → Prop} {lo hi : Nat} {H0 H1 : Heap} {c0 c1 : Nat → va_E} {a : α} {locs : List Loc} {q : Nat} (h : GW (zx z q) At lo hi H0 c1 a H1 locs) (hq : H0.size ≤ q) (hc : ∀ k, k < zn z → c1 k = c0 k) (hn : hi ≤ zn z) (hA : ∀ ct ct2, At a ct → (∀ k, k < zn z → ct2 k = ct k) → At2 a ct2) : GW z At2 lo hi H0 c0 a H1 locs := by
  obtain ⟨ct, hP, hS, hat, hF, -, hI⟩ := h
  refine ⟨fun k => if k < zn z then ct k else c0 k, ?_, ?_, hA ct _ hat (fun k hk => if_pos hk), ?_, hn, fun i j hi hj e => ?_⟩
  · intro k x hk
    obtain ⟨h1, rfl⟩ := wd_of hk
    have h2 := hP k _ (wd_get (show k < zn (zx z q) by show k < zn z + 1; omega))
    rw [show za (zx z q) k = za z k from va_up_ne _ _ (by omega)] at h2
    show va_at (zG z) vwCl (za z k, if k < zn z then ct k else c0 k) H1
    rw [if_pos h1]; exact h2
  · exact hS.iff (fun x => qA_x hq)
  · intro k hk
    show (if k < zn z then ct k else c0 k) = c0 k
    by_cases h1 : k < zn z
    · rw [if_pos h1, hF k hk, hc k h1]
    · rw [if_neg h1]
  · refine hI i j (by show i < zn z + 1; omega) (by show j < zn z + 1; omega) ?_
    rw [show za (zx z q) i = za z i from va_up_ne _ _ (by omega), show za (zx z q) j = za z j from va_up_ne _ _ (by omega)]; exact e
theorem MAt.same {z z2 : QZ} {M : QMs} {ct ct2 : Nat → va_E} (h : MAt z M ct) (ha : ∀ k, 55 ≤ k → k < 59 → za z2 k = za z k) (hI : zI z2 = zI z) (hk : ∀ k, 55 ≤ k → k < 59 → ct2 k = ct k) : MAt z2 M ct2 := by
  have h2 := h.off hk
  obtain ⟨h1, h3, h4, h5⟩ := h2
  refine ⟨?_, by rw [hI]; exact h3, by rw [hI]; exact h4, by rw [hI]; exact h5⟩
  rw [h1]; unfold mO
  rw [ha 56 (by omega) (by omega), ha 57 (by omega) (by omega), ha 58 (by omega) (by omega)]
theorem q_asg (vm : Vm) (c : ClassId) : vm.assignable c c = true := by
  show Vm.assignableAux vm (255 + 1) c c = true
  rw [Vm.assignableAux]
  simp only [beq_self_eq_true, Bool.true_or]
section QKP
variable {p : Program} {l : Launch} {e : Env} {R : Room} {s : State} {m : MethodId} {args : Array Value} {below : List Frame} {meth : Method} {c : Code} {H : Heap} {locs : List Loc} {cells slots : Nat} {Q : State → Prop}
variable {cc : ByteArray} {nL : Nat} {ret : Option FieldType} {own : String} {ws : List Cond} {pc : Nat} {ls : Array Slot} {rest : List Value} {z : QZ} {w : va_W} {A : Nat → Prop} {H0 : Heap}
theorem q_nmI (hK : QK z s) : s.vm.findClass "[I" = some (zI z) := (hK.1.2 0 _ rfl).2
theorem q_nmR (hK : QK z s) : s.vm.findClass "[[I" = some (zR z) := (hK.1.2 1 _ rfl).2
theorem q_kdR (hK : QK z s) : ∃ k : Class, s.vm.classes[zR z]? = some k ∧ k.kind = .array (zI z) (.array .int) := by
  obtain ⟨comp, cA, kA, h1, h2, h3, h4, h5⟩ := arrayOverA_spec hK.2.1
  have e1 : comp = zI z := Option.some.inj (h1.symm.trans (q_nmI hK))
  have e2 : cA = zR z := Option.some.inj (h5.symm.trans (q_nmR hK))
  subst e1; subst e2
  exact ⟨kA, h3, h4⟩
/-- new int[n][] -/
theorem q_anew (C0 : Cx p s m args meth c cc nL ret own ws) (hK : QK z s) (hP : va_P (zG z) vwCl w H) (hD : va_D A w) (hS : va_S A H0 H locs) (hA : ∀ q, H0.size ≤ q → A q) {index : Nat} (hl : Cond.classLink own index "[I" ∈ ws) {n : Nat} {x : Int32} (hx : x = nI n) (hn : n < 1000) (hc : cells + 1 ≤ R.cells) (hs : slots + n ≤ R.slots) (hdg : decode cc pc = .ok (.anewarray index, 3))
    (kk : ∀ (q : Nat) (H1 : Heap), va_P (zG z) vwCl (w ++ [(q, qR n (zR z) (fun _ => none))]) H1 → va_D A (w ++ [(q, qR n (zR z) (fun _ => none))]) → va_S A H0 H1 locs → W p l e R s m args below meth c H1 locs (cells + 1) (slots + n) Q (F0 m (pc + 3) ls (.ref q :: rest))) : W p l e R s m args below meth c H locs cells slots Q (F0 m pc ls (.int x :: rest)) := by
  subst hx
  have t0 : (nI n).toNatClampNeg = n := nI_clamp (by omega)
  refine W.anewA (t := .int) C0.1 C0.2.1 C0.2.2.2.2.1 (C0.2.2.2.2.2.1 _ hl) (show (Cond.arrayOver (.array .int)).before args s = true from hK.2.1) rfl hdg rfl (nI_pos (by omega)) (by rw [t0]; omega) hc (by rw [t0]; exact hs) fun cA kA comp f1 f2 f3 f4 => ?_
  have ec : cA = zR z := Option.some.inj (f1.symm.trans (q_nmR hK))
  subst ec
  rw [t0]
  generalize hH1 : H.push ({ cls := zR z, slots := Array.replicate n .null, vm := .none } : Cell) = H1
  have z1 : H1.size = H.size + 1 := by rw [← hH1, Array.size_push]
  have e1 : H1[H.size]? = some (arrV (zR z) n (fun _ => .null)) := by rw [← hH1, Array.getElem?_push_size, ← arrV_new]
  have o1 : ∀ q : Nat, q < H.size → H1[q]? = H[q]? := fun q hq => by rw [← hH1, Array.getElem?_push, if_neg (Nat.ne_of_lt hq)]
  refine kk H.size H1 ((hP.kept (fun k y hy => o1 y.1 ((hP k y hy).lt))).app (fun k y hy => ?_)) (hD.push hP rfl (hA _ hS.1)) ⟨Nat.le_trans hS.1 (by omega), fun y h1 h2 => (o1 y (Nat.lt_of_lt_of_le h1 hS.1)).trans (hS.2.1 y h1 h2), hS.2.2⟩
  have hz : k < 1 := (List.getElem?_eq_some_iff.mp hy).1
  rw [show k = 0 by omega] at hy
  cases hy
  show H1[H.size]? = some (vp_cell _ _)
  rw [e1, vp_cell_q]
  rfl
/-- an int array into a place of an array of arrays -/
theorem q_aast (C0 : Cx p s m args meth c cc nL ret own ws) (hK : QK z s) (hP : va_P (zG z) vwCl w H) (hD : va_D A w) (hS : va_S A H0 H locs) (q0 qv : Nat) {a v n nv : Nat} {f : Nat → Option Nat} {g : Nat → Int32} (ha : w[q0]? = some (a, qR n (zR z) f)) (hv : w[qv]? = some (v, .inl (zI z, nv, .inl g))) {x : Int32} {i : Nat} (hx : x = nI i) (hi : i < n) (hn : n < 1000) (hdg : decode cc pc = .ok (.aastore, 1))
    (kk : ∀ (H1 : Heap) (locs1 : List Loc), va_P (zG z) vwCl (w.set q0 (a, qR n (zR z) (va_up f i (some v)))) H1 → va_D A (w.set q0 (a, qR n (zR z) (va_up f i (some v)))) → va_S A H0 H1 locs1 → W p l e R s m args below meth c H1 locs1 cells slots Q (F0 m (pc + 1) ls rest)) : W p l e R s m args below meth c H locs cells slots Q (F0 m pc ls (.ref v :: .int x :: .ref a :: rest)) := by
  subst hx
  have t0 : (nI i).toNatClampNeg = i := nI_clamp (by omega)
  obtain ⟨kR, k1, k2⟩ := q_kdR hK
  obtain ⟨kE, hkE, -⟩ := Vm.findClass_spec (q_nmI hK)
  refine W.aast C0.1 C0.2.1 (hP q0 _ ha) (fun q h => by cases h) (fun h => by cases h) k1 k2 rfl hkE ⟨nI_pos (by omega), by show _ < (arrV _ _ _).slots.size; rw [arrV_size, t0]; exact hi⟩ (hP qv _ hv) (fun q h => by cases h) hkE (q_asg _ _) rfl rfl hdg fun H1 e9 z9 oq => ?_
  rw [t0] at e9 ⊢
  refine kk H1 _ (hP.set hD ha ?_ oq) (hD.set ha) (hS.put z9 oq (hD.2 q0 _ ha))
  show H1[a]? = some (vp_cell _ _)
  rw [e9]
  rw [vp_cell_q, vp_cell_q, arrV_store]
  congr 2
  funext q
  by_cases hq : q = i
  · subst hq
    simp [updV, va_up, va_rf]
  · simp [updV, va_up, hq]
theorem q_clone (C0 : Cx p s m args meth c cc nL ret own ws) (hK : QK z s) (hsz : ls.size = nL) (hP : va_P (zG z) vwCl w H) (hD : va_D A w) (hS : va_S A H0 H locs) (hA : ∀ q, H0.size ≤ q → A q) (q0 : Nat) {a n : Nat} {f : Nat → Int32} (ha : w[q0]? = some (a, .inl (zI z, n, .inl f))) {index : Nat}
    (h1 : Cond.methodLink own index ⟨"[I", "clone", "()Ljava/lang/Object;"⟩ ∈ ws) (h2 : Cond.sameMethod "[I" "java/lang/Object" "clone" "()Ljava/lang/Object;" ∈ ws) (h3 : Cond.native ⟨"java/lang/Object", "clone", "()Ljava/lang/Object;"⟩ ∈ ws) (h4 : Cond.instanceMethod ⟨"java/lang/Object", "clone", "()Ljava/lang/Object;"⟩ ∈ ws) (h5 : Cond.selects "[I" ⟨"[I", "clone", "()Ljava/lang/Object;"⟩ ⟨"java/lang/Object", "clone", "()Ljava/lang/Object;"⟩ ∈ ws)
    (hr : 1 ≤ R.frames ∧ (rest.map fun v => v.category).sum + 14 ≤ R.locals) (hc : cells + 1 ≤ R.cells) (hs : slots + n ≤ R.slots) (hdg : decode cc pc = .ok (.invokevirtual index, 3))
    (kk : ∀ (q : Nat) (H1 : Heap), va_P (zG z) vwCl (w ++ [(q, .inl (zI z, n, .inl f))]) H1 → va_D A (w ++ [(q, .inl (zI z, n, .inl f))]) → va_S A H0 H1 locs → W p l e R s m args below meth c H1 locs (cells + 1) (slots + n) Q (F0 m (pc + 3) ls (.ref q :: rest))) : W p l e R s m args below meth c H locs cells slots Q (F0 m pc ls (.ref a :: rest)) :=
  va_clone C0.1 C0.2.1 (C0.2.2.2.1.trans hsz.symm) C0.2.2.2.2.1 (C0.2.2.2.2.2.1 _ h1) (C0.2.2.2.2.2.1 _ h2) (C0.2.2.2.2.2.1 _ h3) (C0.2.2.2.2.2.1 _ h4) (C0.2.2.2.2.2.1 _ h5) hK.2.2.1 hK.1 hP hD hS hA q0 0 ha rfl (q_nmI hK)
    (fun i v hv => by
      have hv2 : (arrV (zI z) n (fun j => .int (f j))).slots[i]? = some v := hv
      have hi : i < n := by
        have := (Array.getElem?_eq_some_iff.mp hv2).1
        rwa [arrV_size] at this
      rw [arrV_read _ _ hi] at hv2
      cases hv2
      rfl) hr.1 hr.2 hc hs hdg (fun q H1 _ hP1 hD1 hS1 => kk q H1 hP1 hD1 hS1)
end QKP
/-- the cells that kept makes -/
def kpW (z : QZ) (M : QMs) (r : Nat × Nat × Nat × Nat) : va_W := [(r.1, qR 3 (zR z) (va_up (va_up (va_up (fun _ => none) 0 (some r.2.1)) 1 (some r.2.2.1)) 2 (some r.2.2.2))), (r.2.1, .inl (zI z, 80, .inl (mA M))), (r.2.2.1, .inl (zI z, 126, .inl (mB M))), (r.2.2.2, .inl (zI z, 1, .inl (mY M)))]
set_option maxHeartbeats 4000000 in
set_option maxRecDepth 100000 in
theorem c_X2_kept (l : Launch) (z : QZ) (M : QMs) : ∀ ct sz, 59 ≤ zn z → qI (zn z) (za z) → MAt z M ct → Met l yX2_kept wsX2_kept ({ frames := 1, cells := 4, slots := 210, locals := 20 } : Room) (va_Pc [.ref (za z 55)] (QPre z ct sz)) (va_Qr (fun _ : Nat × Nat × Nat × Nat => True) (fun r a t => a = r.1 ∧ va_P (zG z) vwCl (wd (zn z) (za z) ct ++ kpW z M r) t.heap ∧ QK z t ∧ va_D (qA (zn z) (za z) sz) (wd (zn z) (za z) ct ++ kpW z M r)) (qA (zn z) (za z) sz)) 4 210 (qA (zn z) (za z) sz) := by
  intro ct sz hn hq hat
  refine q_entry (lo := 55) (cc := cX2_kept) (maxL := 1) (ret := (some (.array (.array .int)))) (by decide) rfl (Nat.le_of_ble_eq_true rfl) hn hq hat ?_
  intro p e s m below meth c ls C0 hK hsz h hl
  subst hsz
  obtain ⟨hx, hb, hr, hml, hown, hts, hlocks⟩ := id C0
  have hin2 : ∀ w ∈ u_ws RX2 TX2 6, w ∈ wsX2_kept := by decide +kernel
  have hl : lv_has ls 1 [(0, .ref (za z 55))] := hl
  have hA9 : ∀ q, s.heap.size ≤ q → qA (zn z) (za z) s.heap.size q := fun q h => Or.inr h
  obtain ⟨hM1, hM2, hM3, hM4⟩ := id hat
  have hP : va_P (zG z) vwCl (wd (zn z) (za z) ct) s.heap := by
    obtain ⟨ct9, hP, -, hA2, hF, -, -⟩ := h
    refine fun k q hk => ?_
    obtain ⟨h1, rfl⟩ := wd_of hk
    have h2 := hP k _ (wd_get h1)
    by_cases h3 : 55 ≤ k ∧ k < 59
    · have h4 : k = 55 ∨ k = 56 ∨ k = 57 ∨ k = 58 := by omega
      rcases h4 with rfl | rfl | rfl | rfl
      · rw [hA2.1] at h2; rw [hM1]; exact h2
      · rw [hA2.2.1] at h2; rw [hM2]; exact h2
      · rw [hA2.2.2.1] at h2; rw [hM3]; exact h2
      · rw [hA2.2.2.2] at h2; rw [hM4]; exact h2
    · rw [hF k h3] at h2; exact h2
  have hD : va_D (qA (zn z) (za z) s.heap.size) (wd (zn z) (za z) ct) := wd_DA hq
  have hS : va_S (qA (zn z) (za z) s.heap.size) s.heap s.heap [] := va_S.rf
  refine lv_iconst (v := 3) hx hb dX2_kept_0 (by decide) ?_
  refine q_anew C0 hK hP hD hS hA9 (by decide +kernel) (n := 3) rfl (by decide) (Nat.le_of_ble_eq_true rfl) (Nat.le_of_ble_eq_true rfl) dX2_kept_1 (fun r0 H hP hD hS => ?_)
  refine lv_dup hx hb dX2_kept_4 rfl ?_
  refine lv_iconst (v := 0) hx hb dX2_kept_5 (by decide) ?_
  refine lv_aload_n hx hb dX2_kept_6 rfl (lv_at hl 0 rfl) ?_
  refine va_get hx hb hts hin2 hown hK.1 hP 55 ((wd_at (by omega)).trans (by rw [hM1])) (ci := 2) rfl 3 (by decide) (hts _ (by decide +kernel : Cond.fieldLink RX2 9 (TX2 3).1 (TX2 3).2.1 (TX2 3).2.2.1 ∈ wsX2_kept)) (fun _ h9 => h9) rfl dX2_kept_7 ?_
  refine q_clone C0 hK hl.1 hP hD hS hA9 56 ((wd_at (by omega)).trans (by rw [hM2])) (by decide +kernel) (by decide +kernel) (by decide +kernel) (by decide +kernel) (by decide +kernel) ⟨Nat.le_of_ble_eq_true rfl, Nat.le_of_ble_eq_true rfl⟩ (Nat.le_of_ble_eq_true rfl) (Nat.le_of_ble_eq_true rfl) dX2_kept_10 (fun r1 H hP hD hS => ?_)
  rw [List.append_assoc] at hP hD
  refine va_castA hx hb hown (hts _ (by decide +kernel : Cond.classLink RX2 103 "[I" ∈ wsX2_kept)) hP (zn z + 1) ((wd_tl 1).trans rfl) (q_nmI hK) dX2_kept_13 ?_
  refine q_aast C0 hK hP hD hS (zn z + 0) (zn z + 1) ((wd_tl 0).trans rfl) ((wd_tl 1).trans rfl) (i := 0) rfl (by decide) (by decide) dX2_kept_16 (fun H locs hP hD hS => ?_)
  rw [wd_tset] at hP hD
  refine lv_dup hx hb dX2_kept_17 rfl ?_
  refine lv_iconst (v := 1) hx hb dX2_kept_18 (by decide) ?_
  refine lv_aload_n hx hb dX2_kept_19 rfl (lv_at hl 0 rfl) ?_
  refine va_get hx hb hts hin2 hown hK.1 hP 55 ((wd_at (by omega)).trans (by rw [hM1])) (ci := 2) rfl 4 (by decide) (hts _ (by decide +kernel : Cond.fieldLink RX2 13 (TX2 4).1 (TX2 4).2.1 (TX2 4).2.2.1 ∈ wsX2_kept)) (fun _ h9 => h9) rfl dX2_kept_20 ?_
  refine q_clone C0 hK hl.1 hP hD hS hA9 57 ((wd_at (by omega)).trans (by rw [hM3])) (by decide +kernel) (by decide +kernel) (by decide +kernel) (by decide +kernel) (by decide +kernel) ⟨Nat.le_of_ble_eq_true rfl, Nat.le_of_ble_eq_true rfl⟩ (Nat.le_of_ble_eq_true rfl) (Nat.le_of_ble_eq_true rfl) dX2_kept_23 (fun r2 H hP hD hS => ?_)
  rw [List.append_assoc] at hP hD
  refine va_castA hx hb hown (hts _ (by decide +kernel : Cond.classLink RX2 103 "[I" ∈ wsX2_kept)) hP (zn z + 2) ((wd_tl 2).trans rfl) (q_nmI hK) dX2_kept_26 ?_
  refine q_aast C0 hK hP hD hS (zn z + 0) (zn z + 2) ((wd_tl 0).trans rfl) ((wd_tl 2).trans rfl) (i := 1) rfl (by decide) (by decide) dX2_kept_29 (fun H locs hP hD hS => ?_)
  rw [wd_tset] at hP hD
  refine lv_dup hx hb dX2_kept_30 rfl ?_
  refine lv_iconst (v := 2) hx hb dX2_kept_31 (by decide) ?_
  refine lv_aload_n hx hb dX2_kept_32 rfl (lv_at hl 0 rfl) ?_
  refine va_get hx hb hts hin2 hown hK.1 hP 55 ((wd_at (by omega)).trans (by rw [hM1])) (ci := 2) rfl 5 (by decide) (hts _ (by decide +kernel : Cond.fieldLink RX2 16 (TX2 5).1 (TX2 5).2.1 (TX2 5).2.2.1 ∈ wsX2_kept)) (fun _ h9 => h9) rfl dX2_kept_33 ?_
  refine q_clone C0 hK hl.1 hP hD hS hA9 58 ((wd_at (by omega)).trans (by rw [hM4])) (by decide +kernel) (by decide +kernel) (by decide +kernel) (by decide +kernel) (by decide +kernel) ⟨Nat.le_of_ble_eq_true rfl, Nat.le_of_ble_eq_true rfl⟩ (Nat.le_of_ble_eq_true rfl) (Nat.le_of_ble_eq_true rfl) dX2_kept_36 (fun r3 H hP hD hS => ?_)
  rw [List.append_assoc] at hP hD
  refine va_castA hx hb hown (hts _ (by decide +kernel : Cond.classLink RX2 103 "[I" ∈ wsX2_kept)) hP (zn z + 3) ((wd_tl 3).trans rfl) (q_nmI hK) dX2_kept_39 ?_
  refine q_aast C0 hK hP hD hS (zn z + 0) (zn z + 3) ((wd_tl 0).trans rfl) ((wd_tl 3).trans rfl) (i := 2) rfl (by decide) (by decide) dX2_kept_42 (fun H locs hP hD hS => ?_)
  rw [wd_tset] at hP hD
  refine W.widen (k := 4) (n := 210) (Nat.le_of_ble_eq_true rfl) (Nat.le_of_ble_eq_true rfl) ?_
  exact W.aret hx hb hr (Or.inr ⟨_, rfl⟩) (Or.inr ⟨_, rfl⟩) (fun t ht hW => ⟨⟨(r0, r1, r2, r3), r0, rfl, trivial, rfl, by rw [ht]; exact hP, QK.warm hW hK, hD⟩, hS.F ht⟩) hS.2.2 dX2_kept_43 hlocks
end
section
/-! PART 26: bringBack; calls while the kept cells stand -/
theorem qA_out {N n sz : Nat} {ad ad4 : Nat → Nat} {ct4 : Nat → va_E} (hD : va_D (qA n ad sz) (wd N ad4 ct4)) (hag : ∀ k, k < n → ad4 k = ad k) (hN : n ≤ N) : ∀ k, n ≤ k → k < N → sz ≤ ad4 k := fun k h1 h2 => by
  rcases hD.2 k _ (wd_get h2) with ⟨j, hj, e⟩ | h
  · have := wd_qI hD j k (by omega) h2 (by rw [hag j hj]; exact e)
    omega
  · exact h
theorem qA_two {z zk : QZ} {sz : Nat} (hN : zn z ≤ zn zk) (hag : ∀ k, k < zn z → za zk k = za z k) (hout : ∀ k, zn z ≤ k → k < zn zk → sz ≤ za zk k) (x : Nat) : qA (zn zk) (za zk) sz x ↔ qA (zn z) (za z) sz x := by
  constructor
  · rintro (⟨k, hk, e⟩ | h)
    · by_cases h1 : k < zn z
      · exact Or.inl ⟨k, h1, by rw [← hag k h1]; exact e⟩
      · exact Or.inr (by rw [← e]; exact hout k (by omega) hk)
    · exact Or.inr h
  · rintro (⟨k, hk, e⟩ | h)
    · exact Or.inl ⟨k, by omega, by rw [hag k hk]; exact e⟩
    · exact Or.inr h
theorem GW_grow {z zk : QZ} {α : Type} {At : α → (Nat → va_E) → Prop} {lo hi : Nat} {H0 H1 : Heap} {ct4 : Nat → va_E} {a : α} {locs : List Loc} (hN : zn z ≤ zn zk) (hG : zG zk = zG z) (hag : ∀ k, k < zn z → za zk k = za z k) (hout : ∀ k, zn z ≤ k → k < zn zk → H0.size ≤ za zk k) (hP : va_P (zG z) vwCl (wd (zn zk) (za zk) ct4) H1) (hI : qI (zn zk) (za zk)) (hS : va_S (qA (zn z) (za z) H0.size) H0 H1 locs) (hA : At a ct4) (hn : hi ≤ zn zk) : GW zk At lo hi H0 ct4 a H1 locs :=
  ⟨ct4, by rw [hG]; exact hP, hS.iff (fun x => (qA_two hN hag hout x).symm), hA, Fr.rf, hn, hI⟩
theorem GW_shrink {z zk : QZ} {α : Type} {At At2 : α → (Nat → va_E) → Prop} {lo hi : Nat} {H0 H1 : Heap} {c0 c1 : Nat → va_E} {a : α} {locs : List Loc} (h : GW zk At lo hi H0 c1 a H1 locs) (hout : ∀ k, zn z ≤ k → k < zn zk → H0.size ≤ za zk k) (hag : ∀ k, k < zn z → za zk k = za z k) (hN : zn z ≤ zn zk) (hG : zG zk = zG z) (hc : ∀ k, k < zn z → ¬ (lo ≤ k ∧ k < hi) → c1 k = c0 k) (hn : hi ≤ zn z) (hA : ∀ ct ct2, At a ct → (∀ k, k < zn z → ct2 k = ct k) → At2 a ct2) : GW z At2 lo hi H0 c0 a H1 locs := by
  obtain ⟨ct, hP, hS, hat, hF, -, hI⟩ := h
  refine ⟨fun k => if k < zn z then ct k else c0 k, ?_, hS.iff (qA_two hN hag hout), hA ct _ hat (fun k hk => if_pos hk), ?_, hn, fun i j hi hj e => hI i j (by omega) (by omega) (by rw [hag i hi, hag j hj]; exact e)⟩
  · intro k x hk
    obtain ⟨h1, rfl⟩ := wd_of hk
    have h2 := hP k _ (wd_get (show k < zn zk by omega))
    rw [hag k h1, hG] at h2
    show va_at (zG z) vwCl (za z k, if k < zn z then ct k else c0 k) H1
    rw [if_pos h1]; exact h2
  · intro k hk
    show (if k < zn z then ct k else c0 k) = c0 k
    by_cases h1 : k < zn z
    · rw [if_pos h1, hF k hk, hc k h1 hk]
    · rw [if_neg h1]
def KpAt (z : QZ) (K : Nat) (fA fB fY : Nat → Int32) (ct : Nat → va_E) : Prop := (∃ g : Nat → Option Nat, ct K = qR 3 (zR z) g ∧ g 0 = some (za z (K + 1)) ∧ g 1 = some (za z (K + 2)) ∧ g 2 = some (za z (K + 3))) ∧ ct (K + 1) = .inl (zI z, 80, .inl fA) ∧ ct (K + 2) = .inl (zI z, 126, .inl fB) ∧ ct (K + 3) = .inl (zI z, 1, .inl fY)
theorem KpAt.off {z : QZ} {K : Nat} {fA fB fY : Nat → Int32} {ct ct2 : Nat → va_E} (h : KpAt z K fA fB fY ct) (hk : ∀ k, K ≤ k → ct2 k = ct k) : KpAt z K fA fB fY ct2 := by
  obtain ⟨⟨g, h1, h2⟩, h3, h4, h5⟩ := h
  exact ⟨⟨g, by rw [hk _ (by omega)]; exact h1, h2⟩, by rw [hk _ (by omega)]; exact h3, by rw [hk _ (by omega)]; exact h4, by rw [hk _ (by omega)]; exact h5⟩
def BAt (z : QZ) (K : Nat) (fA fB fY : Nat → Int32) (M : QMs) (ct : Nat → va_E) : Prop := MAt z M ct ∧ KpAt z K fA fB fY ct
theorem BAt.up {z : QZ} {K k : Nat} {fA fB fY : Nat → Int32} {M M2 : QMs} {ct : Nat → va_E} {e : va_E} (h : BAt z K fA fB fY M ct) (hk : k < K) (h2 : MAt z M2 (va_up ct k e)) : BAt z K fA fB fY M2 (va_up ct k e) := ⟨h2, h.2.off (fun j hj => va_up_ne _ _ (by omega))⟩
theorem BAt.fr {z : QZ} {K : Nat} {fA fB fY : Nat → Int32} {M M2 : QMs} {ct ct2 : Nat → va_E} (hK : 59 ≤ K) (h : BAt z K fA fB fY M ct) (h2 : MAt z M2 ct2) (hF : Fr 55 59 ct ct2) : BAt z K fA fB fY M2 ct2 := ⟨h2, h.2.off (fun j hj => hF j (by omega))⟩
section QBB
variable {p : Program} {l : Launch} {e : Env} {R : Room} {s : State} {m : MethodId} {args : Array Value} {below : List Frame} {meth : Method} {c : Code} {H : Heap} {locs : List Loc} {cells slots : Nat} {Q : State → Prop}
variable {cc : ByteArray} {nL : Nat} {ret : Option FieldType} {own : String} {ws : List Cond} {pc : Nat} {ls : Array Slot} {st0 rest : List Value} {z : QZ} {c0 : Nat → va_E} {M : QMs} {K : Nat} {fA fB fY : Nat → Int32}
variable {α : Type} {At : α → (Nat → va_E) → Prop} {lo hi : Nat} {a : α}
theorem G_ialdN (C0 : Cx p s m args meth c cc nL ret own ws) (hK : QK z s) (h : GW z At lo hi s.heap c0 a H locs) {k len : Nat} {f : Nat → Int32} (hk : k < zn z) (hc : ∀ ct, At a ct → ct k = .inl (zI z, len, .inl f)) {i : Int32} {j : Nat} (hij : i = nI j) (hj : j < len) (hlen : len < 2147483648) (hdg : decode cc pc = .ok (.iaload, 1))
    (kk : W p l e R s m args below meth c H locs cells slots Q (F0 m (pc + 1) ls (.int (f j) :: rest))) : W p l e R s m args below meth c H locs cells slots Q (F0 m pc ls (.int i :: .ref (za z k) :: rest)) := by
  obtain ⟨ct, hP, hS, hA, hF, hn, hq⟩ := h
  subst hij
  have e1 : (nI j).toNatClampNeg = j := nI_clamp (by omega)
  refine va_iald C0.1 C0.2.1 hK.1 hP k 0 ((wd_get hk).trans (by rw [hc ct hA])) rfl (vp_in_nI hj (by omega)) hdg ?_
  rw [e1]; exact kk
theorem B_aald (C0 : Cx p s m args meth c cc nL ret own ws) (hK : QK z s) (h : GW z (BAt z K fA fB fY) lo hi s.heap c0 M H locs) (hk : K < zn z) {i : Int32} {j : Nat} (hij : i = nI j) (hj : j < 3) (hdg : decode cc pc = .ok (.aaload, 1))
    (kk : W p l e R s m args below meth c H locs cells slots Q (F0 m (pc + 1) ls (.ref (za z (K + 1 + j)) :: rest))) : W p l e R s m args below meth c H locs cells slots Q (F0 m pc ls (.int i :: .ref (za z K) :: rest)) := by
  obtain ⟨ct, hP, hS, hA, hF, hn, hq⟩ := h
  obtain ⟨g, g1, g2, g3, g4⟩ := hA.2.1
  subst hij
  have e1 : (nI j).toNatClampNeg = j := nI_clamp (by omega)
  have hr : g j = some (za z (K + 1 + j)) := by
    rcases (show j = 0 ∨ j = 1 ∨ j = 2 by omega) with rfl | rfl | rfl
    · exact g2
    · exact g3
    · exact g4
  have hv : vp_in (nI j) 3 := vp_in_nI hj (by omega)
  have hp := hP K _ ((wd_get hk).trans (by rw [g1]))
  have hlt : (nI j).toNatClampNeg < 3 := by rw [e1]; exact hj
  refine W.aald (v := .ref (za z (K + 1 + j))) (ty := .array .int) C0.1 C0.2.1 hp ((hK.1.2 1 _ rfl).1 3 (fun j => va_rf (g j))) rfl (fun q => by cases q) (by show ¬ (nI j < 0 ∨ (arrV _ _ _).slots.size ≤ _); rw [arrV_size]; exact hv) (by show (arrV _ _ _).slots[_]? = _; rw [arrV_read _ _ hlt, e1, hr]; rfl) rfl rfl hdg kk
theorem G_copyN (C0 : Cx p s m args meth c cc nL ret own ws) (hK : QK z s) (hsz : ls.size = nL) (h : GW z At lo hi s.heap c0 a H locs) {k0 k1 n0 n1 sp dp n : Nat} {f g f2 : Nat → Int32} (hk0 : k0 < zn z) (hk1 : lo ≤ k1 ∧ k1 < hi) (hc0 : ∀ ct, At a ct → ct k0 = .inl (zI z, n0, .inl f)) (hc1 : ∀ ct, At a ct → ct k1 = .inl (zI z, n1, .inl g)) {i0 i1 i2 : Int32} (e0 : i0 = nI sp) (e1 : i1 = nI dp) (e2 : i2 = nI n) (h0 : sp + n ≤ n0) (h1 : dp + n ≤ n1) (hb0 : n0 < 2147483648) (hb1 : n1 < 2147483648) (hf2 : ∀ j, j < n1 → va_cpy f g sp dp n j = f2 j) {a' : α} (hu : ∀ ct, At a ct → At a' (va_up ct k1 (.inl (zI z, n1, .inl f2))))
    {index : Nat} (hl : Cond.methodLink own index arraycopyName ∈ ws) (hn : Cond.native arraycopyName ∈ ws) (hs : Cond.static arraycopyName ∈ ws) (hi9 : Cond.initialized "java/lang/System" ∈ ws) (hr : 1 ≤ R.frames ∧ (rest.map fun v => v.category).sum + (nativeFrameWords "java/lang/System" "arraycopy" 5 + 11) ≤ R.locals) (hdg : decode cc pc = .ok (.invokestatic index, 3))
    (kk : ∀ (H1 : Heap) (locs1 : List Loc), GW z At lo hi s.heap c0 a' H1 locs1 → W p l e R s m args below meth c H1 locs1 cells slots Q (F0 m (pc + 3) ls rest)) : W p l e R s m args below meth c H locs cells slots Q (F0 m pc ls (.int i2 :: .int i1 :: .ref (za z k1) :: .int i0 :: .ref (za z k0) :: rest)) := by
  obtain ⟨ct, hP, hS, hA, hF, hn9, hq⟩ := h
  subst e0; subst e1; subst e2
  have t0 : (nI sp).toNatClampNeg = sp := nI_clamp (by omega)
  have t1 : (nI dp).toNatClampNeg = dp := nI_clamp (by omega)
  have t2 : (nI n).toNatClampNeg = n := nI_clamp (by omega)
  refine va_copyi C0.1 C0.2.1 (C0.2.2.2.1.trans hsz.symm) C0.2.2.2.2.1 (C0.2.2.2.2.2.1 _ hl) (C0.2.2.2.2.2.1 _ hn) (C0.2.2.2.2.2.1 _ hs) (C0.2.2.2.2.2.1 _ hi9) hK.1 hP (wd_DA hq) hS k0 k1 0 0 ((wd_get hk0).trans (by rw [hc0 ct hA])) ((wd_get (Nat.lt_of_lt_of_le hk1.2 hn9)).trans (by rw [hc1 ct hA])) rfl rfl rfl (nI_pos (by omega)) (nI_pos (by omega)) (nI_pos (by omega)) (by rw [t0, t2]; exact h0) (by rw [t1, t2]; exact h1) (fun _ _ => rfl) hr.1 hr.2 hdg (fun H1 locs1 hP1 hD1 hS1 => kk H1 locs1 ⟨_, ?_, hS1, hu ct hA, hF.up hk1, hn9, hq⟩)
  rw [t0, t1, t2, wd_set] at hP1
  exact wd_repl hP1 (fun a ha => va_at_int hf2 ha)
theorem G_iastN (C0 : Cx p s m args meth c cc nL ret own ws) (hK : QK z s) (h : GW z At lo hi s.heap c0 a H locs) {k len : Nat} {f f2 : Nat → Int32} (hk : lo ≤ k ∧ k < hi) (hc : ∀ ct, At a ct → ct k = .inl (zI z, len, .inl f)) {i x : Int32} {j : Nat} (hij : i = nI j) (hj : j < len) (hlen : len < 2147483648) (hf2 : ∀ q, q < len → upd f j x q = f2 q) {a' : α} (hu : ∀ ct, At a ct → At a' (va_up ct k (.inl (zI z, len, .inl f2)))) (hdg : decode cc pc = .ok (.iastore, 1))
    (kk : ∀ (H1 : Heap) (locs1 : List Loc), GW z At lo hi s.heap c0 a' H1 locs1 → W p l e R s m args below meth c H1 locs1 cells slots Q (F0 m (pc + 1) ls rest)) : W p l e R s m args below meth c H locs cells slots Q (F0 m pc ls (.int x :: .int i :: .ref (za z k) :: rest)) := by
  obtain ⟨ct, hP, hS, hA, hF, hn, hq⟩ := h
  subst hij
  have e1 : (nI j).toNatClampNeg = j := nI_clamp (by omega)
  refine va_iast C0.1 C0.2.1 hK.1 hP (wd_DA hq) hS k 0 ((wd_get (Nat.lt_of_lt_of_le hk.2 hn)).trans (by rw [hc ct hA])) rfl (vp_in_nI hj (by omega)) hdg (fun H1 locs1 hP1 hD1 hS1 => kk H1 locs1 ⟨_, ?_, hS1, hu ct hA, hF.up hk, hn, hq⟩)
  rw [e1, wd_set] at hP1; exact wd_repl hP1 (fun a ha => va_at_int hf2 ha)
end QBB
set_option maxHeartbeats 4000000 in
set_option maxRecDepth 100000 in
theorem c_X2_bringBack (l : Launch) (z : QZ) (M : QMs) (K : Nat) (fA fB fY : Nat → Int32) (hK9 : 59 ≤ K) (hK8 : K + 4 ≤ zn z) : GV l yX2_bringBack wsX2_bringBack ({ frames := 1, cells := 0, slots := 0, locals := 60 } : Room) z [.ref (za z 55), .ref (za z K)] 0 0 (BAt z K fA fB fY) 55 59 M (fun M' => M' = (mH M, mt_ M, mp_ M, fA, fB, fY)) := by
  intro ct sz hn hq hat
  refine q_entry (lo := 55) (cc := cX2_bringBack) (maxL := 2) (ret := none) (by decide) rfl (Nat.le_of_ble_eq_true rfl) hn hq hat ?_
  intro p e s m below meth c ls C0 hK hsz h hl
  subst hsz
  obtain ⟨hx, hb, hr, hml, hown, hts, hlocks⟩ := id C0
  have hin2 : ∀ w ∈ u_ws RX2 TX2 6, w ∈ wsX2_bringBack := by decide +kernel
  have hl : lv_has ls 2 [(0, .ref (za z 55)), (1, .ref (za z K))] := hl
  refine lv_aload_n hx hb dX2_bringBack_0 rfl (lv_at hl 1 rfl) ?_
  refine lv_iconst (v := 0) hx hb dX2_bringBack_1 (by decide) ?_
  refine B_aald C0 hK h (by omega) (j := 0) rfl (by decide) dX2_bringBack_2 ?_
  refine lv_iconst (v := 0) hx hb dX2_bringBack_3 (by decide) ?_
  refine lv_aload_n hx hb dX2_bringBack_4 rfl (lv_at hl 0 rfl) ?_
  refine G_get C0 hK h hin2 2 rfl (by omega) (fun ct hA => hA.1.1) 3 (by decide) (by decide +kernel) rfl dX2_bringBack_5 ?_
  refine lv_iconst (v := 0) hx hb dX2_bringBack_8 (by decide) ?_
  refine lv_aload_n hx hb dX2_bringBack_9 rfl (lv_at hl 0 rfl) ?_
  refine G_get C0 hK h hin2 2 rfl (by omega) (fun ct hA => hA.1.1) 3 (by decide) (by decide +kernel) rfl dX2_bringBack_10 ?_
  refine G_alen C0 hK h (by omega) (fun ct hA => hA.1.2.1) dX2_bringBack_13 ?_
  refine G_copyN C0 hK hl.1 h (k0 := K + 1 + 0) (n := 80) (sp := 0) (dp := 0) (by omega) (by omega) (fun ct hA => hA.2.2.1) (fun ct hA => hA.1.2.1) rfl rfl rfl (by omega) (by omega) (by omega) (by omega) (f2 := fA) (fun q hq => by rw [pk_cpy_in (by omega) (by omega)]; congr 1; omega) (a' := uA M fA) (fun ct hA => hA.up (by omega) (hA.1.A _)) (by decide +kernel) (by decide +kernel) (by decide +kernel) (by decide +kernel) (by decide) dX2_bringBack_14 (fun H locs h => ?_)
  refine lv_aload_n hx hb dX2_bringBack_17 rfl (lv_at hl 1 rfl) ?_
  refine lv_iconst (v := 1) hx hb dX2_bringBack_18 (by decide) ?_
  refine B_aald C0 hK h (by omega) (j := 1) rfl (by decide) dX2_bringBack_19 ?_
  refine lv_iconst (v := 0) hx hb dX2_bringBack_20 (by decide) ?_
  refine lv_aload_n hx hb dX2_bringBack_21 rfl (lv_at hl 0 rfl) ?_
  refine G_get C0 hK h hin2 2 rfl (by omega) (fun ct hA => hA.1.1) 4 (by decide) (by decide +kernel) rfl dX2_bringBack_22 ?_
  refine lv_iconst (v := 0) hx hb dX2_bringBack_25 (by decide) ?_
  refine lv_aload_n hx hb dX2_bringBack_26 rfl (lv_at hl 0 rfl) ?_
  refine G_get C0 hK h hin2 2 rfl (by omega) (fun ct hA => hA.1.1) 4 (by decide) (by decide +kernel) rfl dX2_bringBack_27 ?_
  refine G_alen C0 hK h (by omega) (fun ct hA => hA.1.2.2.1) dX2_bringBack_30 ?_
  refine G_copyN C0 hK hl.1 h (k0 := K + 1 + 1) (n := 126) (sp := 0) (dp := 0) (by omega) (by omega) (fun ct hA => hA.2.2.2.1) (fun ct hA => hA.1.2.2.1) rfl rfl rfl (by omega) (by omega) (by omega) (by omega) (f2 := fB) (fun q hq => by rw [pk_cpy_in (by omega) (by omega)]; congr 1; omega) (a' := uB (uA M fA) fB) (fun ct hA => hA.up (by omega) (hA.1.B _)) (by decide +kernel) (by decide +kernel) (by decide +kernel) (by decide +kernel) (by decide) dX2_bringBack_31 (fun H locs h => ?_)
  have hf9 : ∀ (x : Nat → Int32) (q : Nat), q < 1 → upd x 0 (fY 0) q = fY q := fun x q hq => by rw [show q = 0 by omega]; exact pk_us
  refine lv_aload_n hx hb dX2_bringBack_34 rfl (lv_at hl 0 rfl) ?_
  refine G_get C0 hK h hin2 2 rfl (by omega) (fun ct hA => hA.1.1) 5 (by decide) (by decide +kernel) rfl dX2_bringBack_35 ?_
  refine lv_iconst (v := 0) hx hb dX2_bringBack_38 (by decide) ?_
  refine lv_aload_n hx hb dX2_bringBack_39 rfl (lv_at hl 1 rfl) ?_
  refine lv_iconst (v := 2) hx hb dX2_bringBack_40 (by decide) ?_
  refine B_aald C0 hK h (by omega) (j := 2) rfl (by decide) dX2_bringBack_41 ?_
  refine lv_iconst (v := 0) hx hb dX2_bringBack_42 (by decide) ?_
  refine G_ialdN C0 hK h (k := K + 1 + 2) (by omega) (fun ct hA => hA.2.2.2.2) (j := 0) rfl (by decide) (by decide) dX2_bringBack_43 ?_
  refine G_iastN C0 hK h (k := 58) (by omega) (fun ct hA => hA.1.2.2.2) (j := 0) rfl (by decide) (by decide) (f2 := fY) (hf9 _) (a' := uY (uB (uA M fA) fB) fY) (fun ct hA => hA.up (by omega) (hA.1.Y _)) dX2_bringBack_44 (fun H locs h => ?_)
  exact G_vret C0 hK h rfl (Nat.le_of_ble_eq_true rfl) (Nat.le_of_ble_eq_true rfl) dX2_bringBack_45
section QBC
variable {p : Program} {l : Launch} {e : Env} {R : Room} {s : State} {m : MethodId} {args : Array Value} {below : List Frame} {meth : Method} {c : Code} {H : Heap} {locs : List Loc} {cells slots : Nat} {Q : State → Prop}
variable {cc : ByteArray} {nL : Nat} {ret : Option FieldType} {own : String} {ws : List Cond} {pc : Nat} {ls : Array Slot} {st0 rest : List Value} {z : QZ} {c0 : Nat → va_E} {M : QMs} {K : Nat} {fA fB fY : Nat → Int32}
variable {y : MethodName} {bytes : ByteArray} {maxL mc ms n index : Nat} {ret2 : Option FieldType} {ws2 : List Cond} {rm : Room} {As : List Value}
theorem B_calli (C0 : Cx p s m args meth c cc nL ret own ws) (hK : QK z s) (hK9 : 59 ≤ K) (h : GW z (BAt z K fA fB fY) 55 59 s.heap c0 M H locs) {post : Int32 → QMs → Prop} (hM : GI l y ws2 rm z (.ref (za z 55) :: As) mc ms (MAt z) 55 59 M post)
    (cw : CallW R s args own RX2 index y bytes maxL ret2 ws2 rm mc ms n) (hlen : As.length = n) (hsz : ls.size = nL) (hst : st0 = As.reverse ++ .ref (za z 55) :: rest) (hroom : (rest.map fun v => v.category).sum ≤ 8) (hf : cells + mc ≤ R.cells ∧ slots + ms ≤ R.slots) (hdg : decode cc pc = .ok (.invokevirtual index, 3))
    (kk : ∀ (r : Int32) (u : QMs) (H1 : Heap) (locs1 : List Loc), post r u → GW z (BAt z K fA fB fY) 55 59 s.heap c0 u H1 locs1 → W p l e R s m args below meth c H1 locs1 (cells + mc) (slots + ms) Q (F0 m (pc + 3) ls (.int r :: rest))) : W p l e R s m args below meth c H locs cells slots Q (F0 m pc ls st0) :=
  G_callVi C0 hK h hM (fun _ h => h.1) (fun u => u) (fun _ _ _ hA hB hF => hA.fr hK9 hB hF) (Nat.le_refl _) (Nat.le_refl _) cw (k := 55) (ci := 2) (by omega) (fun ct hA => hA.1.1) rfl rfl hlen hsz hst hroom hf hdg kk
theorem B_callv (C0 : Cx p s m args meth c cc nL ret own ws) (hK : QK z s) (hK9 : 59 ≤ K) (h : GW z (BAt z K fA fB fY) 55 59 s.heap c0 M H locs) {post : QMs → Prop} (hM : GV l y ws2 rm z (.ref (za z 55) :: As) mc ms (MAt z) 55 59 M post)
    (cw : CallW R s args own RX2 index y bytes maxL ret2 ws2 rm mc ms n) (hlen : As.length = n) (hsz : ls.size = nL) (hst : st0 = As.reverse ++ .ref (za z 55) :: rest) (hroom : (rest.map fun v => v.category).sum ≤ 8) (hf : cells + mc ≤ R.cells ∧ slots + ms ≤ R.slots) (hdg : decode cc pc = .ok (.invokevirtual index, 3))
    (kk : ∀ (u : QMs) (H1 : Heap) (locs1 : List Loc), post u → GW z (BAt z K fA fB fY) 55 59 s.heap c0 u H1 locs1 → W p l e R s m args below meth c H1 locs1 (cells + mc) (slots + ms) Q (F0 m (pc + 3) ls (rest))) : W p l e R s m args below meth c H locs cells slots Q (F0 m pc ls st0) :=
  G_callVv C0 hK h hM (fun _ h => h.1) (fun u => u) (fun _ _ _ hA hB hF => hA.fr hK9 hB hF) (Nat.le_refl _) (Nat.le_refl _) cw (k := 55) (ci := 2) (by omega) (fun ct hA => hA.1.1) rfl rfl hlen hsz hst hroom hf hdg kk
theorem G_kept (C0 : Cx p s m args meth c cc nL ret own ws) (hK : QK z s) (h : GW z (MAt z) 55 59 s.heap c0 M H locs) (cw : CallW R s args own RX2 index yX2_kept bytes maxL ret2 wsX2_kept ({ frames := 1, cells := 4, slots := 210, locals := 20 } : Room) 4 210 0) (hsz : ls.size = nL) (hst : st0 = .ref (za z 55) :: rest) (hroom : (rest.map fun v => v.category).sum ≤ 8) (hf : cells + 4 ≤ R.cells ∧ slots + 210 ≤ R.slots) (hdg : decode cc pc = .ok (.invokevirtual index, 3))
    (kk : ∀ (zk : QZ) (c1 : Nat → va_E) (H1 : Heap) (locs1 : List Loc), QK zk s → zn zk = zn z + 4 → (∀ k, k < zn z → za zk k = za z k) → GW zk (BAt zk (zn z) (mA M) (mB M) (mY M)) 55 59 s.heap c1 M H1 locs1 → (∀ M2 H2 locs2, GW zk (BAt zk (zn z) (mA M) (mB M) (mY M)) 55 59 s.heap c1 M2 H2 locs2 → GW z (MAt z) 55 59 s.heap c0 M2 H2 locs2) → W p l e R s m args below meth c H1 locs1 (cells + 4) (slots + 210) Q (F0 m (pc + 3) ls (.ref (za zk (zn z)) :: rest))) : W p l e R s m args below meth c H locs cells slots Q (F0 m pc ls st0) := by
  obtain ⟨ct, hP, hS, hA, hF, hn, hq⟩ := h
  refine va_callr (va_runV (As := []) (rest := rest) ⟨C0.1, C0.2.1, C0.2.2.2.1, C0.2.2.2.2.1, C0.2.2.2.2.2.1⟩ (c_X2_kept l z M ct H.size hn hq hA) cw ⟨q_blind, q_recv (q := (RX2, TX2, 6)) hK hP (k := 55) (ci := 2) (by omega) hA.1 rfl, q_given hK hP⟩ rfl rfl hsz hst (lv_room hroom) hdg hf) hS (fun q _ h => qA_sub hS.1 h) (fun q h => qA_sub hS.1 h) (fun r ra t H1 locs1 ht hvm hp hB hz1 hk1 hS1 => ?_)
  obtain ⟨r0, r1, r2, r3⟩ := r
  obtain ⟨hra, hP1, -, hD1⟩ := hB
  rw [ht] at hP1
  have hra : ra = r0 := hra
  subst hra
  have hD2 : va_D (qA (zn z) (za z) s.heap.size) (wd (zn z) (za z) ct ++ kpW z M (ra, r1, r2, r3)) := hD1.weaken (fun _ _ _ h => qA_sub hS.1 h)
  have e4 : wd (zn z) (za z) ct ++ kpW z M (ra, r1, r2, r3) = (((wd (zn z) (za z) ct ++ [(ra, qR 3 (zR z) (va_up (va_up (va_up (fun _ => none) 0 (some r1)) 1 (some r2)) 2 (some r3)))]) ++ [(r1, .inl (zI z, 80, .inl (mA M)))]) ++ [(r2, .inl (zI z, 126, .inl (mB M)))]) ++ [(r3, .inl (zI z, 1, .inl (mY M)))] := by
    simp [kpW]
  rw [e4] at hP1 hD2
  clear e4 hD1
  rw [wd_snoc, wd_snoc, wd_snoc, wd_snoc] at hP1 hD2
  have hag : ∀ k, k < zn z → za (zx (zx (zx (zx z ra) r1) r2) r3) k = za z k := fun k hk => by
    show va_up (va_up (va_up (va_up (za z) (zn z) ra) (zn z + 1) r1) (zn z + 1 + 1) r2) (zn z + 1 + 1 + 1) r3 k = za z k
    rw [va_up_ne _ _ (by omega), va_up_ne _ _ (by omega), va_up_ne _ _ (by omega), va_up_ne _ _ (by omega)]
  have hout : ∀ k, zn z ≤ k → k < zn (zx (zx (zx (zx z ra) r1) r2) r3) → s.heap.size ≤ za (zx (zx (zx (zx z ra) r1) r2) r3) k := qA_out hD2 hag (show zn z ≤ zn z + 1 + 1 + 1 + 1 by omega)
  have hold : ∀ k, k < zn z → (va_up (va_up (va_up (va_up ct (zn z) (qR 3 (zR z) (va_up (va_up (va_up (fun _ => none) 0 (some r1)) 1 (some r2)) 2 (some r3)))) (zn z + 1) (.inl (zI z, 80, .inl (mA M)))) (zn z + 1 + 1) (.inl (zI z, 126, .inl (mB M)))) (zn z + 1 + 1 + 1) (.inl (zI z, 1, .inl (mY M)))) k = ct k := fun k hk => by
    rw [va_up_ne _ _ (by omega), va_up_ne _ _ (by omega), va_up_ne _ _ (by omega), va_up_ne _ _ (by omega)]
  rw [show (.ref ra : Value) = .ref (za (zx (zx (zx (zx z ra) r1) r2) r3) (zn z)) from by
    show (.ref ra : Value) = .ref (va_up (va_up (va_up (va_up (za z) (zn z) ra) (zn z + 1) r1) (zn z + 1 + 1) r2) (zn z + 1 + 1 + 1) r3 (zn z))
    rw [va_up_ne _ _ (by omega), va_up_ne _ _ (by omega), va_up_ne _ _ (by omega), va_up_self]]
  refine kk (zx (zx (zx (zx z ra) r1) r2) r3) _ H1 locs1 hK rfl hag (GW_grow (z := z) (by show zn z ≤ zn z + 1 + 1 + 1 + 1; omega) rfl hag hout hP1 (wd_qI hD2) hS1 ⟨hA.same (fun k h1 h2 => hag k (by omega)) rfl (fun k h1 h2 => hold k (by omega)), ⟨_, by rw [va_up_ne _ _ (by omega), va_up_ne _ _ (by omega), va_up_ne _ _ (by omega), va_up_self], ?_, ?_, ?_⟩, ?_, ?_, ?_⟩ (by show 59 ≤ zn z + 1 + 1 + 1 + 1; omega)) (fun M2 H2 locs2 h2 => GW_shrink h2 hout hag (by show zn z ≤ zn z + 1 + 1 + 1 + 1; omega) rfl (fun k h1 h3 => (hold k h1).trans (hF k h3)) hn (fun ct1 ct2 h3 h4 => h3.1.same (fun k h5 h6 => (hag k (by omega)).symm) rfl (fun k h5 h6 => h4 k (by omega))))
  · show some r1 = some (va_up (va_up (va_up (va_up (za z) (zn z) ra) (zn z + 1) r1) (zn z + 1 + 1) r2) (zn z + 1 + 1 + 1) r3 (zn z + 1))
    rw [va_up_ne _ _ (by omega), va_up_ne _ _ (by omega), va_up_self]
  · show some r2 = some (va_up (va_up (va_up (va_up (za z) (zn z) ra) (zn z + 1) r1) (zn z + 1 + 1) r2) (zn z + 1 + 1 + 1) r3 (zn z + 2))
    rw [va_up_ne _ _ (by omega), show zn z + 2 = zn z + 1 + 1 from rfl, va_up_self]
  · show some r3 = some (va_up (va_up (va_up (va_up (za z) (zn z) ra) (zn z + 1) r1) (zn z + 1 + 1) r2) (zn z + 1 + 1 + 1) r3 (zn z + 3))
    rw [show zn z + 3 = zn z + 1 + 1 + 1 from rfl, va_up_self]
  · rw [va_up_ne _ _ (by omega), va_up_ne _ _ (by omega), va_up_self]
  · rw [va_up_ne _ _ (by omega), show zn z + 2 = zn z + 1 + 1 from rfl, va_up_self]
  · rw [show zn z + 3 = zn z + 1 + 1 + 1 from rfl, va_up_self]
end QBC
end
section
theorem z_look : True := trivial
end
