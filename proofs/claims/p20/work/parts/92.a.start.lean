/-! PART 92: the start -/
/-! THE CLAIM OUT OF ONE WALK OF THE LAW'S BODY. Your part is whole_start (and what it stands on); all else here is the same for every law, but numbers. -/
def R_law : String := "AqueductTanksLaw"
def lw_P (b : Addr) (xs : List Int32) (args : Array Value) (s : State) : Prop := args = #[.ref b] ∧ s.IntsAt b xs ∧ xs.length ≤ 260 ∧ (Jvm.Cond.and given_1 narrow_1).before args s = true
/-- what a walk over the start with the record d0 says of its end, said of the start itself -/
theorem lw_closed {s t : State} {o : Outcome} {d0 : Drawn} {L : List Loc} {k n : Nat} (hd0 : s.drawn.sameBut d0 lw_cs) (hv : ∃ v, o = .returned v) (hW : (s.setDrawn d0).WarmedH t.vm) (hs : (s.setDrawn d0).sameButNew ({ t with vm := s.vm } : State) L k n) : State.butDraws s t lw_cs (fun t1 => Framed s o t1 L k n) := by
  have h2 : t.drawn = d0 := congrArg State.drawn hs.1
  refine ⟨⟨hv, hW, State.sameButNew.setDrawn hs s.drawn⟩, ?_, by decide⟩
  rw [h2]
  exact hd0
def lw_Q (_ : Array Value) (s : State) (o : Outcome) (t : State) : Prop := o = .returned (some (.int 1)) ∧ State.butDraws s t lw_cs (fun t1 => Framed s o t1 [] 600104 7301314)
def lw_Z (below : List Frame) (a : Array Value) (s : State) : State → Prop := fun t => ∃ o, t.status = .running ∧ Ended t below o ∧ lw_Q a s o t
/-- the law's own end, with 1 on the stack, nothing written that was there before, its room as the claim has it; d0: the record of draws at this point (at the entry s.drawn: begin with 'refine W.base ?_' and 'have hd0 := Drawn.sameBut.refl s.drawn lw_cs') -/
theorem lw_ret {p : Program} {l : Launch} {e : Env} {s : State} {m : MethodId} {below : List Frame} {meth : Method} {c : Code} {b : Nat} {d0 : Drawn} (hd0 : s.drawn.sameBut d0 lw_cs) (hx : p.tables.exec = Jvm.exec) (hb : c.code = code) (hr : meth.sig.returnType = ret) (hlocks : meth.locks = false) {pc : Nat} {H : Heap} {ls : Array Slot} (hdg : decode code pc = .ok (.ireturn, 1)) : W p l e room_1 (s.setDrawn d0) m #[Value.ref b] below meth c H [] 600104 7301314 (lw_Z below #[Value.ref b] s) (F0 m pc ls [.int 1]) := by
  intro T hT X
  obtain ⟨fs, hret, hrun, hended, hW, hframe⟩ := X.leave (v := some (.int 1)) (hlocks := hlocks) (fun h => by rw [hr] at h; cases h)
  have hmeth' : T.vm.method? m = some meth := X.method'
  refine ⟨T.setFrames fs, ?_, .returned (some (.int 1)), hrun, hended, rfl, lw_closed hd0 ⟨_, rfl⟩ hW hframe⟩
  jvm_step X.here [X.here.top, hx, hb, hdg, hmeth', hr, ret, narrow_b1]
  (try refine ⟨rfl, ?_⟩); (try refine ⟨rfl, ?_⟩)
  first | (intro acts; rw [hret _ acts rfl rfl rfl]) | rw [hret _ _ rfl rfl rfl]
  exact Steps.refl _
/-- what holds at the law's entry: the machine, the code, the tables' words (any of lw_tbl by 'hts w (by decide +kernel)'), the script of L ints xs at the cell b, what the Statement gives of the start (any of its parts by flat_of_before) -/
def lw_At (p : Program) (s : State) (m : MethodId) (meth : Method) (c : Code) (b L : Nat) (xs : Nat → Int32) : Prop :=
  p.tables.exec = Jvm.exec ∧ c.code = code ∧ meth.sig.returnType = ret ∧ c.maxLocals = 32 ∧ s.vm.findClass R_law = some m.cls ∧ (∀ w ∈ lw_tbl, w.before #[Value.ref b] s = true) ∧ va_X b L xs s s.heap ∧ b < s.heap.size ∧ meth.locks = false ∧ (Jvm.Cond.and given_1 narrow_1).before #[Value.ref b] s = true
set_option maxHeartbeats 8000000 in
set_option maxRecDepth 100000 in
theorem whole_start {p : Program} {e : Env} {s : State} {m : MethodId} {below : List Frame} {meth : Method} {c : Code} (l : Launch) (hflags : l.flags = flags0) {b L : Nat} {xs : Nat → Int32} (hL : L ≤ 260) (C0 : lw_At p s m meth c b L xs) : W p l e room_1 s m #[Value.ref b] below meth c s.heap [] 0 0 (lw_Z below #[Value.ref b] s) (entryFrame m ([Value.ref b] : List Value).toArray 32) := by
  obtain ⟨hx, hb, hr, hml, hown, hts0, hX, hbl, hlocks, hgv⟩ := id C0
  have hts : ∀ w ∈ wsL_law, w.before #[Value.ref b] s = true := fun w h => hts0 w (wsL_law_in w h)
  have hd0 := Drawn.sameBut.refl s.drawn lw_cs
  obtain ⟨D, cI, cR, cA, cB, hKK⟩ := lw_QK hts0
  have C1 : Cx p s m #[Value.ref b] meth c cL_law 32 ret RL wsL_law := ⟨hx, hb, hr, hml, hown, hts, hlocks⟩
  obtain ⟨z0, ez0⟩ : ∃ z0 : QZ, z0 = (D, cI, cR, (cA, cB), 0, fun _ => 0) := ⟨_, rfl⟩
  have hK : QK z0 s := by rw [ez0]; exact hKK 0 _
  have hA : ∀ q : Nat, s.heap.size ≤ q → (fun q : Nat => s.heap.size ≤ q) q := fun _ h => h
  have hS : va_S (fun q : Nat => s.heap.size ≤ q) s.heap s.heap [] := va_S.rf
  have hP : va_P (zG z0) vwCl [] s.heap := fun k q h => by simp at h
  have hD : va_D (fun q : Nat => s.heap.size ≤ q) [] := ⟨fun i j p q h => by simp at h, fun k q h => by simp at h⟩
  have hl := lv_entry ([.ref b]) (n := 32) (Nat.le_of_ble_eq_true rfl)
  rw [lg_entry_eq]
  generalize (lg_sl ([.ref b]) ++ List.replicate (32 - (lg_sl ([.ref b])).length) Slot.unset).toArray = ls at hl ⊢
  have hl : lv_has ls 32 [(0, .ref b)] := hl
  have hin1 : ∀ w ∈ u_ws RX1 TX1 2, w ∈ wsL_law := by decide +kernel
  refine va_new (ci := 1) (fs := [.null, .null]) (C := RX1) (T := TX1) (N := 2) hx hb hts hin1 tyX1 tyX1_ok hown (hts (.classLink RL 30 RX1) (by decide +kernel)) (hts (.instantiable RX1 2) (by decide +kernel)) (hts (.initialized RX1) (by decide +kernel)) hK.1 hP hD hS hA rfl (fun j hj => by rcases (show j = 0 ∨ j = 1 by omega) with rfl | rfl <;> rfl) (Nat.le_of_ble_eq_true rfl) (Nat.le_of_ble_eq_true rfl) dL_law_0 (fun a H hP hD hS => ?_)
  refine lv_dup hx hb dL_law_3 rfl ?_
  refine va_callv (va_runI (As := []) (rest := [.ref a]) ⟨hx, hb, hml, hown, hts⟩ (c_X1_init l z0 _ 0 a H.size rfl) (cwI 0 hts gL_law_X1_init rfl rfl rfl (hts (.initialized RX1) (by decide +kernel)) (hts (.methodLink RL 86 yX1_init) (by decide +kernel)) (hts (.instanceMethod yX1_init) (by decide +kernel)) rfl (by decide +kernel) ⟨Nat.le_of_ble_eq_true rfl, Nat.le_of_ble_eq_true rfl⟩) ⟨preN_blind, fun U hU hW => ⟨rfl, by rw [hU], by rw [hU]; exact hP, QK.warm hW hK, hD.weaken (fun _ _ _ _ => trivial)⟩⟩ rfl rfl hl.1 rfl (lv_room (Nat.le_of_ble_eq_true rfl)) dL_law_4 ⟨Nat.le_of_ble_eq_true rfl, Nat.le_of_ble_eq_true rfl⟩) hS (fun q _ h => vaA_sub hD hS hA q h) (vaA_sub hD hS hA) (fun r t H1 locs ht hvm h5 hB hz1 hk1 hS1 => ?_)
  obtain ⟨hP1, hD1⟩ := hB
  rw [ht] at hP1
  have hD1 := hD1.weaken (B := fun q : Nat => s.heap.size ≤ q) (fun _ q _ h => vaA_sub hD hS hA q.1 h)
  clear hP hD hS h5 hz1 hk1
  have eW : w2X1 z0 ([] ++ [(a, (.inr (1, [.null, .null]) : va_E))]) 0 a r = W55 z0 a r := by
    unfold w2X1 W55
    simp only [List.nil_append, List.set_cons_zero, List.cons_append, List.append_assoc]
  rw [eW] at hP1 hD1
  refine lv_astore_n (lv' := [(1, .ref a), (0, .ref b)]) hx hb dL_law_7 rfl hl (by decide) rfl (fun ls hl => ?_)
  obtain ⟨h1, h2, h3⟩ := wd_perm hP1 hD1 (n := 55) (fun k hk => w55_get hk)
  obtain ⟨z, ez⟩ : ∃ z : QZ, z = (D, cI, cR, (cA, cB), 55, ad55 z0 a r) := ⟨_, rfl⟩
  have hKz : QK z s := by rw [ez]; exact hKK _ _
  have hge : ∀ k, k < zn z → s.heap.size ≤ za z k := by rw [ez]; exact h3
  have hz55 : zn z = 55 := by rw [ez]
  have hq9 : qI (zn z) (za z) := by rw [ez]; exact h2
  have hPz : va_P (zG z) vwCl (wd (zn z) (za z) (ct55 z0 a r)) H1 := by rw [ez]; rw [ez0] at h1 ⊢; exact h1
  have hat : XAt z (pr S00 S00) (ct55 z0 a r) := by rw [ez]; exact w55_at (by rw [ez0]; exact ⟨rfl, rfl, rfl, rfl⟩) a r
  have ea : za z 0 = a := by rw [ez]; rfl
  have hnA : ∀ n : Nat, s.heap.size ≤ n → ¬ qA (zn z) (za z) n b := by
    rintro n hn (⟨k, hk, e⟩ | h)
    · have := hge k hk; omega
    · omega
  have hqa : ∀ n : Nat, s.heap.size ≤ n → ∀ q, qA (zn z) (za z) n q → s.heap.size ≤ q := by
    rintro n hn q (⟨k, hk, e⟩ | h)
    · rw [← e]; exact hge k hk
    · omega
  refine lv_aload_n hx hb dL_law_8 rfl (lv_at hl 0 rfl) ?_
  refine lv_aload_n hx hb dL_law_9 rfl (lv_at hl 1 rfl) ?_
  rw [← ea] at hl ⊢
  have hXH : va_X b L xs s H1 := hX.kept (hS1.2.1 b hbl (fun q => by omega))
  refine va_callr (va_runS (As := [.ref (za z 0), .ref b]) (rest := []) ⟨hx, hb, hml, hown, hts⟩ (c_L_build (xs := xs) hL hz55 (fun _ => (0, fun _ => 0)) (ct55 z0 a r) H1.size hq9 hat (hnA _ hS1.1)) (va_cwS 2 hts gL_law_L_build rfl rfl rfl (by decide +kernel) ⟨Nat.le_of_ble_eq_true rfl, Nat.le_of_ble_eq_true rfl⟩) ⟨fun a U g mk q => ⟨q.1, ⟨q.2.1.1, q.2.1.2.1, QK.same rfl q.2.1.2.2⟩, va_X.moved (Vm.Alike.refl _) q.2.2.1, q.2.2.2⟩, fun U hU hW => ⟨rfl, ⟨by rw [hU], by rw [hU]; exact hPz, QK.warm hW hKz⟩, by show va_X _ _ _ U U.heap; rw [hU]; exact hXH.moved hW.alike, by rw [hU]; have := hS1.1; omega⟩⟩ rfl rfl hl.1 rfl (lv_room (Nat.le_of_ble_eq_true rfl)) dL_law_10 ⟨Nat.le_of_ble_eq_true rfl, Nat.le_of_ble_eq_true rfl⟩) hS1 (fun q _ h => hqa _ hS1.1 q h) (fun q h => hqa _ hS1.1 q h) (fun v ra t H2 locs2 ht2 hvm2 hp hB hz1 hk1 hS2 => ?_)
  obtain ⟨z2, ix2, u2⟩ := v
  obtain ⟨hX2, X2, Y2, hu, hI⟩ := hp
  have hu : u2 = (X2, Y2, X2, fun _ => (0, fun _ => 0)) := hu
  subst hu
  obtain ⟨hE, hra⟩ := hB
  have hra : ra = za z2 55 := hra
  subst hra
  obtain ⟨hXz, c2, h⟩ := UEnd.gn (H0 := s.heap) hX2 hS1.1 (vaS_iff (A := fun q : Nat => s.heap.size ≤ q) (fun x => ⟨fun h => hqa _ (Nat.le_refl _) x h, fun h => Or.inr h⟩) hS2) ht2 hE
  have hK2 : QK z2 s := hKz.zx hXz
  refine lv_astore_n (lv' := [(2, .ref (za z2 55)), (1, .ref (za z 0)), (0, .ref b)]) hx hb dL_law_13 rfl hl (by decide) rfl (fun ls hl => ?_)
  refine lv_aload_n hx hb dL_law_14 rfl (lv_at hl 0 rfl) ?_
  refine lv_ifnonnull (tgt := 20) hx hb dL_law_15 (by decide) ?_
  refine lv_iconst (v := 0) hx hb dL_law_20 (by decide) ?_
  rw [← hXz.2.2.1 0 (by omega)] at hl
  refine lv_istore_n (lv' := [(3, .int (nI 0)), (2, .ref (za z2 55)), (1, .ref (za z2 0)), (0, .ref b)]) hx hb dL_law_21 rfl hl (by decide) rfl (fun ls hl => ?_)
  refine W.widen (k := 106 + 5 * 0) (n := 1079 + 58 * 0) (Nat.le_of_ble_eq_true rfl) (Nat.le_of_ble_eq_true rfl) ?_
  refine law_loop (z0 := z) C1 hX hbl (hnA _ (Nat.le_refl _)) hL (fun z3 ix3 X3 Y3 f3 c3 H locs ls hX3 hK3 hI3 h hl => ?_) 40 0 (by omega) z2 ix2 X2 Y2 _ c2 H2 locs2 ls hXz hK2 hI h hl
  refine lv_aload_n hx hb dL_law_1172 rfl (lv_at hl 1 rfl) ?_
  refine lv_aload_n hx hb dL_law_1173 rfl (lv_at hl 2 rfl) ?_
  have h56 : 56 ≤ zn z3 := (gw_ix h).1.1.2.2
  obtain ⟨ct, hP, hS, hA9, hF, hn, hq⟩ := h
  refine va_calli (va_runV (As := [.ref (za z3 0)]) (rest := []) ⟨hx, hb, hml, hown, hts⟩ (c_X3_isSame hI3 ct H.size hq hA9) (cwV 1 hts gL_law_X3_isSame rfl rfl rfl (by decide +kernel) ⟨Nat.le_of_ble_eq_true rfl, Nat.le_of_ble_eq_true rfl⟩) ⟨q_blind, q_recv (ci := 3) (q := (RX3, TX3, 3)) hK3 hP (show 55 < zn z3 by omega) (hA9.2.1.2.2.2.1) rfl, q_given hK3 hP⟩ rfl rfl hl.1 rfl (lv_room (Nat.le_of_ble_eq_true rfl)) dL_law_1174 ⟨Nat.le_of_ble_eq_true rfl, Nat.le_of_ble_eq_true rfl⟩) hS (fun q _ h => qA_sub hS.1 h) (fun q h => qA_sub hS.1 h) (fun r9 u t H1 locs1 ht hvm hp hB hz1 hk1 hS1 => ?_)
  subst hp
  refine va_forget (fun q hq => ?_) ?_
  · rcases (hX3.A (Nat.le_refl _) _).mp (hS1.2.2 q hq) with ⟨k, hk, e⟩ | h
    · rw [← e]; exact hge k hk
    · exact h
  · refine W.widen (k := 600104) (n := 7301314) (Nat.le_of_ble_eq_true rfl) (Nat.le_of_ble_eq_true rfl) ?_
    exact lw_ret hd0 hx hb hr hlocks dL_law_1177
