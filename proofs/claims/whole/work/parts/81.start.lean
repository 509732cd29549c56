/-! THE CLAIM OUT OF ONE WALK OF THE LAW'S BODY. Your part is whole_start (and what it stands on); all else here is the same for every law, but numbers. -/
def R_law : String := "AqueductTanksLaw"
def lw_P (b : Addr) (xs : List Int32) (args : Array Value) (s : State) : Prop := args = #[.ref b] ∧ s.IntsAt b xs ∧ xs.length ≤ 2560 ∧ (Jvm.Cond.and given_1 narrow_1).before args s = true
/-- what a walk over the start with the record d0 says of its end, said of the start itself -/
theorem lw_closed {s t : State} {o : Outcome} {d0 : Drawn} {L : List Loc} {k n : Nat} (hd0 : s.drawn.sameBut d0 lw_cs) (hv : ∃ v, o = .returned v) (hW : (s.setDrawn d0).WarmedH t.vm) (hs : (s.setDrawn d0).sameButNew ({ t with vm := s.vm } : State) L k n) : State.butDraws s t lw_cs (fun t1 => Framed s o t1 L k n) := by
  have h2 : t.drawn = d0 := congrArg State.drawn hs.1
  refine ⟨⟨hv, hW, State.sameButNew.setDrawn hs s.drawn⟩, ?_, by decide⟩
  rw [h2]
  exact hd0
def lw_Q (_ : Array Value) (s : State) (o : Outcome) (t : State) : Prop := o = .returned (some (.int 1)) ∧ State.butDraws s t lw_cs (fun t1 => Framed s o t1 [] 601024 7293034)
def lw_Z (below : List Frame) (a : Array Value) (s : State) : State → Prop := fun t => ∃ o, t.status = .running ∧ Ended t below o ∧ lw_Q a s o t
/-- the law's own end, with 1 on the stack, nothing written that was there before, its room as the claim has it; d0: the record of draws at this point (at the entry s.drawn: begin with 'refine W.base ?_' and 'have hd0 := Drawn.sameBut.refl s.drawn lw_cs') -/
theorem lw_ret {p : Program} {l : Launch} {e : Env} {s : State} {m : MethodId} {below : List Frame} {meth : Method} {c : Code} {b : Nat} {d0 : Drawn} (hd0 : s.drawn.sameBut d0 lw_cs) (hx : p.tables.exec = Jvm.exec) (hb : c.code = code) (hr : meth.sig.returnType = ret) (hlocks : meth.locks = false) {pc : Nat} {H : Heap} {ls : Array Slot} (hdg : decode code pc = .ok (.ireturn, 1)) : W p l e room_1 (s.setDrawn d0) m #[Value.ref b] below meth c H [] 601024 7293034 (lw_Z below #[Value.ref b] s) (F0 m pc ls [.int 1]) := by
  intro T hT X
  obtain ⟨fs, hret, hrun, hended, hW, hframe⟩ := X.leave (v := some (.int 1)) (hlocks := hlocks) (fun h => by rw [hr] at h; cases h)
  have hmeth' : T.vm.method? m = some meth := X.method'
  refine ⟨T.setFrames fs, ?_, .returned (some (.int 1)), hrun, hended, rfl, lw_closed hd0 ⟨_, rfl⟩ hW hframe⟩
  jvm_step X.here [X.here.top, hx, hb, hdg, hmeth', hr, ret, narrow_b1]
  (try refine ⟨rfl, ?_⟩); (try refine ⟨rfl, ?_⟩)
  first | (intro acts; rw [hret _ acts rfl rfl rfl]) | rw [hret _ _ rfl rfl rfl]
  exact Steps.refl _
/-- what holds at the law's entry: the machine, the code, the tables' words (any of lw_tbl by 'hts w (by decide +kernel)'), the script of L ints xs at the cell b, what the Statement gives of the start (any of its parts by flat_of_before) -/
def lw_At (p : Program) (s : State) (m : MethodId) (meth : Method) (c : Code) (b L : Nat) (xs : Nat → Int32) : Prop :=
  p.tables.exec = Jvm.exec ∧ c.code = code ∧ meth.sig.returnType = ret ∧ c.maxLocals = 9 ∧ s.vm.findClass R_law = some m.cls ∧ (∀ w ∈ lw_tbl, w.before #[Value.ref b] s = true) ∧ va_X b L xs s s.heap ∧ b < s.heap.size ∧ meth.locks = false ∧ (Jvm.Cond.and given_1 narrow_1).before #[Value.ref b] s = true
theorem q_newl {p : Program} {l : Launch} {e : Env} {R : Room} {s : State} {m : MethodId} {args : Array Value} {below : List Frame} {meth : Method} {c : Code} {H : Heap} {locs : List Loc} {cells slots : Nat} {Q : State → Prop} {cc : ByteArray} {nL : Nat} {ret : Option FieldType} {own : String} {ws : List Cond} {pc : Nat} {ls : Array Slot} {rest : List Value} {z : QZ} {w : va_W} {A : Nat → Prop} {H0 : Heap} (C0 : Cx p s m args meth c cc nL ret own ws) (hK : QK z s) (hP : va_P (zG z) vwCl w H) (hD : va_D A w) (hS : va_S A H0 H locs) (hA : ∀ q, H0.size ≤ q → A q) (hw : Cond.arrayClass .long ∈ ws) {n : Nat} {x : Int32} (hx : x = nI n) (hn : n < 1000) (hc : cells + 1 ≤ R.cells) (hs : slots + n ≤ R.slots) (hdg : decode cc pc = .ok (.newarray .long, 2))
    (kk : ∀ (q : Nat) (H1 : Heap), va_P (zG z) vwCl (w ++ [(q, .inl (zL z, n, .inr (.inl (fun _ => 0))))]) H1 → va_D A (w ++ [(q, .inl (zL z, n, .inr (.inl (fun _ => 0))))]) → va_S A H0 H1 locs → W p l e R s m args below meth c H1 locs (cells + 1) (slots + n) Q (F0 m (pc + 2) ls (.ref q :: rest))) : W p l e R s m args below meth c H locs cells slots Q (F0 m pc ls (.int x :: rest)) := by
  subst hx
  have t0 : (nI n).toNatClampNeg = n := nI_clamp (by omega)
  refine W.newa C0.1 C0.2.1 (atype := .long) (C0.2.2.2.2.2.1 _ hw) rfl hdg rfl (nI_pos (by omega)) (by rw [t0]; show n * 8 ≤ _; omega) hc (by rw [t0]; exact hs) fun cA kA comp f1 f2 f3 => ?_
  have ec : cA = zL z := Option.some.inj (f1.symm.trans (hK.1.2 2 _ rfl).2)
  subst ec
  rw [t0]
  generalize hH1 : H.push ({ cls := zL z, slots := Array.replicate n (defaultValue (newarray.typeOf .long)), vm := .none } : Cell) = H1
  have z1 : H1.size = H.size + 1 := by rw [← hH1, Array.size_push]
  have e1 : H1[H.size]? = some (arrV (zL z) n (fun _ => .long 0)) := by rw [← hH1, Array.getElem?_push_size, ← arrV_new]; rfl
  have o1 : ∀ q : Nat, q < H.size → H1[q]? = H[q]? := fun q hq => by rw [← hH1, Array.getElem?_push, if_neg (Nat.ne_of_lt hq)]
  refine kk H.size H1 ((hP.kept (fun k y hy => o1 y.1 ((hP k y hy).lt))).app (fun k y hy => ?_)) (hD.push hP rfl (hA _ hS.1)) ⟨Nat.le_trans hS.1 (by omega), fun y h1 h2 => (o1 y (Nat.lt_of_lt_of_le h1 hS.1)).trans (hS.2.1 y h1 h2), hS.2.2⟩
  have hz : k < 1 := (List.getElem?_eq_some_iff.mp hy).1
  rw [show k = 0 by omega] at hy
  cases hy
  show H1[H.size]? = some (vp_cell _ _)
  rw [e1]
  rfl
theorem w2X2_snoc {z : QZ} {w : va_W} {d : Nat} {r : Nat × Nat × Nat} {y : Nat × va_E} : w2X2 z (w ++ [y]) w.length d r = w ++ [(d, (.inr (2, [.int 0, .int 0, .int 0, .ref r.1, .ref r.2.1, .ref r.2.2]) : va_E)), (r.1, .inl (zI z, 80, .inl (fun _ => 0))), (r.2.1, .inl (zI z, 126, .inl (fun _ => 0))), (r.2.2, .inl (zI z, 1, .inl (fun _ => 0)))] := by
  unfold w2X2
  rw [List.set_append_right _ _ (Nat.le_refl _), Nat.sub_self, List.append_assoc]
  rfl
set_option maxHeartbeats 8000000 in
set_option maxRecDepth 100000 in
theorem whole_start {p : Program} {e : Env} {s : State} {m : MethodId} {below : List Frame} {meth : Method} {c : Code} (l : Launch) (hflags : l.flags = flags0) {b L : Nat} {xs : Nat → Int32} (hL : L ≤ 2560) (C0 : lw_At p s m meth c b L xs) : W p l e room_1 s m #[Value.ref b] below meth c s.heap [] 0 0 (lw_Z below #[Value.ref b] s) (entryFrame m ([Value.ref b] : List Value).toArray 9) := by
  obtain ⟨hx, hb, hr, hml, hown, hts0, hX, hbl, hlocks, hgv⟩ := id C0
  have hts : ∀ w ∈ wsL_law, w.before #[Value.ref b] s = true := fun w h => hts0 w (wsL_law_in w h)
  have hd0 := Drawn.sameBut.refl s.drawn lw_cs
  have hlt : l.stackTraces = false := by unfold Launch.stackTraces; rw [hflags]; decide +kernel
  obtain ⟨D, cI, cR, cL, hKK⟩ := lw_QK hts0 hgv
  have C1 : Cx p s m #[Value.ref b] meth c cL_law 9 ret RL wsL_law := ⟨hx, hb, hr, hml, hown, hts, hlocks⟩
  obtain ⟨z0, ez0⟩ : ∃ z0 : QZ, z0 = (D, cI, cR, cL, 0, fun _ => 0) := ⟨_, rfl⟩
  have hK : QK z0 s := by rw [ez0]; exact hKK 0 _
  have hA : ∀ q : Nat, s.heap.size ≤ q → (fun q : Nat => s.heap.size ≤ q) q := fun _ h => h
  have hS : va_S (fun q : Nat => s.heap.size ≤ q) s.heap s.heap [] := va_S.rf
  have hP : va_P (zG z0) vwCl [] s.heap := fun k q h => by simp at h
  have hD : va_D (fun q : Nat => s.heap.size ≤ q) [] := ⟨fun i j p q h => by simp at h, fun k q h => by simp at h⟩
  have hl := lv_entry ([.ref b]) (n := 9) (Nat.le_of_ble_eq_true rfl)
  rw [lg_entry_eq]
  generalize (lg_sl ([.ref b]) ++ List.replicate (9 - (lg_sl ([.ref b])).length) Slot.unset).toArray = ls at hl ⊢
  have hl : lv_has ls 9 [(0, .ref b)] := hl
  refine va_new (ci := 1) (fs := [.null, .null]) (C := RX1) (T := TX1) (N := 2) hx hb hts inlX1 tyX1 tyX1_ok hown (hts (.classLink RL 8 RX1) (by decide +kernel)) (hts (.instantiable RX1 2) (by decide +kernel)) (hts (.initialized RX1) (by decide +kernel)) hK.1 hP hD hS hA rfl (fun j hj => by rcases (show j = 0 ∨ j = 1 by omega) with rfl | rfl <;> rfl) (Nat.le_of_ble_eq_true rfl) (Nat.le_of_ble_eq_true rfl) dL_law_0 (fun a H hP hD hS => ?_)
  refine lv_dup hx hb dL_law_3 rfl ?_
  refine va_callv (va_runI (As := []) (rest := [.ref a]) ⟨hx, hb, hml, hown, hts⟩ (c_X1_init l z0 _ 0 a H.size rfl) (cwI 0 hts gL_law_X1_init rfl rfl rfl (hts (.initialized RX1) (by decide +kernel)) (hts (.methodLink RL 61 yX1_init) (by decide +kernel)) (hts (.instanceMethod yX1_init) (by decide +kernel)) rfl (by decide +kernel) ⟨Nat.le_of_ble_eq_true rfl, Nat.le_of_ble_eq_true rfl⟩) ⟨preN_blind, fun U hU hW => ⟨rfl, by rw [hU], by rw [hU]; exact hP, QK.warm hW hK, hD.weaken (fun _ _ _ _ => trivial)⟩⟩ rfl rfl hl.1 rfl (lv_room (Nat.le_of_ble_eq_true rfl)) dL_law_4 ⟨Nat.le_of_ble_eq_true rfl, Nat.le_of_ble_eq_true rfl⟩) hS (fun q _ h => vaA_sub hD hS hA q h) (vaA_sub hD hS hA) (fun r t H1 locs ht hvm h5 hB hz1 hk1 hS1 => ?_)
  obtain ⟨hP1, hD1⟩ := hB
  rw [ht] at hP1
  have hD1 := hD1.weaken (B := fun q : Nat => s.heap.size ≤ q) (fun _ q _ h => vaA_sub hD hS hA q.1 h)
  clear hP hD hS h5 hz1 hk1
  generalize hW1 : w2X1 z0 ([] ++ [(a, (.inr (1, [.null, .null]) : va_E))]) 0 a r = W1 at hP1 hD1
  refine lv_astore_n (lv' := [(1, .ref a), (0, .ref b)]) hx hb dL_law_7 rfl hl (by decide) rfl (fun ls hl => ?_)
  refine va_new (ci := 2) (fs := [.int 0, .int 0, .int 0, .null, .null, .null]) (C := RX2) (T := TX2) (N := 6) hx hb hts inlX2 tyX2 tyX2_ok hown (hts (.classLink RL 62 RX2) (by decide +kernel)) (hts (.instantiable RX2 6) (by decide +kernel)) (hts (.initialized RX2) (by decide +kernel)) hK.1 hP1 hD1 hS1 hA rfl (fun j hj => by rcases (show j = 0 ∨ j = 1 ∨ j = 2 ∨ j = 3 ∨ j = 4 ∨ j = 5 by omega) with rfl | rfl | rfl | rfl | rfl | rfl <;> rfl) (Nat.le_of_ble_eq_true rfl) (Nat.le_of_ble_eq_true rfl) dL_law_8 (fun d H hP hD hS => ?_)
  refine lv_dup hx hb dL_law_11 rfl ?_
  refine va_callv (va_runI (As := []) (rest := [.ref d]) ⟨hx, hb, hml, hown, hts⟩ (c_X2_init l z0 _ W1.length d H.size snoc_get) (cwI 0 hts gL_law_X2_init rfl rfl rfl (hts (.initialized RX2) (by decide +kernel)) (hts (.methodLink RL 64 yX2_init) (by decide +kernel)) (hts (.instanceMethod yX2_init) (by decide +kernel)) rfl (by decide +kernel) ⟨Nat.le_of_ble_eq_true rfl, Nat.le_of_ble_eq_true rfl⟩) ⟨preN_blind, fun U hU hW => ⟨rfl, by rw [hU], by rw [hU]; exact hP, QK.warm hW hK, hD.weaken (fun _ _ _ _ => trivial)⟩⟩ rfl rfl hl.1 rfl (lv_room (Nat.le_of_ble_eq_true rfl)) dL_law_12 ⟨Nat.le_of_ble_eq_true rfl, Nat.le_of_ble_eq_true rfl⟩) hS (fun q _ h => vaA_sub hD hS hA q h) (vaA_sub hD hS hA) (fun t3 t H2 locs2 ht2 hvm2 h5 hB hz1 hk1 hS2 => ?_)
  obtain ⟨hP2, hD2⟩ := hB
  rw [ht2] at hP2
  have hD2 := hD2.weaken (B := fun q : Nat => s.heap.size ≤ q) (fun _ q _ h => vaA_sub hD hS hA q.1 h)
  clear hP hD hS h5 hz1 hk1 hP1 hD1 hS1
  rw [w2X2_snoc] at hP2 hD2
  refine lv_astore_n (lv' := [(2, .ref d), (1, .ref a), (0, .ref b)]) hx hb dL_law_15 rfl hl (by decide) rfl (fun ls hl => ?_)
  refine lv_iconst (v := 1) hx hb dL_law_16 (by decide) ?_
  refine q_newl C1 hK hP2 hD2 hS2 hA (by decide +kernel) (n := 1) rfl (by decide) (Nat.le_of_ble_eq_true rfl) (Nat.le_of_ble_eq_true rfl) dL_law_17 (fun o H hP hD hS => ?_)
  refine lv_astore_n (lv' := [(3, .ref o), (2, .ref d), (1, .ref a), (0, .ref b)]) hx hb dL_law_19 rfl hl (by decide) rfl (fun ls hl => ?_)
  refine lv_iconst (v := 0) hx hb dL_law_20 (by decide) ?_
  refine lv_istore (lv' := [(4, .int 0), (3, .ref o), (2, .ref d), (1, .ref a), (0, .ref b)]) hx hb dL_law_21 hl (by decide) rfl (fun ls hl => ?_)
  have eW : (W1 ++ [(d, (.inr (2, [.int 0, .int 0, .int 0, .ref t3.1, .ref t3.2.1, .ref t3.2.2]) : va_E)), (t3.1, .inl (zI z0, 80, .inl (fun _ => 0))), (t3.2.1, .inl (zI z0, 126, .inl (fun _ => 0))), (t3.2.2, .inl (zI z0, 1, .inl (fun _ => 0)))]) ++ [(o, .inl (zL z0, 1, .inr (.inl (fun _ => 0))))] = W60 z0 a r d t3 o := by
    rw [← hW1]; unfold w2X1 W60
    simp only [List.nil_append, List.set_cons_zero, List.cons_append, List.append_assoc]
  rw [eW] at hP hD
  obtain ⟨h1, h2, h3⟩ := wd_perm hP hD (n := 60) (fun k hk => w60_get hk)
  obtain ⟨z, ez⟩ : ∃ z : QZ, z = (D, cI, cR, cL, 60, ad60 z0 a r d t3 o) := ⟨_, rfl⟩
  have hKz : QK z s := by rw [ez]; exact hKK _ _
  have hge : ∀ k, k < zn z → s.heap.size ≤ za z k := by rw [ez]; exact h3
  have hGW : GW z (WAt z) 0 60 s.heap (ct60 z0 a r d t3 o) (va_up (fun _ => S00) 0 S00, M00, fun _ => 0) H locs2 := by
    refine ⟨ct60 z0 a r d t3 o, ?_, ?_, ?_, Fr.rf, ?_, ?_⟩
    · rw [ez]; rw [ez0] at h1 ⊢; exact h1
    · refine va_S.iff (fun x => ⟨fun h => Or.inr h, ?_⟩) hS
      rintro (⟨k, hk, e⟩ | h)
      · rw [← e]; exact hge k hk
      · exact h
    · rw [ez]; exact w60_at (by rw [ez0]; exact ⟨rfl, rfl, rfl⟩) a r d t3 o
    · rw [ez]; exact Nat.le_refl _
    · rw [ez]; exact h2
  have ea : za z 0 = a := by rw [ez]; rfl
  have ed : za z 55 = d := by rw [ez]; rfl
  have eo : za z 59 = o := by rw [ez]; rfl
  refine W.widen (k := 100 + 0) (n := 2000 + 44 * 0) (Nat.le_of_ble_eq_true rfl) (Nat.le_of_ble_eq_true rfl) ?_
  refine law_loop C1 hlt hKz (lw_TZ hts0 hgv hge) hX hbl hge hL (fun H locs cells slots ls hc hs hlo => ?_) (L + 1) 0 (by omega) (by omega) _ _ _ _ H locs2 ls (RR.new.1) RR.new.2 hGW (by rw [ea, ed, eo]; exact hl)
  refine lv_iconst (v := 1) hx hb dL_law_1110 (by decide) ?_
  refine va_forget hlo ?_
  refine W.widen (k := 601024) (n := 7293034) hc hs ?_
  exact lw_ret hd0 hx hb hr hlocks dL_law_1111
