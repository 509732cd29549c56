/-! PART 03: calls, and the two systems' states -/
section QC
variable {p : Program} {l : Launch} {e : Env} {R : Room} {s : State} {m : MethodId} {args : Array Value} {below : List Frame} {meth : Method} {c : Code} {H : Heap} {locs : List Loc} {cells slots : Nat} {Q : State → Prop}
variable {cc : ByteArray} {nL : Nat} {ret : Option FieldType} {own : String} {ws : List Cond} {pc : Nat} {ls : Array Slot} {st0 rest : List Value} {z : QZ} {α β : Type} {At : α → (Nat → va_E) → Prop} {At2 : β → (Nat → va_E) → Prop} {lo hi lo2 hi2 : Nat} {c0 : Nat → va_E} {a : α} {b0 : β}
variable {y : MethodName} {bytes : ByteArray} {maxL mc ms n index : Nat} {ret2 : Option FieldType} {ws2 : List Cond} {rm : Room} {C : String} {As : List Value}
theorem G_callVi (C0 : Cx p s m args meth c cc nL ret own ws) (hK : QK z s) (h : GW z At lo hi s.heap c0 a H locs) {k ci : Nat} {q : vw_C} {fs : List Value} {post : Int32 → β → Prop} (hM : GI l y ws2 rm z (.ref (za z k) :: As) mc ms At2 lo2 hi2 b0 post) (hin : ∀ ct, At a ct → At2 b0 ct) (g : β → α) (hout : ∀ ct ct2 u, At a ct → At2 u ct2 → Fr lo2 hi2 ct ct2 → At (g u) ct2) (hlo : lo ≤ lo2) (hhi : hi2 ≤ hi)
    (cw : CallW R s args own C index y bytes maxL ret2 ws2 rm mc ms n) (hk : k < hi) (hc : ∀ ct, At a ct → ct k = .inr (ci, fs)) (hcl : vwCl[ci]? = some q) (hC : q.1 = C) (hlen : As.length = n) (hsz : ls.size = nL) (hst : st0 = As.reverse ++ .ref (za z k) :: rest) (hroom : (rest.map fun v => v.category).sum ≤ 8) (hf : cells + mc ≤ R.cells ∧ slots + ms ≤ R.slots) (hdg : decode cc pc = .ok (.invokevirtual index, 3))
    (kk : ∀ (r : Int32) (u : β) (H1 : Heap) (locs1 : List Loc), post r u → GW z At lo hi s.heap c0 (g u) H1 locs1 → W p l e R s m args below meth c H1 locs1 (cells + mc) (slots + ms) Q (F0 m (pc + 3) ls (.int r :: rest))) : W p l e R s m args below meth c H locs cells slots Q (F0 m pc ls st0) := by
  obtain ⟨ct, hP, hS, hA, hF, hn, hq⟩ := h
  refine va_calli (va_runV (As := As) (rest := rest) ⟨C0.1, C0.2.1, C0.2.2.2.1, C0.2.2.2.2.1, C0.2.2.2.2.2.1⟩ (hM ct H.size (Nat.le_trans hhi hn) hq (hin ct hA)) cw ⟨q_blind, by rw [← hC]; exact q_recv hK hP (Nat.lt_of_lt_of_le hk hn) (hc ct hA) hcl, q_given hK hP⟩ rfl hlen hsz hst (lv_room hroom) hdg hf) hS (fun q _ h => qA_sub hS.1 h) (fun q h => qA_sub hS.1 h) (fun r u t H1 locs1 ht hvm hp hB hz1 hk1 hS1 => ?_)
  obtain ⟨ct2, hP1, hK1, hA1, hF1⟩ := hB
  rw [ht] at hP1
  exact kk r u H1 locs1 hp ⟨ct2, hP1, hS1, hout ct ct2 u hA hA1 hF1, hF.trans (hF1.wider hlo hhi), hn, hq⟩
theorem S_callVi (C0 : Cx p s m args meth c cc nL ret own ws) (hK : QK z s) (h : GW z At lo hi s.heap c0 a H locs) {k ci : Nat} {q : vw_C} {fs : List Value} {post : Int32 → α → Prop} (hM : GI l y ws2 rm z (.ref (za z k) :: As) mc ms At lo hi a post)
    (cw : CallW R s args own C index y bytes maxL ret2 ws2 rm mc ms n) (hk : k < hi) (hc : ∀ ct, At a ct → ct k = .inr (ci, fs)) (hcl : vwCl[ci]? = some q) (hC : q.1 = C) (hlen : As.length = n) (hsz : ls.size = nL) (hst : st0 = As.reverse ++ .ref (za z k) :: rest) (hroom : (rest.map fun v => v.category).sum ≤ 8) (hf : cells + mc ≤ R.cells ∧ slots + ms ≤ R.slots) (hdg : decode cc pc = .ok (.invokevirtual index, 3))
    (kk : ∀ (r : Int32) (u : α) (H1 : Heap) (locs1 : List Loc), post r u → GW z At lo hi s.heap c0 u H1 locs1 → W p l e R s m args below meth c H1 locs1 (cells + mc) (slots + ms) Q (F0 m (pc + 3) ls (.int r :: rest))) : W p l e R s m args below meth c H locs cells slots Q (F0 m pc ls st0) :=
  G_callVi C0 hK h hM (fun _ h => h) (fun u => u) (fun _ _ _ _ h _ => h) (Nat.le_refl _) (Nat.le_refl _) cw hk hc hcl hC hlen hsz hst hroom hf hdg kk
theorem G_callSi (C0 : Cx p s m args meth c cc nL ret own ws) (hK : QK z s) (h : GW z At lo hi s.heap c0 a H locs) {post : Int32 → β → Prop} (hM : GI l y ws2 rm z As mc ms At2 lo2 hi2 b0 post) (hin : ∀ ct, At a ct → At2 b0 ct) (g : β → α) (hout : ∀ ct ct2 u, At a ct → At2 u ct2 → Fr lo2 hi2 ct ct2 → At (g u) ct2) (hlo : lo ≤ lo2) (hhi : hi2 ≤ hi)
    (cw : CallB R s args own index y bytes maxL ret2 ws2 rm mc ms n ∧ (Cond.static y).before args s = true) (hlen : As.length = n) (hsz : ls.size = nL) (hst : st0 = As.reverse ++ rest) (hroom : (rest.map fun v => v.category).sum ≤ 8) (hf : cells + mc ≤ R.cells ∧ slots + ms ≤ R.slots) (hdg : decode cc pc = .ok (.invokestatic index, 3))
    (kk : ∀ (r : Int32) (u : β) (H1 : Heap) (locs1 : List Loc), post r u → GW z At lo hi s.heap c0 (g u) H1 locs1 → W p l e R s m args below meth c H1 locs1 (cells + mc) (slots + ms) Q (F0 m (pc + 3) ls (.int r :: rest))) : W p l e R s m args below meth c H locs cells slots Q (F0 m pc ls st0) := by
  obtain ⟨ct, hP, hS, hA, hF, hn, hq⟩ := h
  refine va_calli (va_runS (As := As) (rest := rest) ⟨C0.1, C0.2.1, C0.2.2.2.1, C0.2.2.2.2.1, C0.2.2.2.2.2.1⟩ (hM ct H.size (Nat.le_trans hhi hn) hq (hin ct hA)) cw ⟨q_blind, q_given hK hP⟩ rfl hlen hsz hst (lv_room hroom) hdg hf) hS (fun q _ h => qA_sub hS.1 h) (fun q h => qA_sub hS.1 h) (fun r u t H1 locs1 ht hvm hp hB hz1 hk1 hS1 => ?_)
  obtain ⟨ct2, hP1, hK1, hA1, hF1⟩ := hB
  rw [ht] at hP1
  exact kk r u H1 locs1 hp ⟨ct2, hP1, hS1, hout ct ct2 u hA hA1 hF1, hF.trans (hF1.wider hlo hhi), hn, hq⟩
theorem S_callSi (C0 : Cx p s m args meth c cc nL ret own ws) (hK : QK z s) (h : GW z At lo hi s.heap c0 a H locs) {post : Int32 → α → Prop} (hM : GI l y ws2 rm z As mc ms At lo hi a post)
    (cw : CallB R s args own index y bytes maxL ret2 ws2 rm mc ms n ∧ (Cond.static y).before args s = true) (hlen : As.length = n) (hsz : ls.size = nL) (hst : st0 = As.reverse ++ rest) (hroom : (rest.map fun v => v.category).sum ≤ 8) (hf : cells + mc ≤ R.cells ∧ slots + ms ≤ R.slots) (hdg : decode cc pc = .ok (.invokestatic index, 3))
    (kk : ∀ (r : Int32) (u : α) (H1 : Heap) (locs1 : List Loc), post r u → GW z At lo hi s.heap c0 u H1 locs1 → W p l e R s m args below meth c H1 locs1 (cells + mc) (slots + ms) Q (F0 m (pc + 3) ls (.int r :: rest))) : W p l e R s m args below meth c H locs cells slots Q (F0 m pc ls st0) :=
  G_callSi C0 hK h hM (fun _ h => h) (fun u => u) (fun _ _ _ _ h _ => h) (Nat.le_refl _) (Nat.le_refl _) cw hlen hsz hst hroom hf hdg kk
theorem G_callVv (C0 : Cx p s m args meth c cc nL ret own ws) (hK : QK z s) (h : GW z At lo hi s.heap c0 a H locs) {k ci : Nat} {q : vw_C} {fs : List Value} {post : β → Prop} (hM : GV l y ws2 rm z (.ref (za z k) :: As) mc ms At2 lo2 hi2 b0 post) (hin : ∀ ct, At a ct → At2 b0 ct) (g : β → α) (hout : ∀ ct ct2 u, At a ct → At2 u ct2 → Fr lo2 hi2 ct ct2 → At (g u) ct2) (hlo : lo ≤ lo2) (hhi : hi2 ≤ hi)
    (cw : CallW R s args own C index y bytes maxL ret2 ws2 rm mc ms n) (hk : k < hi) (hc : ∀ ct, At a ct → ct k = .inr (ci, fs)) (hcl : vwCl[ci]? = some q) (hC : q.1 = C) (hlen : As.length = n) (hsz : ls.size = nL) (hst : st0 = As.reverse ++ .ref (za z k) :: rest) (hroom : (rest.map fun v => v.category).sum ≤ 8) (hf : cells + mc ≤ R.cells ∧ slots + ms ≤ R.slots) (hdg : decode cc pc = .ok (.invokevirtual index, 3))
    (kk : ∀ (u : β) (H1 : Heap) (locs1 : List Loc), post u → GW z At lo hi s.heap c0 (g u) H1 locs1 → W p l e R s m args below meth c H1 locs1 (cells + mc) (slots + ms) Q (F0 m (pc + 3) ls (rest))) : W p l e R s m args below meth c H locs cells slots Q (F0 m pc ls st0) := by
  obtain ⟨ct, hP, hS, hA, hF, hn, hq⟩ := h
  refine va_callv (va_runV (As := As) (rest := rest) ⟨C0.1, C0.2.1, C0.2.2.2.1, C0.2.2.2.2.1, C0.2.2.2.2.2.1⟩ (hM ct H.size (Nat.le_trans hhi hn) hq (hin ct hA)) cw ⟨q_blind, by rw [← hC]; exact q_recv hK hP (Nat.lt_of_lt_of_le hk hn) (hc ct hA) hcl, q_given hK hP⟩ rfl hlen hsz hst (lv_room hroom) hdg hf) hS (fun q _ h => qA_sub hS.1 h) (fun q h => qA_sub hS.1 h) (fun u t H1 locs1 ht hvm hp hB hz1 hk1 hS1 => ?_)
  obtain ⟨ct2, hP1, hK1, hA1, hF1⟩ := hB
  rw [ht] at hP1
  exact kk u H1 locs1 hp ⟨ct2, hP1, hS1, hout ct ct2 u hA hA1 hF1, hF.trans (hF1.wider hlo hhi), hn, hq⟩
theorem S_callVv (C0 : Cx p s m args meth c cc nL ret own ws) (hK : QK z s) (h : GW z At lo hi s.heap c0 a H locs) {k ci : Nat} {q : vw_C} {fs : List Value} {post : α → Prop} (hM : GV l y ws2 rm z (.ref (za z k) :: As) mc ms At lo hi a post)
    (cw : CallW R s args own C index y bytes maxL ret2 ws2 rm mc ms n) (hk : k < hi) (hc : ∀ ct, At a ct → ct k = .inr (ci, fs)) (hcl : vwCl[ci]? = some q) (hC : q.1 = C) (hlen : As.length = n) (hsz : ls.size = nL) (hst : st0 = As.reverse ++ .ref (za z k) :: rest) (hroom : (rest.map fun v => v.category).sum ≤ 8) (hf : cells + mc ≤ R.cells ∧ slots + ms ≤ R.slots) (hdg : decode cc pc = .ok (.invokevirtual index, 3))
    (kk : ∀ (u : α) (H1 : Heap) (locs1 : List Loc), post u → GW z At lo hi s.heap c0 u H1 locs1 → W p l e R s m args below meth c H1 locs1 (cells + mc) (slots + ms) Q (F0 m (pc + 3) ls (rest))) : W p l e R s m args below meth c H locs cells slots Q (F0 m pc ls st0) :=
  G_callVv C0 hK h hM (fun _ h => h) (fun u => u) (fun _ _ _ _ h _ => h) (Nat.le_refl _) (Nat.le_refl _) cw hk hc hcl hC hlen hsz hst hroom hf hdg kk
theorem G_callSv (C0 : Cx p s m args meth c cc nL ret own ws) (hK : QK z s) (h : GW z At lo hi s.heap c0 a H locs) {post : β → Prop} (hM : GV l y ws2 rm z As mc ms At2 lo2 hi2 b0 post) (hin : ∀ ct, At a ct → At2 b0 ct) (g : β → α) (hout : ∀ ct ct2 u, At a ct → At2 u ct2 → Fr lo2 hi2 ct ct2 → At (g u) ct2) (hlo : lo ≤ lo2) (hhi : hi2 ≤ hi)
    (cw : CallB R s args own index y bytes maxL ret2 ws2 rm mc ms n ∧ (Cond.static y).before args s = true) (hlen : As.length = n) (hsz : ls.size = nL) (hst : st0 = As.reverse ++ rest) (hroom : (rest.map fun v => v.category).sum ≤ 8) (hf : cells + mc ≤ R.cells ∧ slots + ms ≤ R.slots) (hdg : decode cc pc = .ok (.invokestatic index, 3))
    (kk : ∀ (u : β) (H1 : Heap) (locs1 : List Loc), post u → GW z At lo hi s.heap c0 (g u) H1 locs1 → W p l e R s m args below meth c H1 locs1 (cells + mc) (slots + ms) Q (F0 m (pc + 3) ls (rest))) : W p l e R s m args below meth c H locs cells slots Q (F0 m pc ls st0) := by
  obtain ⟨ct, hP, hS, hA, hF, hn, hq⟩ := h
  refine va_callv (va_runS (As := As) (rest := rest) ⟨C0.1, C0.2.1, C0.2.2.2.1, C0.2.2.2.2.1, C0.2.2.2.2.2.1⟩ (hM ct H.size (Nat.le_trans hhi hn) hq (hin ct hA)) cw ⟨q_blind, q_given hK hP⟩ rfl hlen hsz hst (lv_room hroom) hdg hf) hS (fun q _ h => qA_sub hS.1 h) (fun q h => qA_sub hS.1 h) (fun u t H1 locs1 ht hvm hp hB hz1 hk1 hS1 => ?_)
  obtain ⟨ct2, hP1, hK1, hA1, hF1⟩ := hB
  rw [ht] at hP1
  exact kk u H1 locs1 hp ⟨ct2, hP1, hS1, hout ct ct2 u hA hA1 hF1, hF.trans (hF1.wider hlo hhi), hn, hq⟩
theorem S_callSv (C0 : Cx p s m args meth c cc nL ret own ws) (hK : QK z s) (h : GW z At lo hi s.heap c0 a H locs) {post : α → Prop} (hM : GV l y ws2 rm z As mc ms At lo hi a post)
    (cw : CallB R s args own index y bytes maxL ret2 ws2 rm mc ms n ∧ (Cond.static y).before args s = true) (hlen : As.length = n) (hsz : ls.size = nL) (hst : st0 = As.reverse ++ rest) (hroom : (rest.map fun v => v.category).sum ≤ 8) (hf : cells + mc ≤ R.cells ∧ slots + ms ≤ R.slots) (hdg : decode cc pc = .ok (.invokestatic index, 3))
    (kk : ∀ (u : α) (H1 : Heap) (locs1 : List Loc), post u → GW z At lo hi s.heap c0 u H1 locs1 → W p l e R s m args below meth c H1 locs1 (cells + mc) (slots + ms) Q (F0 m (pc + 3) ls (rest))) : W p l e R s m args below meth c H locs cells slots Q (F0 m pc ls st0) :=
  G_callSv C0 hK h hM (fun _ h => h) (fun u => u) (fun _ _ _ _ h _ => h) (Nat.le_refl _) (Nat.le_refl _) cw hlen hsz hst hroom hf hdg kk
theorem G_callVl (C0 : Cx p s m args meth c cc nL ret own ws) (hK : QK z s) (h : GW z At lo hi s.heap c0 a H locs) {k ci : Nat} {q : vw_C} {fs : List Value} {post : Int64 → β → Prop} (hM : GL l y ws2 rm z (.ref (za z k) :: As) mc ms At2 lo2 hi2 b0 post) (hin : ∀ ct, At a ct → At2 b0 ct) (g : β → α) (hout : ∀ ct ct2 u, At a ct → At2 u ct2 → Fr lo2 hi2 ct ct2 → At (g u) ct2) (hlo : lo ≤ lo2) (hhi : hi2 ≤ hi)
    (cw : CallW R s args own C index y bytes maxL ret2 ws2 rm mc ms n) (hk : k < hi) (hc : ∀ ct, At a ct → ct k = .inr (ci, fs)) (hcl : vwCl[ci]? = some q) (hC : q.1 = C) (hlen : As.length = n) (hsz : ls.size = nL) (hst : st0 = As.reverse ++ .ref (za z k) :: rest) (hroom : (rest.map fun v => v.category).sum ≤ 8) (hf : cells + mc ≤ R.cells ∧ slots + ms ≤ R.slots) (hdg : decode cc pc = .ok (.invokevirtual index, 3))
    (kk : ∀ (r : Int64) (u : β) (H1 : Heap) (locs1 : List Loc), post r u → GW z At lo hi s.heap c0 (g u) H1 locs1 → W p l e R s m args below meth c H1 locs1 (cells + mc) (slots + ms) Q (F0 m (pc + 3) ls (.long r :: rest))) : W p l e R s m args below meth c H locs cells slots Q (F0 m pc ls st0) := by
  obtain ⟨ct, hP, hS, hA, hF, hn, hq⟩ := h
  refine va_calll (va_runV (As := As) (rest := rest) ⟨C0.1, C0.2.1, C0.2.2.2.1, C0.2.2.2.2.1, C0.2.2.2.2.2.1⟩ (hM ct H.size (Nat.le_trans hhi hn) hq (hin ct hA)) cw ⟨q_blind, by rw [← hC]; exact q_recv hK hP (Nat.lt_of_lt_of_le hk hn) (hc ct hA) hcl, q_given hK hP⟩ rfl hlen hsz hst (lv_room hroom) hdg hf) hS (fun q _ h => qA_sub hS.1 h) (fun q h => qA_sub hS.1 h) (fun r u t H1 locs1 ht hvm hp hB hz1 hk1 hS1 => ?_)
  obtain ⟨ct2, hP1, hK1, hA1, hF1⟩ := hB
  rw [ht] at hP1
  exact kk r u H1 locs1 hp ⟨ct2, hP1, hS1, hout ct ct2 u hA hA1 hF1, hF.trans (hF1.wider hlo hhi), hn, hq⟩
theorem S_callVl (C0 : Cx p s m args meth c cc nL ret own ws) (hK : QK z s) (h : GW z At lo hi s.heap c0 a H locs) {k ci : Nat} {q : vw_C} {fs : List Value} {post : Int64 → α → Prop} (hM : GL l y ws2 rm z (.ref (za z k) :: As) mc ms At lo hi a post)
    (cw : CallW R s args own C index y bytes maxL ret2 ws2 rm mc ms n) (hk : k < hi) (hc : ∀ ct, At a ct → ct k = .inr (ci, fs)) (hcl : vwCl[ci]? = some q) (hC : q.1 = C) (hlen : As.length = n) (hsz : ls.size = nL) (hst : st0 = As.reverse ++ .ref (za z k) :: rest) (hroom : (rest.map fun v => v.category).sum ≤ 8) (hf : cells + mc ≤ R.cells ∧ slots + ms ≤ R.slots) (hdg : decode cc pc = .ok (.invokevirtual index, 3))
    (kk : ∀ (r : Int64) (u : α) (H1 : Heap) (locs1 : List Loc), post r u → GW z At lo hi s.heap c0 u H1 locs1 → W p l e R s m args below meth c H1 locs1 (cells + mc) (slots + ms) Q (F0 m (pc + 3) ls (.long r :: rest))) : W p l e R s m args below meth c H locs cells slots Q (F0 m pc ls st0) :=
  G_callVl C0 hK h hM (fun _ h => h) (fun u => u) (fun _ _ _ _ h _ => h) (Nat.le_refl _) (Nat.le_refl _) cw hk hc hcl hC hlen hsz hst hroom hf hdg kk
theorem G_callSl (C0 : Cx p s m args meth c cc nL ret own ws) (hK : QK z s) (h : GW z At lo hi s.heap c0 a H locs) {post : Int64 → β → Prop} (hM : GL l y ws2 rm z As mc ms At2 lo2 hi2 b0 post) (hin : ∀ ct, At a ct → At2 b0 ct) (g : β → α) (hout : ∀ ct ct2 u, At a ct → At2 u ct2 → Fr lo2 hi2 ct ct2 → At (g u) ct2) (hlo : lo ≤ lo2) (hhi : hi2 ≤ hi)
    (cw : CallB R s args own index y bytes maxL ret2 ws2 rm mc ms n ∧ (Cond.static y).before args s = true) (hlen : As.length = n) (hsz : ls.size = nL) (hst : st0 = As.reverse ++ rest) (hroom : (rest.map fun v => v.category).sum ≤ 8) (hf : cells + mc ≤ R.cells ∧ slots + ms ≤ R.slots) (hdg : decode cc pc = .ok (.invokestatic index, 3))
    (kk : ∀ (r : Int64) (u : β) (H1 : Heap) (locs1 : List Loc), post r u → GW z At lo hi s.heap c0 (g u) H1 locs1 → W p l e R s m args below meth c H1 locs1 (cells + mc) (slots + ms) Q (F0 m (pc + 3) ls (.long r :: rest))) : W p l e R s m args below meth c H locs cells slots Q (F0 m pc ls st0) := by
  obtain ⟨ct, hP, hS, hA, hF, hn, hq⟩ := h
  refine va_calll (va_runS (As := As) (rest := rest) ⟨C0.1, C0.2.1, C0.2.2.2.1, C0.2.2.2.2.1, C0.2.2.2.2.2.1⟩ (hM ct H.size (Nat.le_trans hhi hn) hq (hin ct hA)) cw ⟨q_blind, q_given hK hP⟩ rfl hlen hsz hst (lv_room hroom) hdg hf) hS (fun q _ h => qA_sub hS.1 h) (fun q h => qA_sub hS.1 h) (fun r u t H1 locs1 ht hvm hp hB hz1 hk1 hS1 => ?_)
  obtain ⟨ct2, hP1, hK1, hA1, hF1⟩ := hB
  rw [ht] at hP1
  exact kk r u H1 locs1 hp ⟨ct2, hP1, hS1, hout ct ct2 u hA hA1 hF1, hF.trans (hF1.wider hlo hhi), hn, hq⟩
theorem S_callSl (C0 : Cx p s m args meth c cc nL ret own ws) (hK : QK z s) (h : GW z At lo hi s.heap c0 a H locs) {post : Int64 → α → Prop} (hM : GL l y ws2 rm z As mc ms At lo hi a post)
    (cw : CallB R s args own index y bytes maxL ret2 ws2 rm mc ms n ∧ (Cond.static y).before args s = true) (hlen : As.length = n) (hsz : ls.size = nL) (hst : st0 = As.reverse ++ rest) (hroom : (rest.map fun v => v.category).sum ≤ 8) (hf : cells + mc ≤ R.cells ∧ slots + ms ≤ R.slots) (hdg : decode cc pc = .ok (.invokestatic index, 3))
    (kk : ∀ (r : Int64) (u : α) (H1 : Heap) (locs1 : List Loc), post r u → GW z At lo hi s.heap c0 u H1 locs1 → W p l e R s m args below meth c H1 locs1 (cells + mc) (slots + ms) Q (F0 m (pc + 3) ls (.long r :: rest))) : W p l e R s m args below meth c H locs cells slots Q (F0 m pc ls st0) :=
  G_callSl C0 hK h hM (fun _ h => h) (fun u => u) (fun _ _ _ _ h _ => h) (Nat.le_refl _) (Nat.le_refl _) cw hlen hsz hst hroom hf hdg kk
theorem G_callVd (C0 : Cx p s m args meth c cc nL ret own ws) (hK : QK z s) (h : GW z At lo hi s.heap c0 a H locs) {k ci : Nat} {q : vw_C} {fs : List Value} {post : UInt64 → β → Prop} (hM : GD l y ws2 rm z (.ref (za z k) :: As) mc ms At2 lo2 hi2 b0 post) (hin : ∀ ct, At a ct → At2 b0 ct) (g : β → α) (hout : ∀ ct ct2 u, At a ct → At2 u ct2 → Fr lo2 hi2 ct ct2 → At (g u) ct2) (hlo : lo ≤ lo2) (hhi : hi2 ≤ hi)
    (cw : CallW R s args own C index y bytes maxL ret2 ws2 rm mc ms n) (hk : k < hi) (hc : ∀ ct, At a ct → ct k = .inr (ci, fs)) (hcl : vwCl[ci]? = some q) (hC : q.1 = C) (hlen : As.length = n) (hsz : ls.size = nL) (hst : st0 = As.reverse ++ .ref (za z k) :: rest) (hroom : (rest.map fun v => v.category).sum ≤ 8) (hf : cells + mc ≤ R.cells ∧ slots + ms ≤ R.slots) (hdg : decode cc pc = .ok (.invokevirtual index, 3))
    (kk : ∀ (r : UInt64) (u : β) (H1 : Heap) (locs1 : List Loc), post r u → GW z At lo hi s.heap c0 (g u) H1 locs1 → W p l e R s m args below meth c H1 locs1 (cells + mc) (slots + ms) Q (F0 m (pc + 3) ls (.double r :: rest))) : W p l e R s m args below meth c H locs cells slots Q (F0 m pc ls st0) := by
  obtain ⟨ct, hP, hS, hA, hF, hn, hq⟩ := h
  refine va_calld (va_runV (As := As) (rest := rest) ⟨C0.1, C0.2.1, C0.2.2.2.1, C0.2.2.2.2.1, C0.2.2.2.2.2.1⟩ (hM ct H.size (Nat.le_trans hhi hn) hq (hin ct hA)) cw ⟨q_blind, by rw [← hC]; exact q_recv hK hP (Nat.lt_of_lt_of_le hk hn) (hc ct hA) hcl, q_given hK hP⟩ rfl hlen hsz hst (lv_room hroom) hdg hf) hS (fun q _ h => qA_sub hS.1 h) (fun q h => qA_sub hS.1 h) (fun r u t H1 locs1 ht hvm hp hB hz1 hk1 hS1 => ?_)
  obtain ⟨ct2, hP1, hK1, hA1, hF1⟩ := hB
  rw [ht] at hP1
  exact kk r u H1 locs1 hp ⟨ct2, hP1, hS1, hout ct ct2 u hA hA1 hF1, hF.trans (hF1.wider hlo hhi), hn, hq⟩
theorem S_callVd (C0 : Cx p s m args meth c cc nL ret own ws) (hK : QK z s) (h : GW z At lo hi s.heap c0 a H locs) {k ci : Nat} {q : vw_C} {fs : List Value} {post : UInt64 → α → Prop} (hM : GD l y ws2 rm z (.ref (za z k) :: As) mc ms At lo hi a post)
    (cw : CallW R s args own C index y bytes maxL ret2 ws2 rm mc ms n) (hk : k < hi) (hc : ∀ ct, At a ct → ct k = .inr (ci, fs)) (hcl : vwCl[ci]? = some q) (hC : q.1 = C) (hlen : As.length = n) (hsz : ls.size = nL) (hst : st0 = As.reverse ++ .ref (za z k) :: rest) (hroom : (rest.map fun v => v.category).sum ≤ 8) (hf : cells + mc ≤ R.cells ∧ slots + ms ≤ R.slots) (hdg : decode cc pc = .ok (.invokevirtual index, 3))
    (kk : ∀ (r : UInt64) (u : α) (H1 : Heap) (locs1 : List Loc), post r u → GW z At lo hi s.heap c0 u H1 locs1 → W p l e R s m args below meth c H1 locs1 (cells + mc) (slots + ms) Q (F0 m (pc + 3) ls (.double r :: rest))) : W p l e R s m args below meth c H locs cells slots Q (F0 m pc ls st0) :=
  G_callVd C0 hK h hM (fun _ h => h) (fun u => u) (fun _ _ _ _ h _ => h) (Nat.le_refl _) (Nat.le_refl _) cw hk hc hcl hC hlen hsz hst hroom hf hdg kk
theorem G_callSd (C0 : Cx p s m args meth c cc nL ret own ws) (hK : QK z s) (h : GW z At lo hi s.heap c0 a H locs) {post : UInt64 → β → Prop} (hM : GD l y ws2 rm z As mc ms At2 lo2 hi2 b0 post) (hin : ∀ ct, At a ct → At2 b0 ct) (g : β → α) (hout : ∀ ct ct2 u, At a ct → At2 u ct2 → Fr lo2 hi2 ct ct2 → At (g u) ct2) (hlo : lo ≤ lo2) (hhi : hi2 ≤ hi)
    (cw : CallB R s args own index y bytes maxL ret2 ws2 rm mc ms n ∧ (Cond.static y).before args s = true) (hlen : As.length = n) (hsz : ls.size = nL) (hst : st0 = As.reverse ++ rest) (hroom : (rest.map fun v => v.category).sum ≤ 8) (hf : cells + mc ≤ R.cells ∧ slots + ms ≤ R.slots) (hdg : decode cc pc = .ok (.invokestatic index, 3))
    (kk : ∀ (r : UInt64) (u : β) (H1 : Heap) (locs1 : List Loc), post r u → GW z At lo hi s.heap c0 (g u) H1 locs1 → W p l e R s m args below meth c H1 locs1 (cells + mc) (slots + ms) Q (F0 m (pc + 3) ls (.double r :: rest))) : W p l e R s m args below meth c H locs cells slots Q (F0 m pc ls st0) := by
  obtain ⟨ct, hP, hS, hA, hF, hn, hq⟩ := h
  refine va_calld (va_runS (As := As) (rest := rest) ⟨C0.1, C0.2.1, C0.2.2.2.1, C0.2.2.2.2.1, C0.2.2.2.2.2.1⟩ (hM ct H.size (Nat.le_trans hhi hn) hq (hin ct hA)) cw ⟨q_blind, q_given hK hP⟩ rfl hlen hsz hst (lv_room hroom) hdg hf) hS (fun q _ h => qA_sub hS.1 h) (fun q h => qA_sub hS.1 h) (fun r u t H1 locs1 ht hvm hp hB hz1 hk1 hS1 => ?_)
  obtain ⟨ct2, hP1, hK1, hA1, hF1⟩ := hB
  rw [ht] at hP1
  exact kk r u H1 locs1 hp ⟨ct2, hP1, hS1, hout ct ct2 u hA hA1 hF1, hF.trans (hF1.wider hlo hhi), hn, hq⟩
theorem S_callSd (C0 : Cx p s m args meth c cc nL ret own ws) (hK : QK z s) (h : GW z At lo hi s.heap c0 a H locs) {post : UInt64 → α → Prop} (hM : GD l y ws2 rm z As mc ms At lo hi a post)
    (cw : CallB R s args own index y bytes maxL ret2 ws2 rm mc ms n ∧ (Cond.static y).before args s = true) (hlen : As.length = n) (hsz : ls.size = nL) (hst : st0 = As.reverse ++ rest) (hroom : (rest.map fun v => v.category).sum ≤ 8) (hf : cells + mc ≤ R.cells ∧ slots + ms ≤ R.slots) (hdg : decode cc pc = .ok (.invokestatic index, 3))
    (kk : ∀ (r : UInt64) (u : α) (H1 : Heap) (locs1 : List Loc), post r u → GW z At lo hi s.heap c0 u H1 locs1 → W p l e R s m args below meth c H1 locs1 (cells + mc) (slots + ms) Q (F0 m (pc + 3) ls (.double r :: rest))) : W p l e R s m args below meth c H locs cells slots Q (F0 m pc ls st0) :=
  G_callSd C0 hK h hM (fun _ h => h) (fun u => u) (fun _ _ _ _ h _ => h) (Nat.le_refl _) (Nat.le_refl _) cw hlen hsz hst hroom hf hdg kk
end QC
abbrev QLs : Type := (Nat → Nat → Int32) × (Nat → Nat → Int32) × Nat × Nat × Int32
abbrev qT (S : QLs) : Nat → Nat → Int32 := S.1
abbrev qP (S : QLs) : Nat → Nat → Int32 := S.2.1
abbrev qt (S : QLs) : Nat := S.2.2.1
abbrev qp (S : QLs) : Nat := S.2.2.2.1
abbrev qD (S : QLs) : Int32 := S.2.2.2.2
def sT (S : QLs) (i : Nat) (r : Nat → Int32) : QLs := (va_up S.1 i r, S.2)
def sP (S : QLs) (i : Nat) (r : Nat → Int32) : QLs := (S.1, va_up S.2.1 i r, S.2.2)
def st_ (S : QLs) (n : Nat) : QLs := (S.1, S.2.1, n, S.2.2.2)
def sp_ (S : QLs) (n : Nat) : QLs := (S.1, S.2.1, S.2.2.1, n, S.2.2.2.2)
def sD (S : QLs) (d : Int32) : QLs := (S.1, S.2.1, S.2.2.1, S.2.2.2.1, d)
/-- a land at the place B: the object, the two outer arrays, ten rows of tanks, fourteen of pipes -/
def LandAt (z : QZ) (B : Nat) (S : QLs) (ct : Nat → va_E) : Prop :=
  ct B = .inr (0, [.ref (za z (B + 1)), .ref (za z (B + 2)), .int (nI (qt S)), .int (nI (qp S)), .int (qD S)]) ∧
  ct (B + 1) = .inl (zR z, 10, .inr (.inr (.inr (.inr (fun i => if i < 10 then some (za z (B + (3 + i))) else none))))) ∧
  ct (B + 2) = .inl (zR z, 14, .inr (.inr (.inr (.inr (fun i => if i < 14 then some (za z (B + (13 + i))) else none))))) ∧
  (∀ i, i < 10 → ct (B + (3 + i)) = .inl (zI z, 8, .inl (qT S i))) ∧ (∀ i, i < 14 → ct (B + (13 + i)) = .inl (zI z, 10, .inl (qP S i)))
theorem LandAt.off {z : QZ} {B : Nat} {S : QLs} {ct ct2 : Nat → va_E} (h : LandAt z B S ct) (hk : ∀ k, B ≤ k → k < B + 27 → ct2 k = ct k) : LandAt z B S ct2 := by
  obtain ⟨h1, h2, h3, h4, h5⟩ := h
  refine ⟨?_, ?_, ?_, fun i hi => ?_, fun i hi => ?_⟩
  · rw [hk _ (by omega) (by omega)]; exact h1
  · rw [hk _ (by omega) (by omega)]; exact h2
  · rw [hk _ (by omega) (by omega)]; exact h3
  · rw [hk _ (by omega) (by omega)]; exact h4 i hi
  · rw [hk _ (by omega) (by omega)]; exact h5 i hi
theorem LandAt.setT {z : QZ} {B : Nat} {S : QLs} {ct : Nat → va_E} (h : LandAt z B S ct) {i : Nat} (hi : i < 10) (r : Nat → Int32) : LandAt z B (sT S i r) (va_up ct (B + (3 + i)) (.inl (zI z, 8, .inl r))) := by
  obtain ⟨h1, h2, h3, h4, h5⟩ := h
  refine ⟨?_, ?_, ?_, fun j hj => ?_, fun j hj => ?_⟩
  · rw [va_up_ne _ _ (by omega)]; exact h1
  · rw [va_up_ne _ _ (by omega)]; exact h2
  · rw [va_up_ne _ _ (by omega)]; exact h3
  · by_cases e : j = i
    · subst e
      rw [va_up_self]; simp [sT, qT, va_up_self]
    · rw [va_up_ne _ _ (by omega), h4 j hj]; simp [sT, qT, va_up_ne _ _ e]
  · rw [va_up_ne _ _ (by omega)]; exact h5 j hj
theorem LandAt.setP {z : QZ} {B : Nat} {S : QLs} {ct : Nat → va_E} (h : LandAt z B S ct) {i : Nat} (hi : i < 14) (r : Nat → Int32) : LandAt z B (sP S i r) (va_up ct (B + (13 + i)) (.inl (zI z, 10, .inl r))) := by
  obtain ⟨h1, h2, h3, h4, h5⟩ := h
  refine ⟨?_, ?_, ?_, fun j hj => ?_, fun j hj => ?_⟩
  · rw [va_up_ne _ _ (by omega)]; exact h1
  · rw [va_up_ne _ _ (by omega)]; exact h2
  · rw [va_up_ne _ _ (by omega)]; exact h3
  · rw [va_up_ne _ _ (by omega)]; exact h4 j hj
  · by_cases e : j = i
    · subst e
      rw [va_up_self]; simp [sP, qP, va_up_self]
    · rw [va_up_ne _ _ (by omega), h5 j hj]; simp [sP, qP, va_up_ne _ _ e]
theorem LandAt.setO {z : QZ} {B : Nat} {S S2 : QLs} {ct : Nat → va_E} (h : LandAt z B S ct) (hT : qT S2 = qT S) (hP : qP S2 = qP S) : LandAt z B S2 (va_up ct B (.inr (0, [.ref (za z (B + 1)), .ref (za z (B + 2)), .int (nI (qt S2)), .int (nI (qp S2)), .int (qD S2)]))) := by
  obtain ⟨h1, h2, h3, h4, h5⟩ := h
  refine ⟨va_up_self _ _ _, ?_, ?_, fun j hj => ?_, fun j hj => ?_⟩
  · rw [va_up_ne _ _ (by omega)]; exact h2
  · rw [va_up_ne _ _ (by omega)]; exact h3
  · rw [va_up_ne _ _ (by omega), hT]; exact h4 j hj
  · rw [va_up_ne _ _ (by omega), hP]; exact h5 j hj
/-- the class: its object, and two lands -/
def XAt (z : QZ) (σ : Nat → QLs) (ct : Nat → va_E) : Prop := ct 0 = .inr (1, [.ref (za z (1 + 27 * 0)), .ref (za z (1 + 27 * 1))]) ∧ ∀ b, b < 2 → LandAt z (1 + 27 * b) (σ b) ct
theorem XAt.up {z : QZ} {σ : Nat → QLs} {ct : Nat → va_E} (h : XAt z σ ct) {b k : Nat} {e : va_E} {S : QLs} (hb : b < 2) (hk : 1 + 27 * b ≤ k ∧ k < 1 + 27 * b + 27) (hl : LandAt z (1 + 27 * b) S (va_up ct k e)) : XAt z (va_up σ b S) (va_up ct k e) := by
  refine ⟨by rw [va_up_ne _ _ (by omega)]; exact h.1, fun b2 hb2 => ?_⟩
  by_cases e2 : b2 = b
  · subst e2; rw [va_up_self]; exact hl
  · rw [va_up_ne _ _ e2]
    exact (h.2 b2 hb2).off (fun k2 h1 h2 => va_up_ne _ _ (by omega))
theorem XAt.T {z : QZ} {σ : Nat → QLs} {ct : Nat → va_E} (h : XAt z σ ct) {b i : Nat} (hb : b < 2) (hi : i < 10) (r : Nat → Int32) : XAt z (va_up σ b (sT (σ b) i r)) (va_up ct (1 + 27 * b + (3 + i)) (.inl (zI z, 8, .inl r))) := h.up hb (by omega) ((h.2 b hb).setT hi r)
theorem XAt.P {z : QZ} {σ : Nat → QLs} {ct : Nat → va_E} (h : XAt z σ ct) {b i : Nat} (hb : b < 2) (hi : i < 14) (r : Nat → Int32) : XAt z (va_up σ b (sP (σ b) i r)) (va_up ct (1 + 27 * b + (13 + i)) (.inl (zI z, 10, .inl r))) := h.up hb (by omega) ((h.2 b hb).setP hi r)
theorem XAt.O {z : QZ} {σ : Nat → QLs} {ct : Nat → va_E} (h : XAt z σ ct) {b : Nat} {S2 : QLs} (hb : b < 2) (hT : qT S2 = qT (σ b)) (hP : qP S2 = qP (σ b)) : XAt z (va_up σ b S2) (va_up ct (1 + 27 * b) (.inr (0, [.ref (za z (1 + 27 * b + 1)), .ref (za z (1 + 27 * b + 2)), .int (nI (qt S2)), .int (nI (qp S2)), .int (qD S2)]))) := h.up hb (by omega) ((h.2 b hb).setO hT hP)
/-- the reference: its object, tanks, pipes, the day -/
abbrev QMs : Type := Int32 × Nat × Nat × (Nat → Int32) × (Nat → Int32) × (Nat → Int32)
abbrev mH (M : QMs) : Int32 := M.1
abbrev mt_ (M : QMs) : Nat := M.2.1
abbrev mp_ (M : QMs) : Nat := M.2.2.1
abbrev mA (M : QMs) : Nat → Int32 := M.2.2.2.1
abbrev mB (M : QMs) : Nat → Int32 := M.2.2.2.2.1
abbrev mY (M : QMs) : Nat → Int32 := M.2.2.2.2.2
def uh (M : QMs) (x : Int32) : QMs := (x, M.2)
def ut (M : QMs) (n : Nat) : QMs := (M.1, n, M.2.2)
def up_ (M : QMs) (n : Nat) : QMs := (M.1, M.2.1, n, M.2.2.2)
def uA (M : QMs) (f : Nat → Int32) : QMs := (M.1, M.2.1, M.2.2.1, f, M.2.2.2.2)
def uB (M : QMs) (f : Nat → Int32) : QMs := (M.1, M.2.1, M.2.2.1, M.2.2.2.1, f, M.2.2.2.2.2)
def uY (M : QMs) (f : Nat → Int32) : QMs := (M.1, M.2.1, M.2.2.1, M.2.2.2.1, M.2.2.2.2.1, f)
section QX
variable {p : Program} {l : Launch} {e : Env} {R : Room} {s : State} {m : MethodId} {args : Array Value} {below : List Frame} {meth : Method} {c : Code} {H : Heap} {locs : List Loc} {cells slots : Nat} {Q : State → Prop}
variable {cc : ByteArray} {nL : Nat} {ret : Option FieldType} {own : String} {ws : List Cond} {pc : Nat} {ls : Array Slot} {rest : List Value} {z : QZ} {c0 : Nat → va_E} {σ : Nat → QLs} {M : QMs}
theorem X_ldT (C0 : Cx p s m args meth c cc nL ret own ws) (hK : QK z s) (h : GW z (XAt z) 0 55 s.heap c0 σ H locs) {b i k : Nat} (hb : b < 2) (hi : i < 10) {x : Int32} (hx : x = nI k) (hk : k < 8) (hdg : decode cc pc = .ok (.iaload, 1)) (kk : W p l e R s m args below meth c H locs cells slots Q (F0 m (pc + 1) ls (.int (qT (σ b) i k) :: rest))) : W p l e R s m args below meth c H locs cells slots Q (F0 m pc ls (.int x :: .ref (za z (1 + 27 * b + (3 + i))) :: rest)) :=
  G_iald C0 hK h (by omega) (fun ct hA => (hA.2 b hb).2.2.2.1 i hi) hx hk (by omega) hdg kk
theorem X_stT (C0 : Cx p s m args meth c cc nL ret own ws) (hK : QK z s) (h : GW z (XAt z) 0 55 s.heap c0 σ H locs) {b i k : Nat} (hb : b < 2) (hi : i < 10) {x v : Int32} (hx : x = nI k) (hk : k < 8) (hdg : decode cc pc = .ok (.iastore, 1)) (kk : ∀ (H1 : Heap) (locs1 : List Loc), GW z (XAt z) 0 55 s.heap c0 (va_up σ b (sT (σ b) i (upd (qT (σ b) i) k v))) H1 locs1 → W p l e R s m args below meth c H1 locs1 cells slots Q (F0 m (pc + 1) ls rest)) : W p l e R s m args below meth c H locs cells slots Q (F0 m pc ls (.int v :: .int x :: .ref (za z (1 + 27 * b + (3 + i))) :: rest)) :=
  G_iast C0 hK h (by omega) (fun ct hA => (hA.2 b hb).2.2.2.1 i hi) hx hk (by omega) (fun ct hA => hA.T hb hi _) hdg kk
theorem X_aT (C0 : Cx p s m args meth c cc nL ret own ws) (hK : QK z s) (h : GW z (XAt z) 0 55 s.heap c0 σ H locs) {b i : Nat} (hb : b < 2) {x : Int32} (hx : x = nI i) (hi : i < 10) (hdg : decode cc pc = .ok (.aaload, 1)) (kk : W p l e R s m args below meth c H locs cells slots Q (F0 m (pc + 1) ls (.ref (za z (1 + 27 * b + (3 + i))) :: rest))) : W p l e R s m args below meth c H locs cells slots Q (F0 m pc ls (.int x :: .ref (za z (1 + 27 * b + 1)) :: rest)) :=
  G_aald C0 hK h (by omega) (fun ct hA => (hA.2 b hb).2.1) hx hi (by omega) (if_pos hi) hdg kk
theorem X_ldP (C0 : Cx p s m args meth c cc nL ret own ws) (hK : QK z s) (h : GW z (XAt z) 0 55 s.heap c0 σ H locs) {b i k : Nat} (hb : b < 2) (hi : i < 14) {x : Int32} (hx : x = nI k) (hk : k < 10) (hdg : decode cc pc = .ok (.iaload, 1)) (kk : W p l e R s m args below meth c H locs cells slots Q (F0 m (pc + 1) ls (.int (qP (σ b) i k) :: rest))) : W p l e R s m args below meth c H locs cells slots Q (F0 m pc ls (.int x :: .ref (za z (1 + 27 * b + (13 + i))) :: rest)) :=
  G_iald C0 hK h (by omega) (fun ct hA => (hA.2 b hb).2.2.2.2 i hi) hx hk (by omega) hdg kk
theorem X_stP (C0 : Cx p s m args meth c cc nL ret own ws) (hK : QK z s) (h : GW z (XAt z) 0 55 s.heap c0 σ H locs) {b i k : Nat} (hb : b < 2) (hi : i < 14) {x v : Int32} (hx : x = nI k) (hk : k < 10) (hdg : decode cc pc = .ok (.iastore, 1)) (kk : ∀ (H1 : Heap) (locs1 : List Loc), GW z (XAt z) 0 55 s.heap c0 (va_up σ b (sP (σ b) i (upd (qP (σ b) i) k v))) H1 locs1 → W p l e R s m args below meth c H1 locs1 cells slots Q (F0 m (pc + 1) ls rest)) : W p l e R s m args below meth c H locs cells slots Q (F0 m pc ls (.int v :: .int x :: .ref (za z (1 + 27 * b + (13 + i))) :: rest)) :=
  G_iast C0 hK h (by omega) (fun ct hA => (hA.2 b hb).2.2.2.2 i hi) hx hk (by omega) (fun ct hA => hA.P hb hi _) hdg kk
theorem X_aP (C0 : Cx p s m args meth c cc nL ret own ws) (hK : QK z s) (h : GW z (XAt z) 0 55 s.heap c0 σ H locs) {b i : Nat} (hb : b < 2) {x : Int32} (hx : x = nI i) (hi : i < 14) (hdg : decode cc pc = .ok (.aaload, 1)) (kk : W p l e R s m args below meth c H locs cells slots Q (F0 m (pc + 1) ls (.ref (za z (1 + 27 * b + (13 + i))) :: rest))) : W p l e R s m args below meth c H locs cells slots Q (F0 m pc ls (.int x :: .ref (za z (1 + 27 * b + 2)) :: rest)) :=
  G_aald C0 hK h (by omega) (fun ct hA => (hA.2 b hb).2.2.1) hx hi (by omega) (if_pos hi) hdg kk
theorem X_gL (C0 : Cx p s m args meth c cc nL ret own ws) (hK : QK z s) (h : GW z (XAt z) 0 55 s.heap c0 σ H locs) {b : Nat} (hb : b < 2) (hin : ∀ w ∈ u_ws RX0 TX0 5, w ∈ ws) (j : Nat) (hj : j < 5) {index : Nat} (hlink : Cond.fieldLink own index (TX0 j).1 (TX0 j).2.1 (TX0 j).2.2.1 ∈ ws) {v : Value} (hv : [Value.ref (za z (1 + 27 * b + 1)), .ref (za z (1 + 27 * b + 2)), .int (nI (qt (σ b))), .int (nI (qp (σ b))), .int (qD (σ b))][j]? = some v) (hdg : decode cc pc = .ok (.getfield index, 3)) (kk : W p l e R s m args below meth c H locs cells slots Q (F0 m (pc + 3) ls (v :: rest))) : W p l e R s m args below meth c H locs cells slots Q (F0 m pc ls (.ref (za z (1 + 27 * b)) :: rest)) :=
  G_get C0 hK h hin 0 rfl (by omega) (fun ct hA => (hA.2 b hb).1) j hj hlink hv hdg kk
theorem X_gO (C0 : Cx p s m args meth c cc nL ret own ws) (hK : QK z s) (h : GW z (XAt z) 0 55 s.heap c0 σ H locs) (hin : ∀ w ∈ u_ws RX1 TX1 2, w ∈ ws) (j : Nat) (hj : j < 2) {index : Nat} (hlink : Cond.fieldLink own index (TX1 j).1 (TX1 j).2.1 (TX1 j).2.2.1 ∈ ws) (hdg : decode cc pc = .ok (.getfield index, 3)) (kk : W p l e R s m args below meth c H locs cells slots Q (F0 m (pc + 3) ls (.ref (za z (1 + 27 * j)) :: rest))) : W p l e R s m args below meth c H locs cells slots Q (F0 m pc ls (.ref (za z 0) :: rest)) :=
  G_get C0 hK h hin 1 rfl (by omega) (fun ct hA => hA.1) j hj hlink (by rcases (show j = 0 ∨ j = 1 by omega) with rfl | rfl <;> rfl) hdg kk
theorem X_pt (C0 : Cx p s m args meth c cc nL ret own ws) (hK : QK z s) (h : GW z (XAt z) 0 55 s.heap c0 σ H locs) {b : Nat} (hb : b < 2) (hin : ∀ w ∈ u_ws RX0 TX0 5, w ∈ ws) {index : Nat} (hlink : Cond.fieldLink own index (TX0 2).1 (TX0 2).2.1 (TX0 2).2.2.1 ∈ ws) {x : Int32} {n : Nat} (hx : x = nI n) (hdg : decode cc pc = .ok (.putfield index, 3)) (kk : ∀ (H1 : Heap) (locs1 : List Loc), GW z (XAt z) 0 55 s.heap c0 (va_up σ b (st_ (σ b) n)) H1 locs1 → W p l e R s m args below meth c H1 locs1 cells slots Q (F0 m (pc + 3) ls rest)) : W p l e R s m args below meth c H locs cells slots Q (F0 m pc ls (.int x :: .ref (za z (1 + 27 * b)) :: rest)) := by
  subst hx
  exact G_put C0 hK h hin 0 rfl tyX0 tyX0_ok nmX0 (by omega) (fun ct hA => (hA.2 b hb).1) 2 (by omega) hlink rfl rfl (show 2 < 5 by omega) (fun ct hA => hA.O (S2 := st_ (σ b) n) hb rfl rfl) hdg kk
theorem X_pp (C0 : Cx p s m args meth c cc nL ret own ws) (hK : QK z s) (h : GW z (XAt z) 0 55 s.heap c0 σ H locs) {b : Nat} (hb : b < 2) (hin : ∀ w ∈ u_ws RX0 TX0 5, w ∈ ws) {index : Nat} (hlink : Cond.fieldLink own index (TX0 3).1 (TX0 3).2.1 (TX0 3).2.2.1 ∈ ws) {x : Int32} {n : Nat} (hx : x = nI n) (hdg : decode cc pc = .ok (.putfield index, 3)) (kk : ∀ (H1 : Heap) (locs1 : List Loc), GW z (XAt z) 0 55 s.heap c0 (va_up σ b (sp_ (σ b) n)) H1 locs1 → W p l e R s m args below meth c H1 locs1 cells slots Q (F0 m (pc + 3) ls rest)) : W p l e R s m args below meth c H locs cells slots Q (F0 m pc ls (.int x :: .ref (za z (1 + 27 * b)) :: rest)) := by
  subst hx
  exact G_put C0 hK h hin 0 rfl tyX0 tyX0_ok nmX0 (by omega) (fun ct hA => (hA.2 b hb).1) 3 (by omega) hlink rfl rfl (show 3 < 5 by omega) (fun ct hA => hA.O (S2 := sp_ (σ b) n) hb rfl rfl) hdg kk
theorem X_pd (C0 : Cx p s m args meth c cc nL ret own ws) (hK : QK z s) (h : GW z (XAt z) 0 55 s.heap c0 σ H locs) {b : Nat} (hb : b < 2) (hin : ∀ w ∈ u_ws RX0 TX0 5, w ∈ ws) {index : Nat} (hlink : Cond.fieldLink own index (TX0 4).1 (TX0 4).2.1 (TX0 4).2.2.1 ∈ ws) {x : Int32} (hdg : decode cc pc = .ok (.putfield index, 3)) (kk : ∀ (H1 : Heap) (locs1 : List Loc), GW z (XAt z) 0 55 s.heap c0 (va_up σ b (sD (σ b) x)) H1 locs1 → W p l e R s m args below meth c H1 locs1 cells slots Q (F0 m (pc + 3) ls rest)) : W p l e R s m args below meth c H locs cells slots Q (F0 m pc ls (.int x :: .ref (za z (1 + 27 * b)) :: rest)) := by
  exact G_put C0 hK h hin 0 rfl tyX0 tyX0_ok nmX0 (by omega) (fun ct hA => (hA.2 b hb).1) 4 (by omega) hlink rfl rfl (show 4 < 5 by omega) (fun ct hA => hA.O (S2 := sD (σ b) x) hb rfl rfl) hdg kk
end QX
