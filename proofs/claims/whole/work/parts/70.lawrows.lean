/-! PART 70: rows of the law's walk -/
section QLA
variable {p : Program} {l : Launch} {e : Env} {R : Room} {s : State} {m : MethodId} {args : Array Value} {below : List Frame} {meth : Method} {c : Code} {H : Heap} {locs : List Loc} {cells slots : Nat} {Q : State → Prop}
variable {cc : ByteArray} {nL : Nat} {ret : Option FieldType} {own : String} {ws : List Cond} {pc : Nat} {ls : Array Slot} {st0 rest : List Value} {z : QZ} {c0 : Nat → va_E} {a : QWs} {α : Type} {At : α → (Nat → va_E) → Prop} {a1 : α} {lo hi : Nat}
variable {y : MethodName} {bytes : ByteArray} {maxL mc ms n index : Nat} {ret2 : Option FieldType} {ws2 : List Cond} {rm : Room} {As : List Value} {hh : List (Nat × Nat × Nat × Nat)} {b L : Nat} {xs : Nat → Int32}
theorem L_nb (hbl : b < s.heap.size) (hge : ∀ k, k < zn z → s.heap.size ≤ za z k) : ¬ qA (zn z) (za z) s.heap.size b := by
  rintro (⟨k, hk, e⟩ | h)
  · have := hge k hk; omega
  · omega
theorem L_sld (C0 : Cx p s m args meth c cc nL ret own ws) (hX : va_X b L xs s s.heap) (hbl : b < s.heap.size) (hge : ∀ k, k < zn z → s.heap.size ≤ za z k) (h : GW z At lo hi s.heap c0 a1 H locs) {x : Int32} {j : Nat} (hx : x = nI j) (hj : j < L) (hL : L ≤ 2560) (hdg : decode cc pc = .ok (.iaload, 1))
    (kk : W p l e R s m args below meth c H locs cells slots Q (F0 m (pc + 1) ls (.int (xs j) :: rest))) : W p l e R s m args below meth c H locs cells slots Q (F0 m pc ls (.int x :: .ref b :: rest)) := by
  obtain ⟨ct, hP, hS, -⟩ := h
  subst hx
  refine va_sld C0.1 C0.2.1 hX hbl (L_nb hbl hge) hS (vp_in_nI hj (by omega)) hdg ?_
  rw [nI_clamp (by omega)]; exact kk
theorem L_slen (C0 : Cx p s m args meth c cc nL ret own ws) (hX : va_X b L xs s s.heap) (hbl : b < s.heap.size) (hge : ∀ k, k < zn z → s.heap.size ≤ za z k) (h : GW z At lo hi s.heap c0 a1 H locs) (hdg : decode cc pc = .ok (.arraylength, 1))
    (kk : W p l e R s m args below meth c H locs cells slots Q (F0 m (pc + 1) ls (.int (nI L) :: rest))) : W p l e R s m args below meth c H locs cells slots Q (F0 m pc ls (.ref b :: rest)) := by
  obtain ⟨ct, hP, hS, -⟩ := h
  exact va_slen C0.1 C0.2.1 hX hbl (L_nb hbl hge) hS hdg kk
theorem L_help (C0 : Cx p s m args meth c cc nL ret own ws) (hK : QK z s) (hT : TZ z s) (h : GW z (WAt z) 0 60 s.heap c0 a H locs) {post : Int32 → QWs → Prop} (hM : HC l y ws2 RH9 z As 1 6 a post)
    (cw : vx_CSW R s args own index y bytes maxL ret2 hh ws2 RH9 1 6 n) (hlen : As.length = n) (hsz : ls.size = nL) (hst : st0 = As.reverse ++ rest) (hroom : (rest.map fun v => v.category).sum ≤ 8) (hf : cells + 1 ≤ R.cells ∧ slots + 6 ≤ R.slots) (hdg : decode cc pc = .ok (.invokestatic index, 3))
    (kk : ∀ (r : Int32) (u : QWs) (H1 : Heap) (locs1 : List Loc), post r u → GW z (WAt z) 0 60 s.heap c0 u H1 locs1 → W p l e R s m args below meth c H1 locs1 (cells + 1) (slots + 6) Q (F0 m (pc + 3) ls (.int r :: rest))) : W p l e R s m args below meth c H locs cells slots Q (F0 m pc ls st0) := by
  obtain ⟨ct, hP, hS, hA, hF, hn, hq⟩ := h
  refine vx_calli (vx_runSX (As := As) (rest := rest) ⟨C0.1, C0.2.1, C0.2.2.2.1, C0.2.2.2.2.1, C0.2.2.2.2.2.1⟩ (hM ct H.size hn hq hA) cw ⟨qx_blind, qx_given hK hT hS hP⟩ rfl hlen hsz hst (lv_room hroom) hdg hf) hS (fun q _ h => qA_sub hS.1 h) (fun q h => qA_sub hS.1 h) (fun q _ h => qA_sub hS.1 h) (fun E2 ce q9 u t H1 locs1 ht hvm hp hB hz1 hk1 hS1 hce hcv hcl9 => hp.elim) (fun r u t H1 locs1 ht hvm hp hB hz1 hk1 hS1 => ?_)
  obtain ⟨ct2, hP1, hK1, hA1, hF1⟩ := hB
  rw [ht] at hP1
  exact kk r u H1 locs1 hp ⟨ct2, hP1, hS1, hA1, hF.trans hF1, hn, hq⟩
end QLA
theorem q_lcmp {x y : Int64} (h : x = y) : lg_cmp x y = 0 := by
  subst h
  unfold lg_cmp
  simp [Int64.lt_irrefl]
theorem q_len {L i : Nat} (hL : L ≤ 2560) (hi : i ≤ 2565) (h : ¬ nI L - 5 < nI i) : i + 5 ≤ L := by
  have h5 : (nI L - 5).toInt = (L : Int) - 5 := by
    have e5 : (5 : Int32).toInt = 5 := by decide
    rw [i_sub, nI_toInt (by omega), e5] <;> rw [nI_toInt (by omega), e5] <;> omega
  have h1 : ¬ (nI L - 5).toInt < (nI i).toInt := fun q => h (Int32.lt_iff_toInt_lt.mpr q)
  rw [h5, nI_toInt (by omega)] at h1
  omega
