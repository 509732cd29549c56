/-! PART 71: below, cell -/
set_option maxHeartbeats 4000000 in
set_option maxRecDepth 100000 in
theorem c_L_below {l : Launch} {z : QZ} {ix : Nat → Nat} {t q b n : Nat} {X Y S : QLs} {f : Nat → Nat × (Nat → Int32)} (x : Int32) (k : Nat) (h0 : 0 < k) (h9 : k < 1000) : GI l yL_below wsL_below ({ frames := 0, cells := 0, slots := 0, locals := 0 } : Room) z [.int x, .int (nI k)] 0 0 (UAt z ix t q b n) 0 (b + n) (X, Y, S, f) (fun r u => r = nI (bl x k) ∧ u = (X, Y, S, f)) := by
  intro ct sz hn hq9 hat
  refine q_entry (lo := 0) (cc := cL_below) (maxL := 2) (ret := (some .int)) (by decide) rfl (Nat.le_of_ble_eq_true rfl) hn hq9 hat ?_
  intro p e s m below meth c ls C0 hK hsz h hl
  subst hsz
  obtain ⟨hx, hb, hr, hml, hown, hts, hlocks⟩ := id C0
  obtain ⟨hix, hqt, hqp, hbn⟩ := gw_ix h
  obtain ⟨⟨h10, h14, h56⟩, -⟩ := id hix
  have hl : lv_has ls 2 [(0, .int x), (1, .int (nI k))] := hl
  refine lv_iload_n hx hb dL_below_0 rfl (lv_at hl 0 rfl) ?_
  refine lv_ldc hx hb hown (hts (.constant RL 7 (2147483647)) (by decide +kernel)) dL_below_1 ?_
  refine lv_iand hx hb dL_below_3 ?_
  refine lv_iload_n hx hb dL_below_4 rfl (lv_at hl 1 rfl) ?_
  refine lv_irem hx hb dL_below_5 (nI_ne0 h0 (by omega)) ?_
  exact G_iret C0 hK h ⟨bl_eq h0 h9, rfl⟩ (Nat.le_of_ble_eq_true rfl) (Nat.le_of_ble_eq_true rfl) dL_below_6

set_option maxHeartbeats 4000000 in
theorem c_L_cell {l : Launch} {a0 L : Nat} {xs : Nat → Int32} (hL : L ≤ 260) (k : Nat) (hk : k < 1000) : Met l yL_cell wsL_cell ({ frames := 0, cells := 0, slots := 0, locals := 0 } : Room) (va_Pc [.ref a0, .int (nI k)] (fun U => va_X a0 L xs U U.heap)) (va_Qi (fun _ (_ : Unit) => True) (fun _ _ => True) (fun _ => False)) 0 0 (fun _ => False) := by
  refine Met.ofW (cc := cL_cell) (maxL := 2) (ret := (some .int)) (by decide) rfl ?_
  intro p e s m args below meth c s₁ B hml hv
  obtain ⟨rfl, hX⟩ := hv
  have C0 : Cx p s m (([.ref a0, .int (nI k)] : List Value).toArray) meth c cL_cell 2 (some .int) yL_cell.cls wsL_cell := ⟨B.exec, B.bytes, B.returns, hml, findClass_of_methodNamed B.named, atoms_spec (ws := wsL_cell) B.pre, B.notSynchronized⟩
  obtain ⟨hx, hb, hr, hml, hown, hts, hlocks⟩ := id C0
  have hbl : a0 < s.heap.size := by
    obtain ⟨scr, h1, -⟩ := hX
    exact (Array.getElem?_eq_some_iff.mp h1).1
  have hS : va_S (fun _ => False) s.heap s.heap [] := va_S.rf
  have hl := lv_entry ([.ref a0, .int (nI k)]) (n := 2) (Nat.le_of_ble_eq_true rfl)
  rw [lg_entry_eq]
  generalize (lg_sl ([.ref a0, .int (nI k)]) ++ List.replicate (2 - (lg_sl ([.ref a0, .int (nI k)])).length) Slot.unset).toArray = ls at hl ⊢
  have hl : lv_has ls 2 [(0, .ref a0), (1, .int (nI k))] := hl
  refine lv_iload_n hx hb dL_cell_0 rfl (lv_at hl 1 rfl) ?_
  refine lv_aload_n hx hb dL_cell_1 rfl (lv_at hl 0 rfl) ?_
  refine va_slen hx hb hX hbl (fun q => q) hS dL_cell_2 ?_
  refine lv_icmp_ge (tgt := 12) hx hb dL_cell_3 (by decide) (fun c_3 => ?_) (fun c_3 => ?_)
  · refine lv_ldc hx hb hown (hts (.constant RL 8 (790386105)) (by decide +kernel)) dL_cell_12 ?_
    refine lv_iload_n hx hb dL_cell_14 rfl (lv_at hl 1 rfl) ?_
    refine lv_iconst (v := 3) hx hb dL_cell_15 (by decide) ?_
    refine lv_iadd hx hb dL_cell_16 ?_
    refine lv_imul hx hb dL_cell_17 ?_
    exact W.iret hx hb hr (fun t ht hW => ⟨⟨_, (), rfl, trivial, trivial⟩, hS.F ht⟩) hS.2.2 dL_cell_18 hlocks
  · have hk2 : k < L := by
      have h1 : ¬ nI L ≤ nI k := c_3
      rcases Nat.lt_or_ge k L with h2 | h2
      · exact h2
      · exact absurd (nI_le h2 (by omega)) h1
    refine lv_aload_n hx hb dL_cell_6 rfl (lv_at hl 0 rfl) ?_
    refine lv_iload_n hx hb dL_cell_7 rfl (lv_at hl 1 rfl) ?_
    refine va_sld hx hb hX hbl (fun q => q) hS (vp_in_nI hk2 (by omega)) dL_cell_8 ?_
    refine lv_goto (tgt := 18) hx hb dL_cell_9 (by decide) ?_
    exact W.iret hx hb hr (fun t ht hW => ⟨⟨_, (), rfl, trivial, trivial⟩, hS.F ht⟩) hS.2.2 dL_cell_18 hlocks
