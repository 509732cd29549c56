/-! PART 72: act, case by case -/
abbrev RMact : Room := { frames := 3, cells := 2, slots := 24, locals := 88 }
set_option maxHeartbeats 4000000 in
set_option maxRecDepth 100000 in
theorem act_build {p : Program} {l : Launch} {e : Env} {s : State} {m : MethodId} {below : List Frame} {meth : Method} {c : Code} {H : Heap} {locs : List Loc} {ls : Array Slot} {z : QZ} {ix : Nat → Nat} {X Y : QLs} {f : Nat → Nat × (Nat → Int32)} {D : Nat} {c0 : Nat → va_E} {x w : Int32} (C0 : Cx p s m [Value.ref (za z 0), .ref (za z 55), .int x].toArray meth c cL_act 21 (some .boolean) RL wsL_act) (hK : QK z s) (hI : Inv D X) (hq : qI (zn z) (za z)) (h : GN z ix s.heap c0 (X, Y, X, f) H locs) (hl : lv_has ls 21 [(5, .int w), (4, .int (nI (qp X))), (3, .int (nI (qt X))), (2, .int x), (1, .ref (za z 55)), (0, .ref (za z 0))])  : W p l e RMact s m [Value.ref (za z 0), .ref (za z 55), .int x].toArray below meth c H locs 0 0 (MQ below (va_Qi (fun (r : Int32) (v8 : QZ × (Nat → Nat) × US) => XZ s.heap.size z v8.1 ∧ (fun r v9 => r = 1 ∧ ∃ X2 Y2, v9.2.2 = ((X2, Y2, X2, f) : US) ∧ Inv D X2) r v8) UEnd (qA (zn z) (za z) s.heap.size)) [Value.ref (za z 0), .ref (za z 55), .int x].toArray s 2 24 (qA (zn z) (za z) s.heap.size)) (F0 m 80 ls []) := by
  obtain ⟨hx, hb, hr, hml, hown, hts, hlocks⟩ := id C0
  have hk := hI.ok
  have hk1 := hk.1
  have hk2 := hk.2.1
  obtain ⟨⟨⟨h10, h14, h56⟩, -⟩, -⟩ := gw_ix h
  have hX := XZ.rf (sz := s.heap.size) hq
  refine lv_iload_n hx hb dL_act_80 rfl (lv_at hl 2 rfl) ?_
  refine lv_bipush (v := 10) hx hb dL_act_81 (by decide) ?_
  refine lv_icmp_ne (tgt := 88) hx hb dL_act_83 (by decide) (fun c_83 => ?_) (fun c_83 => ?_)
  · have ht9 : ¬ qt X = 10 := fun q9 => c_83 (by rw [q9]; rfl)
    refine lv_iload_n hx hb dL_act_88 rfl (lv_at hl 3 rfl) ?_
    refine lv_iconst (v := 2) hx hb dL_act_89 (by decide) ?_
    refine lv_ishr hx hb dL_act_90 ?_
    refine lv_iload_n hx hb dL_act_91 rfl (lv_at hl 3 rfl) ?_
    refine lv_iconst (v := 5) hx hb dL_act_92 (by decide) ?_
    refine lv_ishr hx hb dL_act_93 ?_
    refine lv_iconst (v := 2) hx hb dL_act_94 (by decide) ?_
    refine S_callSi C0 hK h (c_L_below (x >>> (5 &&& 31)) 2 (by omega) (by omega)) (va_cwS 2 hts gL_act_L_below rfl rfl rfl (by decide +kernel) ⟨Nat.le_of_ble_eq_true rfl, Nat.le_of_ble_eq_true rfl⟩) rfl hl.1 (rest := [.int (x >>> (2 &&& 31))]) rfl (Nat.le_of_ble_eq_true rfl) ⟨Nat.le_of_ble_eq_true rfl, Nat.le_of_ble_eq_true rfl⟩ dL_act_95 (fun r u H locs hp h => ?_)
    obtain ⟨rfl, hu9⟩ := hp
    rw [hu9] at h
    have hb98 : bl (x >>> (5 &&& 31)) 2 < 2 := bl_lt (by omega)
    refine lv_if_ne (tgt := 106) hx hb dL_act_98 (by decide) (fun c_98 => ?_) (fun c_98 => ?_)
    · refine lv_bipush (v := 20) hx hb dL_act_106 (by decide) ?_
      refine S_callSi C0 hK h (c_L_below (x >>> (2 &&& 31)) 20 (by omega) (by omega)) (va_cwS 2 hts gL_act_L_below rfl rfl rfl (by decide +kernel) ⟨Nat.le_of_ble_eq_true rfl, Nat.le_of_ble_eq_true rfl⟩) rfl hl.1 (rest := []) rfl (Nat.le_of_ble_eq_true rfl) ⟨Nat.le_of_ble_eq_true rfl, Nat.le_of_ble_eq_true rfl⟩ dL_act_108 (fun r u H locs hp h => ?_)
      obtain ⟨rfl, hu9⟩ := hp
      rw [hu9] at h
      have hb111 : bl (x >>> (2 &&& 31)) 20 < 20 := bl_lt (by omega)
      refine lv_istore (lv' := [(6, .int (nI (bl (x >>> (2 &&& 31)) 20))), (5, .int w), (4, .int (nI (qp X))), (3, .int (nI (qt X))), (2, .int x), (1, .ref (za z 55)), (0, .ref (za z 0))]) hx hb dL_act_111 hl (by decide) rfl (fun ls hl => ?_)
      refine lv_iload_n hx hb dL_act_113 rfl (lv_at hl 4 rfl) ?_
      refine lv_iconst (v := 3) hx hb dL_act_114 (by decide) ?_
      refine lv_ishr hx hb dL_act_115 ?_
      refine lv_iconst (v := 3) hx hb dL_act_116 (by decide) ?_
      refine S_callSi C0 hK h (c_L_below (x >>> (3 &&& 31)) 3 (by omega) (by omega)) (va_cwS 2 hts gL_act_L_below rfl rfl rfl (by decide +kernel) ⟨Nat.le_of_ble_eq_true rfl, Nat.le_of_ble_eq_true rfl⟩) rfl hl.1 (rest := []) rfl (Nat.le_of_ble_eq_true rfl) ⟨Nat.le_of_ble_eq_true rfl, Nat.le_of_ble_eq_true rfl⟩ dL_act_117 (fun r u H locs hp h => ?_)
      obtain ⟨rfl, hu9⟩ := hp
      rw [hu9] at h
      have hb120 : bl (x >>> (3 &&& 31)) 3 < 3 := bl_lt (by omega)
      refine lv_if_ne (tgt := 127) hx hb dL_act_120 (by decide) (fun c_120 => ?_) (fun c_120 => ?_)
      · refine lv_iload_n hx hb dL_act_127 rfl (lv_at hl 4 rfl) ?_
        refine lv_iconst (v := 4) hx hb dL_act_128 (by decide) ?_
        refine lv_ishr hx hb dL_act_129 ?_
        refine lv_bipush (v := 21) hx hb dL_act_130 (by decide) ?_
        refine S_callSi C0 hK h (c_L_below (x >>> (4 &&& 31)) 21 (by omega) (by omega)) (va_cwS 2 hts gL_act_L_below rfl rfl rfl (by decide +kernel) ⟨Nat.le_of_ble_eq_true rfl, Nat.le_of_ble_eq_true rfl⟩) rfl hl.1 (rest := []) rfl (Nat.le_of_ble_eq_true rfl) ⟨Nat.le_of_ble_eq_true rfl, Nat.le_of_ble_eq_true rfl⟩ dL_act_132 (fun r u H locs hp h => ?_)
        obtain ⟨rfl, hu9⟩ := hp
        rw [hu9] at h
        have hb135 : bl (x >>> (4 &&& 31)) 21 < 21 := bl_lt (by omega)
        refine lv_istore (lv' := [(7, .int (nI (bl (x >>> (4 &&& 31)) 21))), (6, .int (nI (bl (x >>> (2 &&& 31)) 20))), (5, .int w), (4, .int (nI (qp X))), (3, .int (nI (qt X))), (2, .int x), (1, .ref (za z 55)), (0, .ref (za z 0))]) hx hb dL_act_135 hl (by decide) rfl (fun ls hl => ?_)
        refine lv_iload_n hx hb dL_act_137 rfl (lv_at hl 5 rfl) ?_
        refine lv_bipush (v := 6) hx hb dL_act_138 (by decide) ?_
        refine lv_ishr hx hb dL_act_140 ?_
        refine lv_iconst (v := 3) hx hb dL_act_141 (by decide) ?_
        refine S_callSi C0 hK h (c_L_below (x >>> (6 &&& 31)) 3 (by omega) (by omega)) (va_cwS 2 hts gL_act_L_below rfl rfl rfl (by decide +kernel) ⟨Nat.le_of_ble_eq_true rfl, Nat.le_of_ble_eq_true rfl⟩) rfl hl.1 (rest := []) rfl (Nat.le_of_ble_eq_true rfl) ⟨Nat.le_of_ble_eq_true rfl, Nat.le_of_ble_eq_true rfl⟩ dL_act_142 (fun r u H locs hp h => ?_)
        obtain ⟨rfl, hu9⟩ := hp
        rw [hu9] at h
        have hb145 : bl (x >>> (6 &&& 31)) 3 < 3 := bl_lt (by omega)
        refine lv_if_ne (tgt := 152) hx hb dL_act_145 (by decide) (fun c_145 => ?_) (fun c_145 => ?_)
        · refine lv_iload_n hx hb dL_act_152 rfl (lv_at hl 5 rfl) ?_
          refine lv_bipush (v := 21) hx hb dL_act_153 (by decide) ?_
          refine S_callSi C0 hK h (c_L_below x 21 (by omega) (by omega)) (va_cwS 2 hts gL_act_L_below rfl rfl rfl (by decide +kernel) ⟨Nat.le_of_ble_eq_true rfl, Nat.le_of_ble_eq_true rfl⟩) rfl hl.1 (rest := []) rfl (Nat.le_of_ble_eq_true rfl) ⟨Nat.le_of_ble_eq_true rfl, Nat.le_of_ble_eq_true rfl⟩ dL_act_155 (fun r u H locs hp h => ?_)
          obtain ⟨rfl, hu9⟩ := hp
          rw [hu9] at h
          have hb158 : bl x 21 < 21 := bl_lt (by omega)
          refine lv_istore (lv' := [(8, .int (nI (bl x 21))), (7, .int (nI (bl (x >>> (4 &&& 31)) 21))), (6, .int (nI (bl (x >>> (2 &&& 31)) 20))), (5, .int w), (4, .int (nI (qp X))), (3, .int (nI (qt X))), (2, .int x), (1, .ref (za z 55)), (0, .ref (za z 0))]) hx hb dL_act_158 hl (by decide) rfl (fun ls hl => ?_)
          refine lv_aload_n hx hb dL_act_160 rfl (lv_at hl 7 rfl) ?_
          refine lv_iload hx hb dL_act_161 (lv_at hl 2 rfl) ?_
          refine lv_iload hx hb dL_act_163 (lv_at hl 1 rfl) ?_
          refine lv_iload hx hb dL_act_165 (lv_at hl 0 rfl) ?_
          refine N_callVv C0 hK h (c_X3_build (by omega) (nI (bl (x >>> (2 &&& 31)) 20)) (nI (bl (x >>> (4 &&& 31)) 21)) (nI (bl x 21))) (cwV 3 hts gL_act_X3_build rfl rfl rfl (by decide +kernel) ⟨Nat.le_of_ble_eq_true rfl, Nat.le_of_ble_eq_true rfl⟩) rfl hl.1 (rest := []) rfl (Nat.le_of_ble_eq_true rfl) ⟨Nat.le_of_ble_eq_true rfl, Nat.le_of_ble_eq_true rfl⟩ dL_act_167 (fun z2 ix2 u2 c2 H locs hp hX hK h => ?_)
          have hp : u2 = (X, Y, addT X (nI (bl (x >>> (2 &&& 31)) 20)) (nI (bl (x >>> (4 &&& 31)) 21)) (nI (bl x 21)), f) := by rw [← sBuild_eq hI.2.1]; exact hp
          subst hp
          have e0 := hX.2.2.1 0 (by omega)
          have e55 := hX.2.2.1 55 (by omega)
          rw [← e0, ← e55] at hl
          have h56 : 56 ≤ zn z2 := by have := hX.2.1; omega
          refine lv_aload_n hx hb dL_act_170 rfl (lv_at hl 8 rfl) ?_
          refine lv_iload hx hb dL_act_171 (lv_at hl 2 rfl) ?_
          refine lv_iload hx hb dL_act_173 (lv_at hl 1 rfl) ?_
          refine lv_iload hx hb dL_act_175 (lv_at hl 0 rfl) ?_
          refine S_callVi C0 hK h (k_build hk (by omega) (nI (bl (x >>> (2 &&& 31)) 20)) (nI (bl (x >>> (4 &&& 31)) 21)) (nI (bl x 21)) ⟨(nI_rng (a := 0) (b := 99) (by omega) (by omega) (by decide)), (nI_rng (a := 0) (b := 20) (by omega) (by omega) (by decide)), (nI_rng (a := 0) (b := 20) (by omega) (by omega) (by decide))⟩) (cwV 3 hts gL_act_X1_build rfl rfl rfl (by decide +kernel) ⟨Nat.le_of_ble_eq_true rfl, Nat.le_of_ble_eq_true rfl⟩) (k := 0) (ci := 1) (by omega) (fun ct hA => hA.1.1) rfl rfl rfl hl.1 (rest := []) rfl (Nat.le_of_ble_eq_true rfl) ⟨Nat.le_of_ble_eq_true rfl, Nat.le_of_ble_eq_true rfl⟩ dL_act_177 (fun r u H locs hp h => ?_)
          obtain ⟨rfl, hu9⟩ := hp
          rw [hu9] at h
          refine lv_iload_n hx hb dL_act_180 rfl (lv_at hl 5 rfl) ?_
          refine lv_icmp_ne (tgt := 188) hx hb dL_act_181 (by decide) (fun q9 => absurd rfl q9) (fun _ => ?_)
          refine lv_iconst (v := 1) hx hb dL_act_184 (by decide) ?_
          refine lv_goto (tgt := 189) hx hb dL_act_185 (by decide) ?_
          exact N_zret C0 hK hX h ⟨rfl, _, _, rfl, hI.build (by omega) ⟨(nI_rng (a := 0) (b := 99) (by omega) (by omega) (by decide)), (nI_rng (a := 0) (b := 20) (by omega) (by omega) (by decide)), (nI_rng (a := 0) (b := 20) (by omega) (by omega) (by decide))⟩⟩ (Or.inr rfl) (Nat.le_of_ble_eq_true rfl) (Nat.le_of_ble_eq_true rfl) dL_act_189
        · refine lv_iconst (v := 0) hx hb dL_act_148 (by decide) ?_
          refine lv_goto (tgt := 158) hx hb dL_act_149 (by decide) ?_
          refine lv_istore (lv' := [(8, .int 0), (7, .int (nI (bl (x >>> (4 &&& 31)) 21))), (6, .int (nI (bl (x >>> (2 &&& 31)) 20))), (5, .int w), (4, .int (nI (qp X))), (3, .int (nI (qt X))), (2, .int x), (1, .ref (za z 55)), (0, .ref (za z 0))]) hx hb dL_act_158 hl (by decide) rfl (fun ls hl => ?_)
          refine lv_aload_n hx hb dL_act_160 rfl (lv_at hl 7 rfl) ?_
          refine lv_iload hx hb dL_act_161 (lv_at hl 2 rfl) ?_
          refine lv_iload hx hb dL_act_163 (lv_at hl 1 rfl) ?_
          refine lv_iload hx hb dL_act_165 (lv_at hl 0 rfl) ?_
          refine N_callVv C0 hK h (c_X3_build (by omega) (nI (bl (x >>> (2 &&& 31)) 20)) (nI (bl (x >>> (4 &&& 31)) 21)) 0) (cwV 3 hts gL_act_X3_build rfl rfl rfl (by decide +kernel) ⟨Nat.le_of_ble_eq_true rfl, Nat.le_of_ble_eq_true rfl⟩) rfl hl.1 (rest := []) rfl (Nat.le_of_ble_eq_true rfl) ⟨Nat.le_of_ble_eq_true rfl, Nat.le_of_ble_eq_true rfl⟩ dL_act_167 (fun z2 ix2 u2 c2 H locs hp hX hK h => ?_)
          have hp : u2 = (X, Y, addT X (nI (bl (x >>> (2 &&& 31)) 20)) (nI (bl (x >>> (4 &&& 31)) 21)) 0, f) := by rw [← sBuild_eq hI.2.1]; exact hp
          subst hp
          have e0 := hX.2.2.1 0 (by omega)
          have e55 := hX.2.2.1 55 (by omega)
          rw [← e0, ← e55] at hl
          have h56 : 56 ≤ zn z2 := by have := hX.2.1; omega
          refine lv_aload_n hx hb dL_act_170 rfl (lv_at hl 8 rfl) ?_
          refine lv_iload hx hb dL_act_171 (lv_at hl 2 rfl) ?_
          refine lv_iload hx hb dL_act_173 (lv_at hl 1 rfl) ?_
          refine lv_iload hx hb dL_act_175 (lv_at hl 0 rfl) ?_
          refine S_callVi C0 hK h (k_build hk (by omega) (nI (bl (x >>> (2 &&& 31)) 20)) (nI (bl (x >>> (4 &&& 31)) 21)) 0 ⟨(nI_rng (a := 0) (b := 99) (by omega) (by omega) (by decide)), (nI_rng (a := 0) (b := 20) (by omega) (by omega) (by decide)), ⟨by decide, by decide⟩⟩) (cwV 3 hts gL_act_X1_build rfl rfl rfl (by decide +kernel) ⟨Nat.le_of_ble_eq_true rfl, Nat.le_of_ble_eq_true rfl⟩) (k := 0) (ci := 1) (by omega) (fun ct hA => hA.1.1) rfl rfl rfl hl.1 (rest := []) rfl (Nat.le_of_ble_eq_true rfl) ⟨Nat.le_of_ble_eq_true rfl, Nat.le_of_ble_eq_true rfl⟩ dL_act_177 (fun r u H locs hp h => ?_)
          obtain ⟨rfl, hu9⟩ := hp
          rw [hu9] at h
          refine lv_iload_n hx hb dL_act_180 rfl (lv_at hl 5 rfl) ?_
          refine lv_icmp_ne (tgt := 188) hx hb dL_act_181 (by decide) (fun q9 => absurd rfl q9) (fun _ => ?_)
          refine lv_iconst (v := 1) hx hb dL_act_184 (by decide) ?_
          refine lv_goto (tgt := 189) hx hb dL_act_185 (by decide) ?_
          exact N_zret C0 hK hX h ⟨rfl, _, _, rfl, hI.build (by omega) ⟨(nI_rng (a := 0) (b := 99) (by omega) (by omega) (by decide)), (nI_rng (a := 0) (b := 20) (by omega) (by omega) (by decide)), ⟨by decide, by decide⟩⟩⟩ (Or.inr rfl) (Nat.le_of_ble_eq_true rfl) (Nat.le_of_ble_eq_true rfl) dL_act_189
      · refine lv_iconst (v := 0) hx hb dL_act_123 (by decide) ?_
        refine lv_goto (tgt := 135) hx hb dL_act_124 (by decide) ?_
        refine lv_istore (lv' := [(7, .int 0), (6, .int (nI (bl (x >>> (2 &&& 31)) 20))), (5, .int w), (4, .int (nI (qp X))), (3, .int (nI (qt X))), (2, .int x), (1, .ref (za z 55)), (0, .ref (za z 0))]) hx hb dL_act_135 hl (by decide) rfl (fun ls hl => ?_)
        refine lv_iload_n hx hb dL_act_137 rfl (lv_at hl 5 rfl) ?_
        refine lv_bipush (v := 6) hx hb dL_act_138 (by decide) ?_
        refine lv_ishr hx hb dL_act_140 ?_
        refine lv_iconst (v := 3) hx hb dL_act_141 (by decide) ?_
        refine S_callSi C0 hK h (c_L_below (x >>> (6 &&& 31)) 3 (by omega) (by omega)) (va_cwS 2 hts gL_act_L_below rfl rfl rfl (by decide +kernel) ⟨Nat.le_of_ble_eq_true rfl, Nat.le_of_ble_eq_true rfl⟩) rfl hl.1 (rest := []) rfl (Nat.le_of_ble_eq_true rfl) ⟨Nat.le_of_ble_eq_true rfl, Nat.le_of_ble_eq_true rfl⟩ dL_act_142 (fun r u H locs hp h => ?_)
        obtain ⟨rfl, hu9⟩ := hp
        rw [hu9] at h
        have hb145 : bl (x >>> (6 &&& 31)) 3 < 3 := bl_lt (by omega)
        refine lv_if_ne (tgt := 152) hx hb dL_act_145 (by decide) (fun c_145 => ?_) (fun c_145 => ?_)
        · refine lv_iload_n hx hb dL_act_152 rfl (lv_at hl 5 rfl) ?_
          refine lv_bipush (v := 21) hx hb dL_act_153 (by decide) ?_
          refine S_callSi C0 hK h (c_L_below x 21 (by omega) (by omega)) (va_cwS 2 hts gL_act_L_below rfl rfl rfl (by decide +kernel) ⟨Nat.le_of_ble_eq_true rfl, Nat.le_of_ble_eq_true rfl⟩) rfl hl.1 (rest := []) rfl (Nat.le_of_ble_eq_true rfl) ⟨Nat.le_of_ble_eq_true rfl, Nat.le_of_ble_eq_true rfl⟩ dL_act_155 (fun r u H locs hp h => ?_)
          obtain ⟨rfl, hu9⟩ := hp
          rw [hu9] at h
          have hb158 : bl x 21 < 21 := bl_lt (by omega)
          refine lv_istore (lv' := [(8, .int (nI (bl x 21))), (7, .int 0), (6, .int (nI (bl (x >>> (2 &&& 31)) 20))), (5, .int w), (4, .int (nI (qp X))), (3, .int (nI (qt X))), (2, .int x), (1, .ref (za z 55)), (0, .ref (za z 0))]) hx hb dL_act_158 hl (by decide) rfl (fun ls hl => ?_)
          refine lv_aload_n hx hb dL_act_160 rfl (lv_at hl 7 rfl) ?_
          refine lv_iload hx hb dL_act_161 (lv_at hl 2 rfl) ?_
          refine lv_iload hx hb dL_act_163 (lv_at hl 1 rfl) ?_
          refine lv_iload hx hb dL_act_165 (lv_at hl 0 rfl) ?_
          refine N_callVv C0 hK h (c_X3_build (by omega) (nI (bl (x >>> (2 &&& 31)) 20)) 0 (nI (bl x 21))) (cwV 3 hts gL_act_X3_build rfl rfl rfl (by decide +kernel) ⟨Nat.le_of_ble_eq_true rfl, Nat.le_of_ble_eq_true rfl⟩) rfl hl.1 (rest := []) rfl (Nat.le_of_ble_eq_true rfl) ⟨Nat.le_of_ble_eq_true rfl, Nat.le_of_ble_eq_true rfl⟩ dL_act_167 (fun z2 ix2 u2 c2 H locs hp hX hK h => ?_)
          have hp : u2 = (X, Y, addT X (nI (bl (x >>> (2 &&& 31)) 20)) 0 (nI (bl x 21)), f) := by rw [← sBuild_eq hI.2.1]; exact hp
          subst hp
          have e0 := hX.2.2.1 0 (by omega)
          have e55 := hX.2.2.1 55 (by omega)
          rw [← e0, ← e55] at hl
          have h56 : 56 ≤ zn z2 := by have := hX.2.1; omega
          refine lv_aload_n hx hb dL_act_170 rfl (lv_at hl 8 rfl) ?_
          refine lv_iload hx hb dL_act_171 (lv_at hl 2 rfl) ?_
          refine lv_iload hx hb dL_act_173 (lv_at hl 1 rfl) ?_
          refine lv_iload hx hb dL_act_175 (lv_at hl 0 rfl) ?_
          refine S_callVi C0 hK h (k_build hk (by omega) (nI (bl (x >>> (2 &&& 31)) 20)) 0 (nI (bl x 21)) ⟨(nI_rng (a := 0) (b := 99) (by omega) (by omega) (by decide)), ⟨by decide, by decide⟩, (nI_rng (a := 0) (b := 20) (by omega) (by omega) (by decide))⟩) (cwV 3 hts gL_act_X1_build rfl rfl rfl (by decide +kernel) ⟨Nat.le_of_ble_eq_true rfl, Nat.le_of_ble_eq_true rfl⟩) (k := 0) (ci := 1) (by omega) (fun ct hA => hA.1.1) rfl rfl rfl hl.1 (rest := []) rfl (Nat.le_of_ble_eq_true rfl) ⟨Nat.le_of_ble_eq_true rfl, Nat.le_of_ble_eq_true rfl⟩ dL_act_177 (fun r u H locs hp h => ?_)
          obtain ⟨rfl, hu9⟩ := hp
          rw [hu9] at h
          refine lv_iload_n hx hb dL_act_180 rfl (lv_at hl 5 rfl) ?_
          refine lv_icmp_ne (tgt := 188) hx hb dL_act_181 (by decide) (fun q9 => absurd rfl q9) (fun _ => ?_)
          refine lv_iconst (v := 1) hx hb dL_act_184 (by decide) ?_
          refine lv_goto (tgt := 189) hx hb dL_act_185 (by decide) ?_
          exact N_zret C0 hK hX h ⟨rfl, _, _, rfl, hI.build (by omega) ⟨(nI_rng (a := 0) (b := 99) (by omega) (by omega) (by decide)), ⟨by decide, by decide⟩, (nI_rng (a := 0) (b := 20) (by omega) (by omega) (by decide))⟩⟩ (Or.inr rfl) (Nat.le_of_ble_eq_true rfl) (Nat.le_of_ble_eq_true rfl) dL_act_189
        · refine lv_iconst (v := 0) hx hb dL_act_148 (by decide) ?_
          refine lv_goto (tgt := 158) hx hb dL_act_149 (by decide) ?_
          refine lv_istore (lv' := [(8, .int 0), (7, .int 0), (6, .int (nI (bl (x >>> (2 &&& 31)) 20))), (5, .int w), (4, .int (nI (qp X))), (3, .int (nI (qt X))), (2, .int x), (1, .ref (za z 55)), (0, .ref (za z 0))]) hx hb dL_act_158 hl (by decide) rfl (fun ls hl => ?_)
          refine lv_aload_n hx hb dL_act_160 rfl (lv_at hl 7 rfl) ?_
          refine lv_iload hx hb dL_act_161 (lv_at hl 2 rfl) ?_
          refine lv_iload hx hb dL_act_163 (lv_at hl 1 rfl) ?_
          refine lv_iload hx hb dL_act_165 (lv_at hl 0 rfl) ?_
          refine N_callVv C0 hK h (c_X3_build (by omega) (nI (bl (x >>> (2 &&& 31)) 20)) 0 0) (cwV 3 hts gL_act_X3_build rfl rfl rfl (by decide +kernel) ⟨Nat.le_of_ble_eq_true rfl, Nat.le_of_ble_eq_true rfl⟩) rfl hl.1 (rest := []) rfl (Nat.le_of_ble_eq_true rfl) ⟨Nat.le_of_ble_eq_true rfl, Nat.le_of_ble_eq_true rfl⟩ dL_act_167 (fun z2 ix2 u2 c2 H locs hp hX hK h => ?_)
          have hp : u2 = (X, Y, addT X (nI (bl (x >>> (2 &&& 31)) 20)) 0 0, f) := by rw [← sBuild_eq hI.2.1]; exact hp
          subst hp
          have e0 := hX.2.2.1 0 (by omega)
          have e55 := hX.2.2.1 55 (by omega)
          rw [← e0, ← e55] at hl
          have h56 : 56 ≤ zn z2 := by have := hX.2.1; omega
          refine lv_aload_n hx hb dL_act_170 rfl (lv_at hl 8 rfl) ?_
          refine lv_iload hx hb dL_act_171 (lv_at hl 2 rfl) ?_
          refine lv_iload hx hb dL_act_173 (lv_at hl 1 rfl) ?_
          refine lv_iload hx hb dL_act_175 (lv_at hl 0 rfl) ?_
          refine S_callVi C0 hK h (k_build hk (by omega) (nI (bl (x >>> (2 &&& 31)) 20)) 0 0 ⟨(nI_rng (a := 0) (b := 99) (by omega) (by omega) (by decide)), ⟨by decide, by decide⟩, ⟨by decide, by decide⟩⟩) (cwV 3 hts gL_act_X1_build rfl rfl rfl (by decide +kernel) ⟨Nat.le_of_ble_eq_true rfl, Nat.le_of_ble_eq_true rfl⟩) (k := 0) (ci := 1) (by omega) (fun ct hA => hA.1.1) rfl rfl rfl hl.1 (rest := []) rfl (Nat.le_of_ble_eq_true rfl) ⟨Nat.le_of_ble_eq_true rfl, Nat.le_of_ble_eq_true rfl⟩ dL_act_177 (fun r u H locs hp h => ?_)
          obtain ⟨rfl, hu9⟩ := hp
          rw [hu9] at h
          refine lv_iload_n hx hb dL_act_180 rfl (lv_at hl 5 rfl) ?_
          refine lv_icmp_ne (tgt := 188) hx hb dL_act_181 (by decide) (fun q9 => absurd rfl q9) (fun _ => ?_)
          refine lv_iconst (v := 1) hx hb dL_act_184 (by decide) ?_
          refine lv_goto (tgt := 189) hx hb dL_act_185 (by decide) ?_
          exact N_zret C0 hK hX h ⟨rfl, _, _, rfl, hI.build (by omega) ⟨(nI_rng (a := 0) (b := 99) (by omega) (by omega) (by decide)), ⟨by decide, by decide⟩, ⟨by decide, by decide⟩⟩⟩ (Or.inr rfl) (Nat.le_of_ble_eq_true rfl) (Nat.le_of_ble_eq_true rfl) dL_act_189
    · refine lv_bipush (v := 100) hx hb dL_act_101 (by decide) ?_
      refine lv_goto (tgt := 108) hx hb dL_act_103 (by decide) ?_
      refine S_callSi C0 hK h (c_L_below (x >>> (2 &&& 31)) 100 (by omega) (by omega)) (va_cwS 2 hts gL_act_L_below rfl rfl rfl (by decide +kernel) ⟨Nat.le_of_ble_eq_true rfl, Nat.le_of_ble_eq_true rfl⟩) rfl hl.1 (rest := []) rfl (Nat.le_of_ble_eq_true rfl) ⟨Nat.le_of_ble_eq_true rfl, Nat.le_of_ble_eq_true rfl⟩ dL_act_108 (fun r u H locs hp h => ?_)
      obtain ⟨rfl, hu9⟩ := hp
      rw [hu9] at h
      have hb111 : bl (x >>> (2 &&& 31)) 100 < 100 := bl_lt (by omega)
      refine lv_istore (lv' := [(6, .int (nI (bl (x >>> (2 &&& 31)) 100))), (5, .int w), (4, .int (nI (qp X))), (3, .int (nI (qt X))), (2, .int x), (1, .ref (za z 55)), (0, .ref (za z 0))]) hx hb dL_act_111 hl (by decide) rfl (fun ls hl => ?_)
      refine lv_iload_n hx hb dL_act_113 rfl (lv_at hl 4 rfl) ?_
      refine lv_iconst (v := 3) hx hb dL_act_114 (by decide) ?_
      refine lv_ishr hx hb dL_act_115 ?_
      refine lv_iconst (v := 3) hx hb dL_act_116 (by decide) ?_
      refine S_callSi C0 hK h (c_L_below (x >>> (3 &&& 31)) 3 (by omega) (by omega)) (va_cwS 2 hts gL_act_L_below rfl rfl rfl (by decide +kernel) ⟨Nat.le_of_ble_eq_true rfl, Nat.le_of_ble_eq_true rfl⟩) rfl hl.1 (rest := []) rfl (Nat.le_of_ble_eq_true rfl) ⟨Nat.le_of_ble_eq_true rfl, Nat.le_of_ble_eq_true rfl⟩ dL_act_117 (fun r u H locs hp h => ?_)
      obtain ⟨rfl, hu9⟩ := hp
      rw [hu9] at h
      have hb120 : bl (x >>> (3 &&& 31)) 3 < 3 := bl_lt (by omega)
      refine lv_if_ne (tgt := 127) hx hb dL_act_120 (by decide) (fun c_120 => ?_) (fun c_120 => ?_)
      · refine lv_iload_n hx hb dL_act_127 rfl (lv_at hl 4 rfl) ?_
        refine lv_iconst (v := 4) hx hb dL_act_128 (by decide) ?_
        refine lv_ishr hx hb dL_act_129 ?_
        refine lv_bipush (v := 21) hx hb dL_act_130 (by decide) ?_
        refine S_callSi C0 hK h (c_L_below (x >>> (4 &&& 31)) 21 (by omega) (by omega)) (va_cwS 2 hts gL_act_L_below rfl rfl rfl (by decide +kernel) ⟨Nat.le_of_ble_eq_true rfl, Nat.le_of_ble_eq_true rfl⟩) rfl hl.1 (rest := []) rfl (Nat.le_of_ble_eq_true rfl) ⟨Nat.le_of_ble_eq_true rfl, Nat.le_of_ble_eq_true rfl⟩ dL_act_132 (fun r u H locs hp h => ?_)
        obtain ⟨rfl, hu9⟩ := hp
        rw [hu9] at h
        have hb135 : bl (x >>> (4 &&& 31)) 21 < 21 := bl_lt (by omega)
        refine lv_istore (lv' := [(7, .int (nI (bl (x >>> (4 &&& 31)) 21))), (6, .int (nI (bl (x >>> (2 &&& 31)) 100))), (5, .int w), (4, .int (nI (qp X))), (3, .int (nI (qt X))), (2, .int x), (1, .ref (za z 55)), (0, .ref (za z 0))]) hx hb dL_act_135 hl (by decide) rfl (fun ls hl => ?_)
        refine lv_iload_n hx hb dL_act_137 rfl (lv_at hl 5 rfl) ?_
        refine lv_bipush (v := 6) hx hb dL_act_138 (by decide) ?_
        refine lv_ishr hx hb dL_act_140 ?_
        refine lv_iconst (v := 3) hx hb dL_act_141 (by decide) ?_
        refine S_callSi C0 hK h (c_L_below (x >>> (6 &&& 31)) 3 (by omega) (by omega)) (va_cwS 2 hts gL_act_L_below rfl rfl rfl (by decide +kernel) ⟨Nat.le_of_ble_eq_true rfl, Nat.le_of_ble_eq_true rfl⟩) rfl hl.1 (rest := []) rfl (Nat.le_of_ble_eq_true rfl) ⟨Nat.le_of_ble_eq_true rfl, Nat.le_of_ble_eq_true rfl⟩ dL_act_142 (fun r u H locs hp h => ?_)
        obtain ⟨rfl, hu9⟩ := hp
        rw [hu9] at h
        have hb145 : bl (x >>> (6 &&& 31)) 3 < 3 := bl_lt (by omega)
        refine lv_if_ne (tgt := 152) hx hb dL_act_145 (by decide) (fun c_145 => ?_) (fun c_145 => ?_)
        · refine lv_iload_n hx hb dL_act_152 rfl (lv_at hl 5 rfl) ?_
          refine lv_bipush (v := 21) hx hb dL_act_153 (by decide) ?_
          refine S_callSi C0 hK h (c_L_below x 21 (by omega) (by omega)) (va_cwS 2 hts gL_act_L_below rfl rfl rfl (by decide +kernel) ⟨Nat.le_of_ble_eq_true rfl, Nat.le_of_ble_eq_true rfl⟩) rfl hl.1 (rest := []) rfl (Nat.le_of_ble_eq_true rfl) ⟨Nat.le_of_ble_eq_true rfl, Nat.le_of_ble_eq_true rfl⟩ dL_act_155 (fun r u H locs hp h => ?_)
          obtain ⟨rfl, hu9⟩ := hp
          rw [hu9] at h
          have hb158 : bl x 21 < 21 := bl_lt (by omega)
          refine lv_istore (lv' := [(8, .int (nI (bl x 21))), (7, .int (nI (bl (x >>> (4 &&& 31)) 21))), (6, .int (nI (bl (x >>> (2 &&& 31)) 100))), (5, .int w), (4, .int (nI (qp X))), (3, .int (nI (qt X))), (2, .int x), (1, .ref (za z 55)), (0, .ref (za z 0))]) hx hb dL_act_158 hl (by decide) rfl (fun ls hl => ?_)
          refine lv_aload_n hx hb dL_act_160 rfl (lv_at hl 7 rfl) ?_
          refine lv_iload hx hb dL_act_161 (lv_at hl 2 rfl) ?_
          refine lv_iload hx hb dL_act_163 (lv_at hl 1 rfl) ?_
          refine lv_iload hx hb dL_act_165 (lv_at hl 0 rfl) ?_
          refine N_callVv C0 hK h (c_X3_build (by omega) (nI (bl (x >>> (2 &&& 31)) 100)) (nI (bl (x >>> (4 &&& 31)) 21)) (nI (bl x 21))) (cwV 3 hts gL_act_X3_build rfl rfl rfl (by decide +kernel) ⟨Nat.le_of_ble_eq_true rfl, Nat.le_of_ble_eq_true rfl⟩) rfl hl.1 (rest := []) rfl (Nat.le_of_ble_eq_true rfl) ⟨Nat.le_of_ble_eq_true rfl, Nat.le_of_ble_eq_true rfl⟩ dL_act_167 (fun z2 ix2 u2 c2 H locs hp hX hK h => ?_)
          have hp : u2 = (X, Y, addT X (nI (bl (x >>> (2 &&& 31)) 100)) (nI (bl (x >>> (4 &&& 31)) 21)) (nI (bl x 21)), f) := by rw [← sBuild_eq hI.2.1]; exact hp
          subst hp
          have e0 := hX.2.2.1 0 (by omega)
          have e55 := hX.2.2.1 55 (by omega)
          rw [← e0, ← e55] at hl
          have h56 : 56 ≤ zn z2 := by have := hX.2.1; omega
          refine lv_aload_n hx hb dL_act_170 rfl (lv_at hl 8 rfl) ?_
          refine lv_iload hx hb dL_act_171 (lv_at hl 2 rfl) ?_
          refine lv_iload hx hb dL_act_173 (lv_at hl 1 rfl) ?_
          refine lv_iload hx hb dL_act_175 (lv_at hl 0 rfl) ?_
          refine S_callVi C0 hK h (k_build hk (by omega) (nI (bl (x >>> (2 &&& 31)) 100)) (nI (bl (x >>> (4 &&& 31)) 21)) (nI (bl x 21)) ⟨(nI_rng (a := 0) (b := 99) (by omega) (by omega) (by decide)), (nI_rng (a := 0) (b := 20) (by omega) (by omega) (by decide)), (nI_rng (a := 0) (b := 20) (by omega) (by omega) (by decide))⟩) (cwV 3 hts gL_act_X1_build rfl rfl rfl (by decide +kernel) ⟨Nat.le_of_ble_eq_true rfl, Nat.le_of_ble_eq_true rfl⟩) (k := 0) (ci := 1) (by omega) (fun ct hA => hA.1.1) rfl rfl rfl hl.1 (rest := []) rfl (Nat.le_of_ble_eq_true rfl) ⟨Nat.le_of_ble_eq_true rfl, Nat.le_of_ble_eq_true rfl⟩ dL_act_177 (fun r u H locs hp h => ?_)
          obtain ⟨rfl, hu9⟩ := hp
          rw [hu9] at h
          refine lv_iload_n hx hb dL_act_180 rfl (lv_at hl 5 rfl) ?_
          refine lv_icmp_ne (tgt := 188) hx hb dL_act_181 (by decide) (fun q9 => absurd rfl q9) (fun _ => ?_)
          refine lv_iconst (v := 1) hx hb dL_act_184 (by decide) ?_
          refine lv_goto (tgt := 189) hx hb dL_act_185 (by decide) ?_
          exact N_zret C0 hK hX h ⟨rfl, _, _, rfl, hI.build (by omega) ⟨(nI_rng (a := 0) (b := 99) (by omega) (by omega) (by decide)), (nI_rng (a := 0) (b := 20) (by omega) (by omega) (by decide)), (nI_rng (a := 0) (b := 20) (by omega) (by omega) (by decide))⟩⟩ (Or.inr rfl) (Nat.le_of_ble_eq_true rfl) (Nat.le_of_ble_eq_true rfl) dL_act_189
        · refine lv_iconst (v := 0) hx hb dL_act_148 (by decide) ?_
          refine lv_goto (tgt := 158) hx hb dL_act_149 (by decide) ?_
          refine lv_istore (lv' := [(8, .int 0), (7, .int (nI (bl (x >>> (4 &&& 31)) 21))), (6, .int (nI (bl (x >>> (2 &&& 31)) 100))), (5, .int w), (4, .int (nI (qp X))), (3, .int (nI (qt X))), (2, .int x), (1, .ref (za z 55)), (0, .ref (za z 0))]) hx hb dL_act_158 hl (by decide) rfl (fun ls hl => ?_)
          refine lv_aload_n hx hb dL_act_160 rfl (lv_at hl 7 rfl) ?_
          refine lv_iload hx hb dL_act_161 (lv_at hl 2 rfl) ?_
          refine lv_iload hx hb dL_act_163 (lv_at hl 1 rfl) ?_
          refine lv_iload hx hb dL_act_165 (lv_at hl 0 rfl) ?_
          refine N_callVv C0 hK h (c_X3_build (by omega) (nI (bl (x >>> (2 &&& 31)) 100)) (nI (bl (x >>> (4 &&& 31)) 21)) 0) (cwV 3 hts gL_act_X3_build rfl rfl rfl (by decide +kernel) ⟨Nat.le_of_ble_eq_true rfl, Nat.le_of_ble_eq_true rfl⟩) rfl hl.1 (rest := []) rfl (Nat.le_of_ble_eq_true rfl) ⟨Nat.le_of_ble_eq_true rfl, Nat.le_of_ble_eq_true rfl⟩ dL_act_167 (fun z2 ix2 u2 c2 H locs hp hX hK h => ?_)
          have hp : u2 = (X, Y, addT X (nI (bl (x >>> (2 &&& 31)) 100)) (nI (bl (x >>> (4 &&& 31)) 21)) 0, f) := by rw [← sBuild_eq hI.2.1]; exact hp
          subst hp
          have e0 := hX.2.2.1 0 (by omega)
          have e55 := hX.2.2.1 55 (by omega)
          rw [← e0, ← e55] at hl
          have h56 : 56 ≤ zn z2 := by have := hX.2.1; omega
          refine lv_aload_n hx hb dL_act_170 rfl (lv_at hl 8 rfl) ?_
          refine lv_iload hx hb dL_act_171 (lv_at hl 2 rfl) ?_
          refine lv_iload hx hb dL_act_173 (lv_at hl 1 rfl) ?_
          refine lv_iload hx hb dL_act_175 (lv_at hl 0 rfl) ?_
          refine S_callVi C0 hK h (k_build hk (by omega) (nI (bl (x >>> (2 &&& 31)) 100)) (nI (bl (x >>> (4 &&& 31)) 21)) 0 ⟨(nI_rng (a := 0) (b := 99) (by omega) (by omega) (by decide)), (nI_rng (a := 0) (b := 20) (by omega) (by omega) (by decide)), ⟨by decide, by decide⟩⟩) (cwV 3 hts gL_act_X1_build rfl rfl rfl (by decide +kernel) ⟨Nat.le_of_ble_eq_true rfl, Nat.le_of_ble_eq_true rfl⟩) (k := 0) (ci := 1) (by omega) (fun ct hA => hA.1.1) rfl rfl rfl hl.1 (rest := []) rfl (Nat.le_of_ble_eq_true rfl) ⟨Nat.le_of_ble_eq_true rfl, Nat.le_of_ble_eq_true rfl⟩ dL_act_177 (fun r u H locs hp h => ?_)
          obtain ⟨rfl, hu9⟩ := hp
          rw [hu9] at h
          refine lv_iload_n hx hb dL_act_180 rfl (lv_at hl 5 rfl) ?_
          refine lv_icmp_ne (tgt := 188) hx hb dL_act_181 (by decide) (fun q9 => absurd rfl q9) (fun _ => ?_)
          refine lv_iconst (v := 1) hx hb dL_act_184 (by decide) ?_
          refine lv_goto (tgt := 189) hx hb dL_act_185 (by decide) ?_
          exact N_zret C0 hK hX h ⟨rfl, _, _, rfl, hI.build (by omega) ⟨(nI_rng (a := 0) (b := 99) (by omega) (by omega) (by decide)), (nI_rng (a := 0) (b := 20) (by omega) (by omega) (by decide)), ⟨by decide, by decide⟩⟩⟩ (Or.inr rfl) (Nat.le_of_ble_eq_true rfl) (Nat.le_of_ble_eq_true rfl) dL_act_189
      · refine lv_iconst (v := 0) hx hb dL_act_123 (by decide) ?_
        refine lv_goto (tgt := 135) hx hb dL_act_124 (by decide) ?_
        refine lv_istore (lv' := [(7, .int 0), (6, .int (nI (bl (x >>> (2 &&& 31)) 100))), (5, .int w), (4, .int (nI (qp X))), (3, .int (nI (qt X))), (2, .int x), (1, .ref (za z 55)), (0, .ref (za z 0))]) hx hb dL_act_135 hl (by decide) rfl (fun ls hl => ?_)
        refine lv_iload_n hx hb dL_act_137 rfl (lv_at hl 5 rfl) ?_
        refine lv_bipush (v := 6) hx hb dL_act_138 (by decide) ?_
        refine lv_ishr hx hb dL_act_140 ?_
        refine lv_iconst (v := 3) hx hb dL_act_141 (by decide) ?_
        refine S_callSi C0 hK h (c_L_below (x >>> (6 &&& 31)) 3 (by omega) (by omega)) (va_cwS 2 hts gL_act_L_below rfl rfl rfl (by decide +kernel) ⟨Nat.le_of_ble_eq_true rfl, Nat.le_of_ble_eq_true rfl⟩) rfl hl.1 (rest := []) rfl (Nat.le_of_ble_eq_true rfl) ⟨Nat.le_of_ble_eq_true rfl, Nat.le_of_ble_eq_true rfl⟩ dL_act_142 (fun r u H locs hp h => ?_)
        obtain ⟨rfl, hu9⟩ := hp
        rw [hu9] at h
        have hb145 : bl (x >>> (6 &&& 31)) 3 < 3 := bl_lt (by omega)
        refine lv_if_ne (tgt := 152) hx hb dL_act_145 (by decide) (fun c_145 => ?_) (fun c_145 => ?_)
        · refine lv_iload_n hx hb dL_act_152 rfl (lv_at hl 5 rfl) ?_
          refine lv_bipush (v := 21) hx hb dL_act_153 (by decide) ?_
          refine S_callSi C0 hK h (c_L_below x 21 (by omega) (by omega)) (va_cwS 2 hts gL_act_L_below rfl rfl rfl (by decide +kernel) ⟨Nat.le_of_ble_eq_true rfl, Nat.le_of_ble_eq_true rfl⟩) rfl hl.1 (rest := []) rfl (Nat.le_of_ble_eq_true rfl) ⟨Nat.le_of_ble_eq_true rfl, Nat.le_of_ble_eq_true rfl⟩ dL_act_155 (fun r u H locs hp h => ?_)
          obtain ⟨rfl, hu9⟩ := hp
          rw [hu9] at h
          have hb158 : bl x 21 < 21 := bl_lt (by omega)
          refine lv_istore (lv' := [(8, .int (nI (bl x 21))), (7, .int 0), (6, .int (nI (bl (x >>> (2 &&& 31)) 100))), (5, .int w), (4, .int (nI (qp X))), (3, .int (nI (qt X))), (2, .int x), (1, .ref (za z 55)), (0, .ref (za z 0))]) hx hb dL_act_158 hl (by decide) rfl (fun ls hl => ?_)
          refine lv_aload_n hx hb dL_act_160 rfl (lv_at hl 7 rfl) ?_
          refine lv_iload hx hb dL_act_161 (lv_at hl 2 rfl) ?_
          refine lv_iload hx hb dL_act_163 (lv_at hl 1 rfl) ?_
          refine lv_iload hx hb dL_act_165 (lv_at hl 0 rfl) ?_
          refine N_callVv C0 hK h (c_X3_build (by omega) (nI (bl (x >>> (2 &&& 31)) 100)) 0 (nI (bl x 21))) (cwV 3 hts gL_act_X3_build rfl rfl rfl (by decide +kernel) ⟨Nat.le_of_ble_eq_true rfl, Nat.le_of_ble_eq_true rfl⟩) rfl hl.1 (rest := []) rfl (Nat.le_of_ble_eq_true rfl) ⟨Nat.le_of_ble_eq_true rfl, Nat.le_of_ble_eq_true rfl⟩ dL_act_167 (fun z2 ix2 u2 c2 H locs hp hX hK h => ?_)
          have hp : u2 = (X, Y, addT X (nI (bl (x >>> (2 &&& 31)) 100)) 0 (nI (bl x 21)), f) := by rw [← sBuild_eq hI.2.1]; exact hp
          subst hp
          have e0 := hX.2.2.1 0 (by omega)
          have e55 := hX.2.2.1 55 (by omega)
          rw [← e0, ← e55] at hl
          have h56 : 56 ≤ zn z2 := by have := hX.2.1; omega
          refine lv_aload_n hx hb dL_act_170 rfl (lv_at hl 8 rfl) ?_
          refine lv_iload hx hb dL_act_171 (lv_at hl 2 rfl) ?_
          refine lv_iload hx hb dL_act_173 (lv_at hl 1 rfl) ?_
          refine lv_iload hx hb dL_act_175 (lv_at hl 0 rfl) ?_
          refine S_callVi C0 hK h (k_build hk (by omega) (nI (bl (x >>> (2 &&& 31)) 100)) 0 (nI (bl x 21)) ⟨(nI_rng (a := 0) (b := 99) (by omega) (by omega) (by decide)), ⟨by decide, by decide⟩, (nI_rng (a := 0) (b := 20) (by omega) (by omega) (by decide))⟩) (cwV 3 hts gL_act_X1_build rfl rfl rfl (by decide +kernel) ⟨Nat.le_of_ble_eq_true rfl, Nat.le_of_ble_eq_true rfl⟩) (k := 0) (ci := 1) (by omega) (fun ct hA => hA.1.1) rfl rfl rfl hl.1 (rest := []) rfl (Nat.le_of_ble_eq_true rfl) ⟨Nat.le_of_ble_eq_true rfl, Nat.le_of_ble_eq_true rfl⟩ dL_act_177 (fun r u H locs hp h => ?_)
          obtain ⟨rfl, hu9⟩ := hp
          rw [hu9] at h
          refine lv_iload_n hx hb dL_act_180 rfl (lv_at hl 5 rfl) ?_
          refine lv_icmp_ne (tgt := 188) hx hb dL_act_181 (by decide) (fun q9 => absurd rfl q9) (fun _ => ?_)
          refine lv_iconst (v := 1) hx hb dL_act_184 (by decide) ?_
          refine lv_goto (tgt := 189) hx hb dL_act_185 (by decide) ?_
          exact N_zret C0 hK hX h ⟨rfl, _, _, rfl, hI.build (by omega) ⟨(nI_rng (a := 0) (b := 99) (by omega) (by omega) (by decide)), ⟨by decide, by decide⟩, (nI_rng (a := 0) (b := 20) (by omega) (by omega) (by decide))⟩⟩ (Or.inr rfl) (Nat.le_of_ble_eq_true rfl) (Nat.le_of_ble_eq_true rfl) dL_act_189
        · refine lv_iconst (v := 0) hx hb dL_act_148 (by decide) ?_
          refine lv_goto (tgt := 158) hx hb dL_act_149 (by decide) ?_
          refine lv_istore (lv' := [(8, .int 0), (7, .int 0), (6, .int (nI (bl (x >>> (2 &&& 31)) 100))), (5, .int w), (4, .int (nI (qp X))), (3, .int (nI (qt X))), (2, .int x), (1, .ref (za z 55)), (0, .ref (za z 0))]) hx hb dL_act_158 hl (by decide) rfl (fun ls hl => ?_)
          refine lv_aload_n hx hb dL_act_160 rfl (lv_at hl 7 rfl) ?_
          refine lv_iload hx hb dL_act_161 (lv_at hl 2 rfl) ?_
          refine lv_iload hx hb dL_act_163 (lv_at hl 1 rfl) ?_
          refine lv_iload hx hb dL_act_165 (lv_at hl 0 rfl) ?_
          refine N_callVv C0 hK h (c_X3_build (by omega) (nI (bl (x >>> (2 &&& 31)) 100)) 0 0) (cwV 3 hts gL_act_X3_build rfl rfl rfl (by decide +kernel) ⟨Nat.le_of_ble_eq_true rfl, Nat.le_of_ble_eq_true rfl⟩) rfl hl.1 (rest := []) rfl (Nat.le_of_ble_eq_true rfl) ⟨Nat.le_of_ble_eq_true rfl, Nat.le_of_ble_eq_true rfl⟩ dL_act_167 (fun z2 ix2 u2 c2 H locs hp hX hK h => ?_)
          have hp : u2 = (X, Y, addT X (nI (bl (x >>> (2 &&& 31)) 100)) 0 0, f) := by rw [← sBuild_eq hI.2.1]; exact hp
          subst hp
          have e0 := hX.2.2.1 0 (by omega)
          have e55 := hX.2.2.1 55 (by omega)
          rw [← e0, ← e55] at hl
          have h56 : 56 ≤ zn z2 := by have := hX.2.1; omega
          refine lv_aload_n hx hb dL_act_170 rfl (lv_at hl 8 rfl) ?_
          refine lv_iload hx hb dL_act_171 (lv_at hl 2 rfl) ?_
          refine lv_iload hx hb dL_act_173 (lv_at hl 1 rfl) ?_
          refine lv_iload hx hb dL_act_175 (lv_at hl 0 rfl) ?_
          refine S_callVi C0 hK h (k_build hk (by omega) (nI (bl (x >>> (2 &&& 31)) 100)) 0 0 ⟨(nI_rng (a := 0) (b := 99) (by omega) (by omega) (by decide)), ⟨by decide, by decide⟩, ⟨by decide, by decide⟩⟩) (cwV 3 hts gL_act_X1_build rfl rfl rfl (by decide +kernel) ⟨Nat.le_of_ble_eq_true rfl, Nat.le_of_ble_eq_true rfl⟩) (k := 0) (ci := 1) (by omega) (fun ct hA => hA.1.1) rfl rfl rfl hl.1 (rest := []) rfl (Nat.le_of_ble_eq_true rfl) ⟨Nat.le_of_ble_eq_true rfl, Nat.le_of_ble_eq_true rfl⟩ dL_act_177 (fun r u H locs hp h => ?_)
          obtain ⟨rfl, hu9⟩ := hp
          rw [hu9] at h
          refine lv_iload_n hx hb dL_act_180 rfl (lv_at hl 5 rfl) ?_
          refine lv_icmp_ne (tgt := 188) hx hb dL_act_181 (by decide) (fun q9 => absurd rfl q9) (fun _ => ?_)
          refine lv_iconst (v := 1) hx hb dL_act_184 (by decide) ?_
          refine lv_goto (tgt := 189) hx hb dL_act_185 (by decide) ?_
          exact N_zret C0 hK hX h ⟨rfl, _, _, rfl, hI.build (by omega) ⟨(nI_rng (a := 0) (b := 99) (by omega) (by omega) (by decide)), ⟨by decide, by decide⟩, ⟨by decide, by decide⟩⟩⟩ (Or.inr rfl) (Nat.le_of_ble_eq_true rfl) (Nat.le_of_ble_eq_true rfl) dL_act_189
  · refine lv_iconst (v := 1) hx hb dL_act_86 (by decide) ?_
    exact N_zret C0 hK hX h ⟨rfl, _, _, rfl, hI⟩ (Or.inr rfl) (Nat.le_of_ble_eq_true rfl) (Nat.le_of_ble_eq_true rfl) dL_act_87
set_option maxHeartbeats 4000000 in
set_option maxRecDepth 100000 in
theorem act_lay {p : Program} {l : Launch} {e : Env} {s : State} {m : MethodId} {below : List Frame} {meth : Method} {c : Code} {H : Heap} {locs : List Loc} {ls : Array Slot} {z : QZ} {ix : Nat → Nat} {X Y : QLs} {f : Nat → Nat × (Nat → Int32)} {D : Nat} {c0 : Nat → va_E} {x w : Int32} (C0 : Cx p s m [Value.ref (za z 0), .ref (za z 55), .int x].toArray meth c cL_act 21 (some .boolean) RL wsL_act) (hK : QK z s) (hI : Inv D X) (hq : qI (zn z) (za z)) (h : GN z ix s.heap c0 (X, Y, X, f) H locs) (hl : lv_has ls 21 [(5, .int w), (4, .int (nI (qp X))), (3, .int (nI (qt X))), (2, .int x), (1, .ref (za z 55)), (0, .ref (za z 0))])  : W p l e RMact s m [Value.ref (za z 0), .ref (za z 55), .int x].toArray below meth c H locs 0 0 (MQ below (va_Qi (fun (r : Int32) (v8 : QZ × (Nat → Nat) × US) => XZ s.heap.size z v8.1 ∧ (fun r v9 => r = 1 ∧ ∃ X2 Y2, v9.2.2 = ((X2, Y2, X2, f) : US) ∧ Inv D X2) r v8) UEnd (qA (zn z) (za z) s.heap.size)) [Value.ref (za z 0), .ref (za z 55), .int x].toArray s 2 24 (qA (zn z) (za z) s.heap.size)) (F0 m 190 ls []) := by
  obtain ⟨hx, hb, hr, hml, hown, hts, hlocks⟩ := id C0
  have hk := hI.ok
  have hk1 := hk.1
  have hk2 := hk.2.1
  obtain ⟨⟨⟨h10, h14, h56⟩, -⟩, -⟩ := gw_ix h
  have hX := XZ.rf (sz := s.heap.size) hq
  refine lv_iload hx hb dL_act_190 (lv_at hl 1 rfl) ?_
  refine lv_bipush (v := 14) hx hb dL_act_192 (by decide) ?_
  refine lv_icmp_eq (tgt := 202) hx hb dL_act_194 (by decide) (fun c_194 => ?_) (fun c_194 => ?_)
  · refine lv_iconst (v := 1) hx hb dL_act_202 (by decide) ?_
    exact N_zret C0 hK hX h ⟨rfl, _, _, rfl, hI⟩ (Or.inr rfl) (Nat.le_of_ble_eq_true rfl) (Nat.le_of_ble_eq_true rfl) dL_act_203
  · refine lv_iload_n hx hb dL_act_197 rfl (lv_at hl 2 rfl) ?_
    refine lv_iconst (v := 2) hx hb dL_act_198 (by decide) ?_
    refine lv_icmp_ge (tgt := 204) hx hb dL_act_199 (by decide) (fun c_199 => ?_) (fun c_199 => ?_)
    · have hp9 : ¬ qp X = 14 := fun q9 => c_194 (by rw [q9]; rfl)
      have ht9 : 2 ≤ qt X := by rcases Nat.lt_or_ge (qt X) 2 with h9 | h9; exact absurd c_199 (nI_ge h9 (show 2 < 2 ^ 31 by decide)); exact h9
      refine lv_iload_n hx hb dL_act_204 rfl (lv_at hl 3 rfl) ?_
      refine lv_iload_n hx hb dL_act_205 rfl (lv_at hl 2 rfl) ?_
      refine S_callSi C0 hK h (c_L_below x (qt X) (by omega) (by omega)) (va_cwS 2 hts gL_act_L_below rfl rfl rfl (by decide +kernel) ⟨Nat.le_of_ble_eq_true rfl, Nat.le_of_ble_eq_true rfl⟩) rfl hl.1 (rest := []) rfl (Nat.le_of_ble_eq_true rfl) ⟨Nat.le_of_ble_eq_true rfl, Nat.le_of_ble_eq_true rfl⟩ dL_act_206 (fun r u H locs hp h => ?_)
      obtain ⟨rfl, hu9⟩ := hp
      rw [hu9] at h
      have hb209 : bl x (qt X) < qt X := bl_lt (by omega)
      refine lv_istore (lv' := [(9, .int (nI (bl x (qt X)))), (5, .int w), (4, .int (nI (qp X))), (3, .int (nI (qt X))), (2, .int x), (1, .ref (za z 55)), (0, .ref (za z 0))]) hx hb dL_act_209 hl (by decide) rfl (fun ls hl => ?_)
      refine lv_iload hx hb dL_act_211 (lv_at hl 0 rfl) ?_
      refine lv_iconst (v := 1) hx hb dL_act_213 (by decide) ?_
      refine lv_iadd hx hb dL_act_214 ?_
      refine lv_iload_n hx hb dL_act_215 rfl (lv_at hl 4 rfl) ?_
      refine lv_iconst (v := 3) hx hb dL_act_216 (by decide) ?_
      refine lv_ishr hx hb dL_act_217 ?_
      refine lv_iload_n hx hb dL_act_218 rfl (lv_at hl 3 rfl) ?_
      refine lv_iconst (v := 1) hx hb dL_act_219 (by decide) ?_
      refine lv_isub hx hb dL_act_220 ?_
      rw [show nI (qt X) - 1 = nI (qt X - 1) from nI_sub1 (by omega)]
      refine S_callSi C0 hK h (c_L_below (x >>> (3 &&& 31)) (qt X - 1) (by omega) (by omega)) (va_cwS 2 hts gL_act_L_below rfl rfl rfl (by decide +kernel) ⟨Nat.le_of_ble_eq_true rfl, Nat.le_of_ble_eq_true rfl⟩) rfl hl.1 (rest := [.int ((nI (bl x (qt X))) + 1)]) rfl (Nat.le_of_ble_eq_true rfl) ⟨Nat.le_of_ble_eq_true rfl, Nat.le_of_ble_eq_true rfl⟩ dL_act_221 (fun r u H locs hp h => ?_)
      obtain ⟨rfl, hu9⟩ := hp
      rw [hu9] at h
      have hb224 : bl (x >>> (3 &&& 31)) (qt X - 1) < qt X - 1 := bl_lt (by omega)
      refine lv_iadd hx hb dL_act_224 ?_
      refine lv_iload_n hx hb dL_act_225 rfl (lv_at hl 3 rfl) ?_
      refine lv_irem hx hb dL_act_226 (nI_ne0 (by omega) (by omega)) ?_
      refine lv_topi (fun y9 ey9 => ?_)
      simp only [nI_1, nI_add] at ey9
      rw [rem_nn (by omega) (by omega) (by omega)] at ey9
      obtain ⟨o9, eo9⟩ : ∃ o9, o9 = (((bl x (qt X)) + 1) + (bl (x >>> (3 &&& 31)) (qt X - 1))) % qt X := ⟨_, rfl⟩
      rw [← eo9] at ey9
      subst ey9
      have ho9 : o9 < qt X := by rw [eo9]; exact Nat.mod_lt _ (by omega)
      have hne9 : bl x (qt X) ≠ o9 := fun q9 => to_ne (a := bl x (qt X)) (k := bl (x >>> (3 &&& 31)) (qt X - 1)) (n := qt X) (by omega) (by omega) (eo9.symm.trans q9.symm)
      refine lv_istore (lv' := [(10, .int (nI o9)), (9, .int (nI (bl x (qt X)))), (5, .int w), (4, .int (nI (qp X))), (3, .int (nI (qt X))), (2, .int x), (1, .ref (za z 55)), (0, .ref (za z 0))]) hx hb dL_act_227 hl (by decide) rfl (fun ls hl => ?_)
      refine lv_iconst (v := 1) hx hb dL_act_229 (by decide) ?_
      refine lv_iload_n hx hb dL_act_230 rfl (lv_at hl 5 rfl) ?_
      refine lv_iconst (v := 4) hx hb dL_act_231 (by decide) ?_
      refine lv_ishr hx hb dL_act_232 ?_
      refine lv_bipush (v := 20) hx hb dL_act_233 (by decide) ?_
      refine S_callSi C0 hK h (c_L_below (x >>> (4 &&& 31)) 20 (by omega) (by omega)) (va_cwS 2 hts gL_act_L_below rfl rfl rfl (by decide +kernel) ⟨Nat.le_of_ble_eq_true rfl, Nat.le_of_ble_eq_true rfl⟩) rfl hl.1 (rest := [.int 1]) rfl (Nat.le_of_ble_eq_true rfl) ⟨Nat.le_of_ble_eq_true rfl, Nat.le_of_ble_eq_true rfl⟩ dL_act_235 (fun r u H locs hp h => ?_)
      obtain ⟨rfl, hu9⟩ := hp
      rw [hu9] at h
      have hb238 : bl (x >>> (4 &&& 31)) 20 < 20 := bl_lt (by omega)
      refine lv_iadd hx hb dL_act_238 ?_
      refine lv_topi (fun y9 ey9 => ?_)
      have ey9 := ey9.trans (nI_add 1 _)
      subst ey9
      refine lv_istore (lv' := [(11, .int (nI (1 + (bl (x >>> (4 &&& 31)) 20)))), (10, .int (nI o9)), (9, .int (nI (bl x (qt X)))), (5, .int w), (4, .int (nI (qp X))), (3, .int (nI (qt X))), (2, .int x), (1, .ref (za z 55)), (0, .ref (za z 0))]) hx hb dL_act_239 hl (by decide) rfl (fun ls hl => ?_)
      refine lv_iload_n hx hb dL_act_241 rfl (lv_at hl 6 rfl) ?_
      refine lv_iconst (v := 5) hx hb dL_act_242 (by decide) ?_
      refine lv_ishr hx hb dL_act_243 ?_
      refine lv_iconst (v := 3) hx hb dL_act_244 (by decide) ?_
      refine S_callSi C0 hK h (c_L_below (x >>> (5 &&& 31)) 3 (by omega) (by omega)) (va_cwS 2 hts gL_act_L_below rfl rfl rfl (by decide +kernel) ⟨Nat.le_of_ble_eq_true rfl, Nat.le_of_ble_eq_true rfl⟩) rfl hl.1 (rest := []) rfl (Nat.le_of_ble_eq_true rfl) ⟨Nat.le_of_ble_eq_true rfl, Nat.le_of_ble_eq_true rfl⟩ dL_act_245 (fun r u H locs hp h => ?_)
      obtain ⟨rfl, hu9⟩ := hp
      rw [hu9] at h
      have hb248 : bl (x >>> (5 &&& 31)) 3 < 3 := bl_lt (by omega)
      refine lv_if_ne (tgt := 262) hx hb dL_act_248 (by decide) (fun c_248 => ?_) (fun c_248 => ?_)
      · refine lv_iconst (v := 0) hx hb dL_act_262 (by decide) ?_
        refine lv_istore (lv' := [(12, .int 0), (11, .int (nI (1 + (bl (x >>> (4 &&& 31)) 20)))), (10, .int (nI o9)), (9, .int (nI (bl x (qt X)))), (5, .int w), (4, .int (nI (qp X))), (3, .int (nI (qt X))), (2, .int x), (1, .ref (za z 55)), (0, .ref (za z 0))]) hx hb dL_act_263 hl (by decide) rfl (fun ls hl => ?_)
        refine lv_aload_n hx hb dL_act_265 rfl (lv_at hl 8 rfl) ?_
        refine lv_iload hx hb dL_act_266 (lv_at hl 3 rfl) ?_
        refine lv_iload hx hb dL_act_268 (lv_at hl 2 rfl) ?_
        refine lv_iload hx hb dL_act_270 (lv_at hl 1 rfl) ?_
        refine lv_iload hx hb dL_act_272 (lv_at hl 0 rfl) ?_
        refine N_callVv C0 hK h (c_X3_lay (by omega) (nI (bl x (qt X))) (nI o9) (nI (1 + (bl (x >>> (4 &&& 31)) 20))) 0) (cwV 4 hts gL_act_X3_lay rfl rfl rfl (by decide +kernel) ⟨Nat.le_of_ble_eq_true rfl, Nat.le_of_ble_eq_true rfl⟩) rfl hl.1 (rest := []) rfl (Nat.le_of_ble_eq_true rfl) ⟨Nat.le_of_ble_eq_true rfl, Nat.le_of_ble_eq_true rfl⟩ dL_act_274 (fun z2 ix2 u2 c2 H locs hp hX hK h => ?_)
        have hp : u2 = (X, Y, addP X (nI (bl x (qt X))) (nI o9) (nI (1 + (bl (x >>> (4 &&& 31)) 20))) 0, f) := by rw [← sLay_eq hI.2.1]; exact hp
        subst hp
        have e0 := hX.2.2.1 0 (by omega)
        have e55 := hX.2.2.1 55 (by omega)
        rw [← e0, ← e55] at hl
        have h56 : 56 ≤ zn z2 := by have := hX.2.1; omega
        refine lv_aload_n hx hb dL_act_277 rfl (lv_at hl 9 rfl) ?_
        refine lv_iload hx hb dL_act_278 (lv_at hl 3 rfl) ?_
        refine lv_iload hx hb dL_act_280 (lv_at hl 2 rfl) ?_
        refine lv_iload hx hb dL_act_282 (lv_at hl 1 rfl) ?_
        refine lv_iload hx hb dL_act_284 (lv_at hl 0 rfl) ?_
        refine S_callVi C0 hK h (k_lay hk (bl x (qt X)) (by omega) o9 (by omega) (by omega) hne9 (nI (1 + (bl (x >>> (4 &&& 31)) 20))) 0 ⟨(nI_rng (a := 1) (b := 20) (by omega) (by omega) (by decide)), ⟨by decide, by decide⟩⟩) (cwV 4 hts gL_act_X1_lay rfl rfl rfl (by decide +kernel) ⟨Nat.le_of_ble_eq_true rfl, Nat.le_of_ble_eq_true rfl⟩) (k := 0) (ci := 1) (by omega) (fun ct hA => hA.1.1) rfl rfl rfl hl.1 (rest := []) rfl (Nat.le_of_ble_eq_true rfl) ⟨Nat.le_of_ble_eq_true rfl, Nat.le_of_ble_eq_true rfl⟩ dL_act_286 (fun r u H locs hp h => ?_)
        obtain ⟨rfl, hu9⟩ := hp
        rw [hu9] at h
        refine lv_iload hx hb dL_act_289 (lv_at hl 5 rfl) ?_
        refine lv_icmp_ne (tgt := 298) hx hb dL_act_291 (by decide) (fun q9 => absurd rfl q9) (fun _ => ?_)
        refine lv_iconst (v := 1) hx hb dL_act_294 (by decide) ?_
        refine lv_goto (tgt := 299) hx hb dL_act_295 (by decide) ?_
        exact N_zret C0 hK hX h ⟨rfl, _, _, rfl, hI.lay (by omega) (by omega) (by omega) hne9 ⟨(nI_rng (a := 1) (b := 20) (by omega) (by omega) (by decide)), ⟨by decide, by decide⟩⟩⟩ (Or.inr rfl) (Nat.le_of_ble_eq_true rfl) (Nat.le_of_ble_eq_true rfl) dL_act_299
      · refine lv_iload_n hx hb dL_act_251 rfl (lv_at hl 6 rfl) ?_
        refine lv_iconst (v := 2) hx hb dL_act_252 (by decide) ?_
        refine lv_ishr hx hb dL_act_253 ?_
        refine lv_bipush (v := 61) hx hb dL_act_254 (by decide) ?_
        refine S_callSi C0 hK h (c_L_below (x >>> (2 &&& 31)) 61 (by omega) (by omega)) (va_cwS 2 hts gL_act_L_below rfl rfl rfl (by decide +kernel) ⟨Nat.le_of_ble_eq_true rfl, Nat.le_of_ble_eq_true rfl⟩) rfl hl.1 (rest := []) rfl (Nat.le_of_ble_eq_true rfl) ⟨Nat.le_of_ble_eq_true rfl, Nat.le_of_ble_eq_true rfl⟩ dL_act_256 (fun r u H locs hp h => ?_)
        obtain ⟨rfl, hu9⟩ := hp
        rw [hu9] at h
        have hb259 : bl (x >>> (2 &&& 31)) 61 < 61 := bl_lt (by omega)
        refine lv_goto (tgt := 263) hx hb dL_act_259 (by decide) ?_
        refine lv_istore (lv' := [(12, .int (nI (bl (x >>> (2 &&& 31)) 61))), (11, .int (nI (1 + (bl (x >>> (4 &&& 31)) 20)))), (10, .int (nI o9)), (9, .int (nI (bl x (qt X)))), (5, .int w), (4, .int (nI (qp X))), (3, .int (nI (qt X))), (2, .int x), (1, .ref (za z 55)), (0, .ref (za z 0))]) hx hb dL_act_263 hl (by decide) rfl (fun ls hl => ?_)
        refine lv_aload_n hx hb dL_act_265 rfl (lv_at hl 8 rfl) ?_
        refine lv_iload hx hb dL_act_266 (lv_at hl 3 rfl) ?_
        refine lv_iload hx hb dL_act_268 (lv_at hl 2 rfl) ?_
        refine lv_iload hx hb dL_act_270 (lv_at hl 1 rfl) ?_
        refine lv_iload hx hb dL_act_272 (lv_at hl 0 rfl) ?_
        refine N_callVv C0 hK h (c_X3_lay (by omega) (nI (bl x (qt X))) (nI o9) (nI (1 + (bl (x >>> (4 &&& 31)) 20))) (nI (bl (x >>> (2 &&& 31)) 61))) (cwV 4 hts gL_act_X3_lay rfl rfl rfl (by decide +kernel) ⟨Nat.le_of_ble_eq_true rfl, Nat.le_of_ble_eq_true rfl⟩) rfl hl.1 (rest := []) rfl (Nat.le_of_ble_eq_true rfl) ⟨Nat.le_of_ble_eq_true rfl, Nat.le_of_ble_eq_true rfl⟩ dL_act_274 (fun z2 ix2 u2 c2 H locs hp hX hK h => ?_)
        have hp : u2 = (X, Y, addP X (nI (bl x (qt X))) (nI o9) (nI (1 + (bl (x >>> (4 &&& 31)) 20))) (nI (bl (x >>> (2 &&& 31)) 61)), f) := by rw [← sLay_eq hI.2.1]; exact hp
        subst hp
        have e0 := hX.2.2.1 0 (by omega)
        have e55 := hX.2.2.1 55 (by omega)
        rw [← e0, ← e55] at hl
        have h56 : 56 ≤ zn z2 := by have := hX.2.1; omega
        refine lv_aload_n hx hb dL_act_277 rfl (lv_at hl 9 rfl) ?_
        refine lv_iload hx hb dL_act_278 (lv_at hl 3 rfl) ?_
        refine lv_iload hx hb dL_act_280 (lv_at hl 2 rfl) ?_
        refine lv_iload hx hb dL_act_282 (lv_at hl 1 rfl) ?_
        refine lv_iload hx hb dL_act_284 (lv_at hl 0 rfl) ?_
        refine S_callVi C0 hK h (k_lay hk (bl x (qt X)) (by omega) o9 (by omega) (by omega) hne9 (nI (1 + (bl (x >>> (4 &&& 31)) 20))) (nI (bl (x >>> (2 &&& 31)) 61)) ⟨(nI_rng (a := 1) (b := 20) (by omega) (by omega) (by decide)), (nI_rng (a := 0) (b := 60) (by omega) (by omega) (by decide))⟩) (cwV 4 hts gL_act_X1_lay rfl rfl rfl (by decide +kernel) ⟨Nat.le_of_ble_eq_true rfl, Nat.le_of_ble_eq_true rfl⟩) (k := 0) (ci := 1) (by omega) (fun ct hA => hA.1.1) rfl rfl rfl hl.1 (rest := []) rfl (Nat.le_of_ble_eq_true rfl) ⟨Nat.le_of_ble_eq_true rfl, Nat.le_of_ble_eq_true rfl⟩ dL_act_286 (fun r u H locs hp h => ?_)
        obtain ⟨rfl, hu9⟩ := hp
        rw [hu9] at h
        refine lv_iload hx hb dL_act_289 (lv_at hl 5 rfl) ?_
        refine lv_icmp_ne (tgt := 298) hx hb dL_act_291 (by decide) (fun q9 => absurd rfl q9) (fun _ => ?_)
        refine lv_iconst (v := 1) hx hb dL_act_294 (by decide) ?_
        refine lv_goto (tgt := 299) hx hb dL_act_295 (by decide) ?_
        exact N_zret C0 hK hX h ⟨rfl, _, _, rfl, hI.lay (by omega) (by omega) (by omega) hne9 ⟨(nI_rng (a := 1) (b := 20) (by omega) (by omega) (by decide)), (nI_rng (a := 0) (b := 60) (by omega) (by omega) (by decide))⟩⟩ (Or.inr rfl) (Nat.le_of_ble_eq_true rfl) (Nat.le_of_ble_eq_true rfl) dL_act_299
    · refine lv_iconst (v := 1) hx hb dL_act_202 (by decide) ?_
      exact N_zret C0 hK hX h ⟨rfl, _, _, rfl, hI⟩ (Or.inr rfl) (Nat.le_of_ble_eq_true rfl) (Nat.le_of_ble_eq_true rfl) dL_act_203
set_option maxHeartbeats 4000000 in
set_option maxRecDepth 100000 in
theorem act_set {p : Program} {l : Launch} {e : Env} {s : State} {m : MethodId} {below : List Frame} {meth : Method} {c : Code} {H : Heap} {locs : List Loc} {ls : Array Slot} {z : QZ} {ix : Nat → Nat} {X Y : QLs} {f : Nat → Nat × (Nat → Int32)} {D : Nat} {c0 : Nat → va_E} {x w : Int32} (C0 : Cx p s m [Value.ref (za z 0), .ref (za z 55), .int x].toArray meth c cL_act 21 (some .boolean) RL wsL_act) (hK : QK z s) (hI : Inv D X) (hq : qI (zn z) (za z)) (h : GN z ix s.heap c0 (X, Y, X, f) H locs) (hl : lv_has ls 21 [(5, .int w), (4, .int (nI (qp X))), (3, .int (nI (qt X))), (2, .int x), (1, .ref (za z 55)), (0, .ref (za z 0))]) (h0 : 0 < qt X) : W p l e RMact s m [Value.ref (za z 0), .ref (za z 55), .int x].toArray below meth c H locs 0 0 (MQ below (va_Qi (fun (r : Int32) (v8 : QZ × (Nat → Nat) × US) => XZ s.heap.size z v8.1 ∧ (fun r v9 => r = 1 ∧ ∃ X2 Y2, v9.2.2 = ((X2, Y2, X2, f) : US) ∧ Inv D X2) r v8) UEnd (qA (zn z) (za z) s.heap.size)) [Value.ref (za z 0), .ref (za z 55), .int x].toArray s 2 24 (qA (zn z) (za z) s.heap.size)) (F0 m 300 ls []) := by
  obtain ⟨hx, hb, hr, hml, hown, hts, hlocks⟩ := id C0
  have hk := hI.ok
  have hk1 := hk.1
  have hk2 := hk.2.1
  obtain ⟨⟨⟨h10, h14, h56⟩, -⟩, -⟩ := gw_ix h
  have hX := XZ.rf (sz := s.heap.size) hq
  have hin3 : ∀ w ∈ u_ws RX3 TX3 3, w ∈ wsL_act := by decide +kernel
  have hin4 : ∀ w ∈ u_ws RX4 TX4 8, w ∈ wsL_act := by decide +kernel
  refine lv_aload_n hx hb dL_act_300 rfl (lv_at hl 4 rfl) ?_
  refine U_gO C0 hK h hin3 0 (by decide) (by decide +kernel) rfl dL_act_301 ?_
  refine lv_iload_n hx hb dL_act_304 rfl (lv_at hl 3 rfl) ?_
  refine lv_iload_n hx hb dL_act_305 rfl (lv_at hl 2 rfl) ?_
  refine S_callSi C0 hK h (c_L_below x (qt X) (by omega) (by omega)) (va_cwS 2 hts gL_act_L_below rfl rfl rfl (by decide +kernel) ⟨Nat.le_of_ble_eq_true rfl, Nat.le_of_ble_eq_true rfl⟩) rfl hl.1 (rest := [.ref (za z (ix 0))]) rfl (Nat.le_of_ble_eq_true rfl) ⟨Nat.le_of_ble_eq_true rfl, Nat.le_of_ble_eq_true rfl⟩ dL_act_306 (fun r u H locs hp h => ?_)
  obtain ⟨rfl, hu9⟩ := hp
  rw [hu9] at h
  have hb309 : bl x (qt X) < qt X := bl_lt (by omega)
  refine U_aT C0 hK h (i := bl x (qt X)) rfl (by omega) dL_act_309 ?_
  refine lv_astore (lv' := [(13, .ref (za z (ix (2 + (bl x (qt X)))))), (5, .int w), (4, .int (nI (qp X))), (3, .int (nI (qt X))), (2, .int x), (1, .ref (za z 55)), (0, .ref (za z 0))]) hx hb dL_act_310 hl (by decide) rfl (fun ls hl => ?_)
  refine lv_bipush (v := 100) hx hb dL_act_312 (by decide) ?_
  refine lv_aload hx hb dL_act_314 (lv_at hl 0 rfl) ?_
  refine U_gT C0 hK h hin4 (by omega) 1 (by decide) (by decide +kernel) dL_act_316 ?_
  refine lv_imul hx hb dL_act_319 ?_
  refine lv_aload hx hb dL_act_320 (lv_at hl 0 rfl) ?_
  refine U_gT C0 hK h hin4 (by omega) 2 (by decide) (by decide +kernel) dL_act_322 ?_
  refine lv_iadd hx hb dL_act_325 ?_
  refine lv_istore (lv' := [(14, .int ((100 * (qT X (bl x (qt X)) 1)) + (qT X (bl x (qt X)) 2))), (13, .ref (za z (ix (2 + (bl x (qt X)))))), (5, .int w), (4, .int (nI (qp X))), (3, .int (nI (qt X))), (2, .int x), (1, .ref (za z 55)), (0, .ref (za z 0))]) hx hb dL_act_326 hl (by decide) rfl (fun ls hl => ?_)
  refine lv_aload hx hb dL_act_328 (lv_at hl 1 rfl) ?_
  refine lv_iload_n hx hb dL_act_330 rfl (lv_at hl 5 rfl) ?_
  refine lv_iconst (v := 2) hx hb dL_act_331 (by decide) ?_
  refine lv_ishr hx hb dL_act_332 ?_
  refine lv_bipush (v := 21) hx hb dL_act_333 (by decide) ?_
  refine S_callSi C0 hK h (c_L_below (x >>> (2 &&& 31)) 21 (by omega) (by omega)) (va_cwS 2 hts gL_act_L_below rfl rfl rfl (by decide +kernel) ⟨Nat.le_of_ble_eq_true rfl, Nat.le_of_ble_eq_true rfl⟩) rfl hl.1 (rest := [.ref (za z (ix (2 + (bl x (qt X)))))]) rfl (Nat.le_of_ble_eq_true rfl) ⟨Nat.le_of_ble_eq_true rfl, Nat.le_of_ble_eq_true rfl⟩ dL_act_335 (fun r u H locs hp h => ?_)
  obtain ⟨rfl, hu9⟩ := hp
  rw [hu9] at h
  have hb338 : bl (x >>> (2 &&& 31)) 21 < 21 := bl_lt (by omega)
  refine U_pT C0 hK h hin4 (by omega) 1 (by decide) (by decide +kernel) dL_act_338 (fun H locs S1 eS1 h => ?_)
  refine lv_aload hx hb dL_act_341 (lv_at hl 1 rfl) ?_
  refine lv_iload_n hx hb dL_act_343 rfl (lv_at hl 5 rfl) ?_
  refine lv_iconst (v := 4) hx hb dL_act_344 (by decide) ?_
  refine lv_ishr hx hb dL_act_345 ?_
  refine lv_bipush (v := 21) hx hb dL_act_346 (by decide) ?_
  refine S_callSi C0 hK h (c_L_below (x >>> (4 &&& 31)) 21 (by omega) (by omega)) (va_cwS 2 hts gL_act_L_below rfl rfl rfl (by decide +kernel) ⟨Nat.le_of_ble_eq_true rfl, Nat.le_of_ble_eq_true rfl⟩) rfl hl.1 (rest := [.ref (za z (ix (2 + (bl x (qt X)))))]) rfl (Nat.le_of_ble_eq_true rfl) ⟨Nat.le_of_ble_eq_true rfl, Nat.le_of_ble_eq_true rfl⟩ dL_act_348 (fun r u H locs hp h => ?_)
  obtain ⟨rfl, hu9⟩ := hp
  rw [hu9] at h
  have hb351 : bl (x >>> (4 &&& 31)) 21 < 21 := bl_lt (by omega)
  refine U_pT C0 hK h hin4 (by omega) 2 (by decide) (by decide +kernel) dL_act_351 (fun H locs S2 eS2 h => ?_)
  have g1 : qT S2 (bl x (qt X)) 1 = nI (bl (x >>> (2 &&& 31)) 21) := by subst eS2 eS1; rw [qT_sT, pk_un (by decide), qT_sT, pk_us]
  have g2 : qT S2 (bl x (qt X)) 2 = nI (bl (x >>> (4 &&& 31)) 21) := by subst eS2 eS1; rw [qT_sT, pk_us]
  refine lv_aload_n hx hb dL_act_354 rfl (lv_at hl 7 rfl) ?_
  refine lv_iload_n hx hb dL_act_355 rfl (lv_at hl 5 rfl) ?_
  refine lv_iload_n hx hb dL_act_356 rfl (lv_at hl 4 rfl) ?_
  refine S_callSi C0 hK h (c_L_below x (qt X) (by omega) (by omega)) (va_cwS 2 hts gL_act_L_below rfl rfl rfl (by decide +kernel) ⟨Nat.le_of_ble_eq_true rfl, Nat.le_of_ble_eq_true rfl⟩) rfl hl.1 (rest := [.ref (za z 0)]) rfl (Nat.le_of_ble_eq_true rfl) ⟨Nat.le_of_ble_eq_true rfl, Nat.le_of_ble_eq_true rfl⟩ dL_act_357 (fun r u H locs hp h => ?_)
  obtain ⟨rfl, hu9⟩ := hp
  rw [hu9] at h
  have hb360 : bl x (qt X) < qt X := bl_lt (by omega)
  refine lv_aload hx hb dL_act_360 (lv_at hl 1 rfl) ?_
  refine U_gT C0 hK h hin4 (by omega) 1 (by decide) (by decide +kernel) dL_act_362 ?_
  refine lv_aload hx hb dL_act_365 (lv_at hl 1 rfl) ?_
  refine U_gT C0 hK h hin4 (by omega) 2 (by decide) (by decide +kernel) dL_act_367 ?_
  refine S_callVi C0 hK h (k_set hk (bl x (qt X)) (by omega) (nI (bl (x >>> (2 &&& 31)) 21)) (nI (bl (x >>> (4 &&& 31)) 21)) ⟨(nI_rng (a := 0) (b := 20) (by omega) (by omega) (by decide)), (nI_rng (a := 0) (b := 20) (by omega) (by omega) (by decide))⟩) (cwV 3 hts gL_act_X1_set rfl rfl rfl (by decide +kernel) ⟨Nat.le_of_ble_eq_true rfl, Nat.le_of_ble_eq_true rfl⟩) (k := 0) (ci := 1) (by omega) (fun ct hA => hA.1.1) rfl rfl rfl hl.1 (rest := []) (by rw [g1, g2]; rfl) (Nat.le_of_ble_eq_true rfl) ⟨Nat.le_of_ble_eq_true rfl, Nat.le_of_ble_eq_true rfl⟩ dL_act_370 (fun r u H locs hp h => ?_)
  obtain ⟨rfl, hu9⟩ := hp
  rw [hu9] at h
  refine lv_iload hx hb dL_act_373 (lv_at hl 0 rfl) ?_
  refine lv_icmp_ne (tgt := 382) hx hb dL_act_375 (by decide) (fun q9 => absurd rfl q9) (fun _ => ?_)
  refine lv_iconst (v := 1) hx hb dL_act_378 (by decide) ?_
  refine lv_goto (tgt := 383) hx hb dL_act_379 (by decide) ?_
  subst eS2 eS1
  exact N_zret C0 hK hX h ⟨rfl, _, _, rfl, hI.set (by omega) (nI_rng (a := 0) (b := 20) (by omega) (by omega) (by decide)) (nI_rng (a := 0) (b := 20) (by omega) (by omega) (by decide))⟩ (Or.inr rfl) (Nat.le_of_ble_eq_true rfl) (Nat.le_of_ble_eq_true rfl) dL_act_383
set_option maxHeartbeats 4000000 in
set_option maxRecDepth 100000 in
theorem act_flush {p : Program} {l : Launch} {e : Env} {s : State} {m : MethodId} {below : List Frame} {meth : Method} {c : Code} {H : Heap} {locs : List Loc} {ls : Array Slot} {z : QZ} {ix : Nat → Nat} {X Y : QLs} {f : Nat → Nat × (Nat → Int32)} {D : Nat} {c0 : Nat → va_E} {x w : Int32} (C0 : Cx p s m [Value.ref (za z 0), .ref (za z 55), .int x].toArray meth c cL_act 21 (some .boolean) RL wsL_act) (hK : QK z s) (hI : Inv D X) (hq : qI (zn z) (za z)) (h : GN z ix s.heap c0 (X, Y, X, f) H locs) (hl : lv_has ls 21 [(5, .int w), (4, .int (nI (qp X))), (3, .int (nI (qt X))), (2, .int x), (1, .ref (za z 55)), (0, .ref (za z 0))]) (h0 : 0 < qt X) : W p l e RMact s m [Value.ref (za z 0), .ref (za z 55), .int x].toArray below meth c H locs 0 0 (MQ below (va_Qi (fun (r : Int32) (v8 : QZ × (Nat → Nat) × US) => XZ s.heap.size z v8.1 ∧ (fun r v9 => r = 1 ∧ ∃ X2 Y2, v9.2.2 = ((X2, Y2, X2, f) : US) ∧ Inv D X2) r v8) UEnd (qA (zn z) (za z) s.heap.size)) [Value.ref (za z 0), .ref (za z 55), .int x].toArray s 2 24 (qA (zn z) (za z) s.heap.size)) (F0 m 384 ls []) := by
  obtain ⟨hx, hb, hr, hml, hown, hts, hlocks⟩ := id C0
  have hk := hI.ok
  have hk1 := hk.1
  have hk2 := hk.2.1
  obtain ⟨⟨⟨h10, h14, h56⟩, -⟩, -⟩ := gw_ix h
  have hX := XZ.rf (sz := s.heap.size) hq
  have hin3 : ∀ w ∈ u_ws RX3 TX3 3, w ∈ wsL_act := by decide +kernel
  have hin4 : ∀ w ∈ u_ws RX4 TX4 8, w ∈ wsL_act := by decide +kernel
  refine lv_iload_n hx hb dL_act_384 rfl (lv_at hl 3 rfl) ?_
  refine lv_iconst (v := 5) hx hb dL_act_385 (by decide) ?_
  refine lv_ishr hx hb dL_act_386 ?_
  refine lv_iconst (v := 3) hx hb dL_act_387 (by decide) ?_
  refine S_callSi C0 hK h (c_L_below (x >>> (5 &&& 31)) 3 (by omega) (by omega)) (va_cwS 2 hts gL_act_L_below rfl rfl rfl (by decide +kernel) ⟨Nat.le_of_ble_eq_true rfl, Nat.le_of_ble_eq_true rfl⟩) rfl hl.1 (rest := []) rfl (Nat.le_of_ble_eq_true rfl) ⟨Nat.le_of_ble_eq_true rfl, Nat.le_of_ble_eq_true rfl⟩ dL_act_388 (fun r u H locs hp h => ?_)
  obtain ⟨rfl, hu9⟩ := hp
  rw [hu9] at h
  have hb391 : bl (x >>> (5 &&& 31)) 3 < 3 := bl_lt (by omega)
  refine lv_if_le (tgt := 396) hx hb dL_act_391 (by decide) (fun c_391 => ?_) (fun c_391 => ?_)
  · refine lv_aload_n hx hb dL_act_396 rfl (lv_at hl 4 rfl) ?_
    refine U_gO C0 hK h hin3 0 (by decide) (by decide +kernel) rfl dL_act_397 ?_
    refine lv_iload_n hx hb dL_act_400 rfl (lv_at hl 3 rfl) ?_
    refine lv_iload_n hx hb dL_act_401 rfl (lv_at hl 2 rfl) ?_
    refine S_callSi C0 hK h (c_L_below x (qt X) (by omega) (by omega)) (va_cwS 2 hts gL_act_L_below rfl rfl rfl (by decide +kernel) ⟨Nat.le_of_ble_eq_true rfl, Nat.le_of_ble_eq_true rfl⟩) rfl hl.1 (rest := [.ref (za z (ix 0))]) rfl (Nat.le_of_ble_eq_true rfl) ⟨Nat.le_of_ble_eq_true rfl, Nat.le_of_ble_eq_true rfl⟩ dL_act_402 (fun r u H locs hp h => ?_)
    obtain ⟨rfl, hu9⟩ := hp
    rw [hu9] at h
    have hb405 : bl x (qt X) < qt X := bl_lt (by omega)
    refine U_aT C0 hK h (i := bl x (qt X)) rfl (by omega) dL_act_405 ?_
    refine lv_astore (lv' := [(15, .ref (za z (ix (2 + (bl x (qt X)))))), (5, .int w), (4, .int (nI (qp X))), (3, .int (nI (qt X))), (2, .int x), (1, .ref (za z 55)), (0, .ref (za z 0))]) hx hb dL_act_406 hl (by decide) rfl (fun ls hl => ?_)
    refine lv_aload hx hb dL_act_408 (lv_at hl 0 rfl) ?_
    refine U_gT C0 hK h hin4 (by omega) 4 (by decide) (by decide +kernel) dL_act_410 ?_
    refine lv_istore (lv' := [(16, .int (qT X (bl x (qt X)) 4)), (15, .ref (za z (ix (2 + (bl x (qt X)))))), (5, .int w), (4, .int (nI (qp X))), (3, .int (nI (qt X))), (2, .int x), (1, .ref (za z 55)), (0, .ref (za z 0))]) hx hb dL_act_413 hl (by decide) rfl (fun ls hl => ?_)
    refine lv_aload hx hb dL_act_415 (lv_at hl 1 rfl) ?_
    refine lv_iconst (v := 0) hx hb dL_act_417 (by decide) ?_
    refine U_pT C0 hK h hin4 (by omega) 4 (by decide) (by decide +kernel) dL_act_418 (fun H locs S1 eS1 h => ?_)
    refine lv_aload hx hb dL_act_421 (lv_at hl 1 rfl) ?_
    refine lv_dup hx hb dL_act_423 rfl ?_
    refine U_gT C0 hK h hin4 (by omega) 3 (by decide) (by decide +kernel) dL_act_424 ?_
    refine lv_iconst (v := 2) hx hb dL_act_427 (by decide) ?_
    refine lv_idiv hx hb dL_act_428 (by decide) ?_
    refine U_pT C0 hK h hin4 (by omega) 3 (by decide) (by decide +kernel) dL_act_429 (fun H locs S2 eS2 h => ?_)
    refine lv_aload_n hx hb dL_act_432 rfl (lv_at hl 7 rfl) ?_
    refine lv_iload_n hx hb dL_act_433 rfl (lv_at hl 5 rfl) ?_
    refine lv_iload_n hx hb dL_act_434 rfl (lv_at hl 4 rfl) ?_
    refine S_callSi C0 hK h (c_L_below x (qt X) (by omega) (by omega)) (va_cwS 2 hts gL_act_L_below rfl rfl rfl (by decide +kernel) ⟨Nat.le_of_ble_eq_true rfl, Nat.le_of_ble_eq_true rfl⟩) rfl hl.1 (rest := [.ref (za z 0)]) rfl (Nat.le_of_ble_eq_true rfl) ⟨Nat.le_of_ble_eq_true rfl, Nat.le_of_ble_eq_true rfl⟩ dL_act_435 (fun r u H locs hp h => ?_)
    obtain ⟨rfl, hu9⟩ := hp
    rw [hu9] at h
    have hb438 : bl x (qt X) < qt X := bl_lt (by omega)
    refine S_callVi C0 hK h (k_flush hk (bl x (qt X)) (by omega)) (cwV 1 hts gL_act_X1_flush rfl rfl rfl (by decide +kernel) ⟨Nat.le_of_ble_eq_true rfl, Nat.le_of_ble_eq_true rfl⟩) (k := 0) (ci := 1) (by omega) (fun ct hA => hA.1.1) rfl rfl rfl hl.1 (rest := []) rfl (Nat.le_of_ble_eq_true rfl) ⟨Nat.le_of_ble_eq_true rfl, Nat.le_of_ble_eq_true rfl⟩ dL_act_438 (fun r u H locs hp h => ?_)
    obtain ⟨rfl, hu9⟩ := hp
    rw [hu9] at h
    refine lv_iload hx hb dL_act_441 (lv_at hl 0 rfl) ?_
    refine lv_icmp_ne (tgt := 450) hx hb dL_act_443 (by decide) (fun q9 => absurd rfl q9) (fun _ => ?_)
    refine lv_iconst (v := 1) hx hb dL_act_446 (by decide) ?_
    refine lv_goto (tgt := 451) hx hb dL_act_447 (by decide) ?_
    subst eS2 eS1
    exact N_zret C0 hK hX h ⟨rfl, _, _, rfl, hI.flush (by omega)⟩ (Or.inr rfl) (Nat.le_of_ble_eq_true rfl) (Nat.le_of_ble_eq_true rfl) dL_act_451
  · refine lv_iconst (v := 1) hx hb dL_act_394 (by decide) ?_
    exact N_zret C0 hK hX h ⟨rfl, _, _, rfl, hI⟩ (Or.inr rfl) (Nat.le_of_ble_eq_true rfl) (Nat.le_of_ble_eq_true rfl) dL_act_395
set_option maxHeartbeats 4000000 in
set_option maxRecDepth 100000 in
theorem act_scrape {p : Program} {l : Launch} {e : Env} {s : State} {m : MethodId} {below : List Frame} {meth : Method} {c : Code} {H : Heap} {locs : List Loc} {ls : Array Slot} {z : QZ} {ix : Nat → Nat} {X Y : QLs} {f : Nat → Nat × (Nat → Int32)} {D : Nat} {c0 : Nat → va_E} {x w : Int32} (C0 : Cx p s m [Value.ref (za z 0), .ref (za z 55), .int x].toArray meth c cL_act 21 (some .boolean) RL wsL_act) (hK : QK z s) (hI : Inv D X) (hq : qI (zn z) (za z)) (h : GN z ix s.heap c0 (X, Y, X, f) H locs) (hl : lv_has ls 21 [(5, .int w), (4, .int (nI (qp X))), (3, .int (nI (qt X))), (2, .int x), (1, .ref (za z 55)), (0, .ref (za z 0))])  : W p l e RMact s m [Value.ref (za z 0), .ref (za z 55), .int x].toArray below meth c H locs 0 0 (MQ below (va_Qi (fun (r : Int32) (v8 : QZ × (Nat → Nat) × US) => XZ s.heap.size z v8.1 ∧ (fun r v9 => r = 1 ∧ ∃ X2 Y2, v9.2.2 = ((X2, Y2, X2, f) : US) ∧ Inv D X2) r v8) UEnd (qA (zn z) (za z) s.heap.size)) [Value.ref (za z 0), .ref (za z 55), .int x].toArray s 2 24 (qA (zn z) (za z) s.heap.size)) (F0 m 452 ls []) := by
  obtain ⟨hx, hb, hr, hml, hown, hts, hlocks⟩ := id C0
  have hk := hI.ok
  have hk1 := hk.1
  have hk2 := hk.2.1
  obtain ⟨⟨⟨h10, h14, h56⟩, -⟩, -⟩ := gw_ix h
  have hX := XZ.rf (sz := s.heap.size) hq
  have hin2 : ∀ w ∈ u_ws RX2 TX2 9, w ∈ wsL_act := by decide +kernel
  have hin3 : ∀ w ∈ u_ws RX3 TX3 3, w ∈ wsL_act := by decide +kernel
  refine lv_iload hx hb dL_act_452 (lv_at hl 1 rfl) ?_
  refine lv_if_ne (tgt := 459) hx hb dL_act_454 (by decide) (fun c_454 => ?_) (fun c_454 => ?_)
  · have h0 : 0 < qp X := by rcases Nat.eq_zero_or_pos (qp X) with h9 | h9; exact absurd (by rw [h9]; rfl) c_454; exact h9
    refine lv_aload_n hx hb dL_act_459 rfl (lv_at hl 4 rfl) ?_
    refine U_gO C0 hK h hin3 1 (by decide) (by decide +kernel) rfl dL_act_460 ?_
    refine lv_iload_n hx hb dL_act_463 rfl (lv_at hl 3 rfl) ?_
    refine lv_iload hx hb dL_act_464 (lv_at hl 1 rfl) ?_
    refine S_callSi C0 hK h (c_L_below x (qp X) (by omega) (by omega)) (va_cwS 2 hts gL_act_L_below rfl rfl rfl (by decide +kernel) ⟨Nat.le_of_ble_eq_true rfl, Nat.le_of_ble_eq_true rfl⟩) rfl hl.1 (rest := [.ref (za z (ix 1))]) rfl (Nat.le_of_ble_eq_true rfl) ⟨Nat.le_of_ble_eq_true rfl, Nat.le_of_ble_eq_true rfl⟩ dL_act_466 (fun r u H locs hp h => ?_)
    obtain ⟨rfl, hu9⟩ := hp
    rw [hu9] at h
    have hb469 : bl x (qp X) < qp X := bl_lt (by omega)
    refine U_aP C0 hK h (i := bl x (qp X)) rfl (by omega) dL_act_469 ?_
    refine lv_astore (lv' := [(17, .ref (za z (ix (12 + (bl x (qp X)))))), (5, .int w), (4, .int (nI (qp X))), (3, .int (nI (qt X))), (2, .int x), (1, .ref (za z 55)), (0, .ref (za z 0))]) hx hb dL_act_470 hl (by decide) rfl (fun ls hl => ?_)
    refine lv_aload hx hb dL_act_472 (lv_at hl 0 rfl) ?_
    refine U_gP C0 hK h hin2 (by omega) 4 (by decide) (k9 := 4) rfl (by decide +kernel) dL_act_474 ?_
    refine lv_istore (lv' := [(18, .int (qP X (bl x (qp X)) 4)), (17, .ref (za z (ix (12 + (bl x (qp X)))))), (5, .int w), (4, .int (nI (qp X))), (3, .int (nI (qt X))), (2, .int x), (1, .ref (za z 55)), (0, .ref (za z 0))]) hx hb dL_act_477 hl (by decide) rfl (fun ls hl => ?_)
    refine lv_aload hx hb dL_act_479 (lv_at hl 1 rfl) ?_
    refine lv_iconst (v := 0) hx hb dL_act_481 (by decide) ?_
    refine U_pP C0 hK h hin2 (by omega) 4 (by decide) (k9 := 4) rfl (by decide +kernel) dL_act_482 (fun H locs S1 eS1 h => ?_)
    refine lv_aload_n hx hb dL_act_485 rfl (lv_at hl 7 rfl) ?_
    refine lv_iload_n hx hb dL_act_486 rfl (lv_at hl 5 rfl) ?_
    refine lv_iload hx hb dL_act_487 (lv_at hl 3 rfl) ?_
    refine S_callSi C0 hK h (c_L_below x (qp X) (by omega) (by omega)) (va_cwS 2 hts gL_act_L_below rfl rfl rfl (by decide +kernel) ⟨Nat.le_of_ble_eq_true rfl, Nat.le_of_ble_eq_true rfl⟩) rfl hl.1 (rest := [.ref (za z 0)]) rfl (Nat.le_of_ble_eq_true rfl) ⟨Nat.le_of_ble_eq_true rfl, Nat.le_of_ble_eq_true rfl⟩ dL_act_489 (fun r u H locs hp h => ?_)
    obtain ⟨rfl, hu9⟩ := hp
    rw [hu9] at h
    have hb492 : bl x (qp X) < qp X := bl_lt (by omega)
    refine S_callVi C0 hK h (k_scrape hk (bl x (qp X)) (by omega)) (cwV 1 hts gL_act_X1_scrape rfl rfl rfl (by decide +kernel) ⟨Nat.le_of_ble_eq_true rfl, Nat.le_of_ble_eq_true rfl⟩) (k := 0) (ci := 1) (by omega) (fun ct hA => hA.1.1) rfl rfl rfl hl.1 (rest := []) rfl (Nat.le_of_ble_eq_true rfl) ⟨Nat.le_of_ble_eq_true rfl, Nat.le_of_ble_eq_true rfl⟩ dL_act_492 (fun r u H locs hp h => ?_)
    obtain ⟨rfl, hu9⟩ := hp
    rw [hu9] at h
    refine lv_iload hx hb dL_act_495 (lv_at hl 0 rfl) ?_
    refine lv_icmp_ne (tgt := 504) hx hb dL_act_497 (by decide) (fun q9 => absurd rfl q9) (fun _ => ?_)
    refine lv_iconst (v := 1) hx hb dL_act_500 (by decide) ?_
    refine lv_goto (tgt := 505) hx hb dL_act_501 (by decide) ?_
    subst eS1
    exact N_zret C0 hK hX h ⟨rfl, _, _, rfl, hI.scrape (by omega)⟩ (Or.inr rfl) (Nat.le_of_ble_eq_true rfl) (Nat.le_of_ble_eq_true rfl) dL_act_505
  · refine lv_iconst (v := 1) hx hb dL_act_457 (by decide) ?_
    exact N_zret C0 hK hX h ⟨rfl, _, _, rfl, hI⟩ (Or.inr rfl) (Nat.le_of_ble_eq_true rfl) (Nat.le_of_ble_eq_true rfl) dL_act_458
set_option maxHeartbeats 4000000 in
set_option maxRecDepth 100000 in
theorem act_steal {p : Program} {l : Launch} {e : Env} {s : State} {m : MethodId} {below : List Frame} {meth : Method} {c : Code} {H : Heap} {locs : List Loc} {ls : Array Slot} {z : QZ} {ix : Nat → Nat} {X Y : QLs} {f : Nat → Nat × (Nat → Int32)} {D : Nat} {c0 : Nat → va_E} {x w : Int32} (C0 : Cx p s m [Value.ref (za z 0), .ref (za z 55), .int x].toArray meth c cL_act 21 (some .boolean) RL wsL_act) (hK : QK z s) (hI : Inv D X) (hq : qI (zn z) (za z)) (h : GN z ix s.heap c0 (X, Y, X, f) H locs) (hl : lv_has ls 21 [(5, .int w), (4, .int (nI (qp X))), (3, .int (nI (qt X))), (2, .int x), (1, .ref (za z 55)), (0, .ref (za z 0))])  : W p l e RMact s m [Value.ref (za z 0), .ref (za z 55), .int x].toArray below meth c H locs 0 0 (MQ below (va_Qi (fun (r : Int32) (v8 : QZ × (Nat → Nat) × US) => XZ s.heap.size z v8.1 ∧ (fun r v9 => r = 1 ∧ ∃ X2 Y2, v9.2.2 = ((X2, Y2, X2, f) : US) ∧ Inv D X2) r v8) UEnd (qA (zn z) (za z) s.heap.size)) [Value.ref (za z 0), .ref (za z 55), .int x].toArray s 2 24 (qA (zn z) (za z) s.heap.size)) (F0 m 506 ls []) := by
  obtain ⟨hx, hb, hr, hml, hown, hts, hlocks⟩ := id C0
  have hk := hI.ok
  have hk1 := hk.1
  have hk2 := hk.2.1
  obtain ⟨⟨⟨h10, h14, h56⟩, -⟩, -⟩ := gw_ix h
  have hX := XZ.rf (sz := s.heap.size) hq
  have hin2 : ∀ w ∈ u_ws RX2 TX2 9, w ∈ wsL_act := by decide +kernel
  have hin3 : ∀ w ∈ u_ws RX3 TX3 3, w ∈ wsL_act := by decide +kernel
  refine lv_iload hx hb dL_act_506 (lv_at hl 1 rfl) ?_
  refine lv_if_ne (tgt := 513) hx hb dL_act_508 (by decide) (fun c_508 => ?_) (fun c_508 => ?_)
  · have h0 : 0 < qp X := by rcases Nat.eq_zero_or_pos (qp X) with h9 | h9; exact absurd (by rw [h9]; rfl) c_508; exact h9
    refine lv_aload_n hx hb dL_act_513 rfl (lv_at hl 4 rfl) ?_
    refine U_gO C0 hK h hin3 1 (by decide) (by decide +kernel) rfl dL_act_514 ?_
    refine lv_iload_n hx hb dL_act_517 rfl (lv_at hl 3 rfl) ?_
    refine lv_iload hx hb dL_act_518 (lv_at hl 1 rfl) ?_
    refine S_callSi C0 hK h (c_L_below x (qp X) (by omega) (by omega)) (va_cwS 2 hts gL_act_L_below rfl rfl rfl (by decide +kernel) ⟨Nat.le_of_ble_eq_true rfl, Nat.le_of_ble_eq_true rfl⟩) rfl hl.1 (rest := [.ref (za z (ix 1))]) rfl (Nat.le_of_ble_eq_true rfl) ⟨Nat.le_of_ble_eq_true rfl, Nat.le_of_ble_eq_true rfl⟩ dL_act_520 (fun r u H locs hp h => ?_)
    obtain ⟨rfl, hu9⟩ := hp
    rw [hu9] at h
    have hb523 : bl x (qp X) < qp X := bl_lt (by omega)
    refine U_aP C0 hK h (i := bl x (qp X)) rfl (by omega) dL_act_523 ?_
    refine lv_astore (lv' := [(19, .ref (za z (ix (12 + (bl x (qp X)))))), (5, .int w), (4, .int (nI (qp X))), (3, .int (nI (qt X))), (2, .int x), (1, .ref (za z 55)), (0, .ref (za z 0))]) hx hb dL_act_524 hl (by decide) rfl (fun ls hl => ?_)
    refine lv_aload hx hb dL_act_526 (lv_at hl 0 rfl) ?_
    refine U_gP C0 hK h hin2 (by omega) 5 (by decide) (k9 := 9) rfl (by decide +kernel) dL_act_528 ?_
    refine lv_istore (lv' := [(20, .int (qP X (bl x (qp X)) 9)), (19, .ref (za z (ix (12 + (bl x (qp X)))))), (5, .int w), (4, .int (nI (qp X))), (3, .int (nI (qt X))), (2, .int x), (1, .ref (za z 55)), (0, .ref (za z 0))]) hx hb dL_act_531 hl (by decide) rfl (fun ls hl => ?_)
    refine lv_aload hx hb dL_act_533 (lv_at hl 1 rfl) ?_
    refine lv_iload_n hx hb dL_act_535 rfl (lv_at hl 5 rfl) ?_
    refine lv_iconst (v := 4) hx hb dL_act_536 (by decide) ?_
    refine lv_ishr hx hb dL_act_537 ?_
    refine lv_iconst (v := 3) hx hb dL_act_538 (by decide) ?_
    refine S_callSi C0 hK h (c_L_below (x >>> (4 &&& 31)) 3 (by omega) (by omega)) (va_cwS 2 hts gL_act_L_below rfl rfl rfl (by decide +kernel) ⟨Nat.le_of_ble_eq_true rfl, Nat.le_of_ble_eq_true rfl⟩) rfl hl.1 (rest := [.ref (za z (ix (12 + (bl x (qp X)))))]) rfl (Nat.le_of_ble_eq_true rfl) ⟨Nat.le_of_ble_eq_true rfl, Nat.le_of_ble_eq_true rfl⟩ dL_act_539 (fun r u H locs hp h => ?_)
    obtain ⟨rfl, hu9⟩ := hp
    rw [hu9] at h
    have hb542 : bl (x >>> (4 &&& 31)) 3 < 3 := bl_lt (by omega)
    refine lv_if_ne (tgt := 549) hx hb dL_act_542 (by decide) (fun c_542 => ?_) (fun c_542 => ?_)
    · refine lv_iload_n hx hb dL_act_549 rfl (lv_at hl 5 rfl) ?_
      refine lv_iconst (v := 3) hx hb dL_act_550 (by decide) ?_
      refine lv_ishr hx hb dL_act_551 ?_
      refine lv_bipush (v := 10) hx hb dL_act_552 (by decide) ?_
      refine S_callSi C0 hK h (c_L_below (x >>> (3 &&& 31)) 10 (by omega) (by omega)) (va_cwS 2 hts gL_act_L_below rfl rfl rfl (by decide +kernel) ⟨Nat.le_of_ble_eq_true rfl, Nat.le_of_ble_eq_true rfl⟩) rfl hl.1 (rest := [.ref (za z (ix (12 + (bl x (qp X)))))]) rfl (Nat.le_of_ble_eq_true rfl) ⟨Nat.le_of_ble_eq_true rfl, Nat.le_of_ble_eq_true rfl⟩ dL_act_554 (fun r u H locs hp h => ?_)
      obtain ⟨rfl, hu9⟩ := hp
      rw [hu9] at h
      have hb557 : bl (x >>> (3 &&& 31)) 10 < 10 := bl_lt (by omega)
      refine U_pP C0 hK h hin2 (by omega) 5 (by decide) (k9 := 9) rfl (by decide +kernel) dL_act_557 (fun H locs S1 eS1 h => ?_)
      have g1 : qP S1 (bl x (qp X)) 9 = nI (bl (x >>> (3 &&& 31)) 10) := by subst eS1; rw [qP_sP, pk_us]
      refine lv_aload_n hx hb dL_act_560 rfl (lv_at hl 7 rfl) ?_
      refine lv_iload_n hx hb dL_act_561 rfl (lv_at hl 5 rfl) ?_
      refine lv_iload hx hb dL_act_562 (lv_at hl 3 rfl) ?_
      refine S_callSi C0 hK h (c_L_below x (qp X) (by omega) (by omega)) (va_cwS 2 hts gL_act_L_below rfl rfl rfl (by decide +kernel) ⟨Nat.le_of_ble_eq_true rfl, Nat.le_of_ble_eq_true rfl⟩) rfl hl.1 (rest := [.ref (za z 0)]) rfl (Nat.le_of_ble_eq_true rfl) ⟨Nat.le_of_ble_eq_true rfl, Nat.le_of_ble_eq_true rfl⟩ dL_act_564 (fun r u H locs hp h => ?_)
      obtain ⟨rfl, hu9⟩ := hp
      rw [hu9] at h
      have hb567 : bl x (qp X) < qp X := bl_lt (by omega)
      refine lv_aload hx hb dL_act_567 (lv_at hl 1 rfl) ?_
      refine U_gP C0 hK h hin2 (by omega) 5 (by decide) (k9 := 9) rfl (by decide +kernel) dL_act_569 ?_
      refine S_callVi C0 hK h (k_steal hk (bl x (qp X)) (by omega) (nI (bl (x >>> (3 &&& 31)) 10)) (nI_rng (a := 0) (b := 9) (by omega) (by omega) (by decide))) (cwV 2 hts gL_act_X1_steal rfl rfl rfl (by decide +kernel) ⟨Nat.le_of_ble_eq_true rfl, Nat.le_of_ble_eq_true rfl⟩) (k := 0) (ci := 1) (by omega) (fun ct hA => hA.1.1) rfl rfl rfl hl.1 (rest := []) (by rw [g1]; rfl) (Nat.le_of_ble_eq_true rfl) ⟨Nat.le_of_ble_eq_true rfl, Nat.le_of_ble_eq_true rfl⟩ dL_act_572 (fun r u H locs hp h => ?_)
      obtain ⟨rfl, hu9⟩ := hp
      rw [hu9] at h
      refine lv_iload hx hb dL_act_575 (lv_at hl 0 rfl) ?_
      refine lv_icmp_ne (tgt := 584) hx hb dL_act_577 (by decide) (fun q9 => absurd rfl q9) (fun _ => ?_)
      refine lv_iconst (v := 1) hx hb dL_act_580 (by decide) ?_
      refine lv_goto (tgt := 585) hx hb dL_act_581 (by decide) ?_
      subst eS1
      exact N_zret C0 hK hX h ⟨rfl, _, _, rfl, hI.steal (by omega) (nI_rng (a := 0) (b := 9) (by omega) (by omega) (by decide))⟩ (Or.inr rfl) (Nat.le_of_ble_eq_true rfl) (Nat.le_of_ble_eq_true rfl) dL_act_585
    · refine lv_iconst (v := 0) hx hb dL_act_545 (by decide) ?_
      refine lv_goto (tgt := 557) hx hb dL_act_546 (by decide) ?_
      refine U_pP C0 hK h hin2 (by omega) 5 (by decide) (k9 := 9) rfl (by decide +kernel) dL_act_557 (fun H locs S2 eS2 h => ?_)
      have g1 : qP S2 (bl x (qp X)) 9 = nI (0) := by subst eS2; rw [qP_sP, pk_us]; rfl
      refine lv_aload_n hx hb dL_act_560 rfl (lv_at hl 7 rfl) ?_
      refine lv_iload_n hx hb dL_act_561 rfl (lv_at hl 5 rfl) ?_
      refine lv_iload hx hb dL_act_562 (lv_at hl 3 rfl) ?_
      refine S_callSi C0 hK h (c_L_below x (qp X) (by omega) (by omega)) (va_cwS 2 hts gL_act_L_below rfl rfl rfl (by decide +kernel) ⟨Nat.le_of_ble_eq_true rfl, Nat.le_of_ble_eq_true rfl⟩) rfl hl.1 (rest := [.ref (za z 0)]) rfl (Nat.le_of_ble_eq_true rfl) ⟨Nat.le_of_ble_eq_true rfl, Nat.le_of_ble_eq_true rfl⟩ dL_act_564 (fun r u H locs hp h => ?_)
      obtain ⟨rfl, hu9⟩ := hp
      rw [hu9] at h
      have hb567 : bl x (qp X) < qp X := bl_lt (by omega)
      refine lv_aload hx hb dL_act_567 (lv_at hl 1 rfl) ?_
      refine U_gP C0 hK h hin2 (by omega) 5 (by decide) (k9 := 9) rfl (by decide +kernel) dL_act_569 ?_
      refine S_callVi C0 hK h (k_steal hk (bl x (qp X)) (by omega) (nI 0) ⟨by decide, by decide⟩) (cwV 2 hts gL_act_X1_steal rfl rfl rfl (by decide +kernel) ⟨Nat.le_of_ble_eq_true rfl, Nat.le_of_ble_eq_true rfl⟩) (k := 0) (ci := 1) (by omega) (fun ct hA => hA.1.1) rfl rfl rfl hl.1 (rest := []) (by rw [g1]; rfl) (Nat.le_of_ble_eq_true rfl) ⟨Nat.le_of_ble_eq_true rfl, Nat.le_of_ble_eq_true rfl⟩ dL_act_572 (fun r u H locs hp h => ?_)
      obtain ⟨rfl, hu9⟩ := hp
      rw [hu9] at h
      refine lv_iload hx hb dL_act_575 (lv_at hl 0 rfl) ?_
      refine lv_icmp_ne (tgt := 584) hx hb dL_act_577 (by decide) (fun q9 => absurd rfl q9) (fun _ => ?_)
      refine lv_iconst (v := 1) hx hb dL_act_580 (by decide) ?_
      refine lv_goto (tgt := 585) hx hb dL_act_581 (by decide) ?_
      subst eS2
      exact N_zret C0 hK hX h ⟨rfl, _, _, rfl, hI.steal (by omega) ⟨by decide, by decide⟩⟩ (Or.inr rfl) (Nat.le_of_ble_eq_true rfl) (Nat.le_of_ble_eq_true rfl) dL_act_585
  · refine lv_iconst (v := 1) hx hb dL_act_511 (by decide) ?_
    exact N_zret C0 hK hX h ⟨rfl, _, _, rfl, hI⟩ (Or.inr rfl) (Nat.le_of_ble_eq_true rfl) (Nat.le_of_ble_eq_true rfl) dL_act_512
