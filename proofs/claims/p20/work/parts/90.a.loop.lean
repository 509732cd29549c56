/-! PART 90: the law's loop -/
set_option maxHeartbeats 8000000 in
set_option maxRecDepth 100000 in
theorem law_loop {p : Program} {l : Launch} {e : Env} {s : State} {m : MethodId} {below : List Frame} {meth : Method} {c : Code} {Q : State → Prop} {a0 L : Nat} {xs : Nat → Int32} {z0 : QZ} (C0 : Cx p s m ([Value.ref a0] : List Value).toArray meth c cL_law 32 (some .boolean) RL wsL_law) (hX : va_X a0 L xs s s.heap) (hbl : a0 < s.heap.size) (hnA : ¬ qA (zn z0) (za z0) s.heap.size a0) (hL : L ≤ 260)
    (fin : ∀ (z : QZ) (ix : Nat → Nat) (X Y : QLs) (f : Nat → Nat × (Nat → Int32)) (c1 : Nat → va_E) (H : Heap) (locs : List Loc) (ls : Array Slot), XZ s.heap.size z0 z → QK z s → Inv 40 X → GN z ix s.heap c1 (X, Y, X, f) H locs → lv_has ls 32 [(3, .int (nI 40)), (2, .ref (za z 55)), (1, .ref (za z 0)), (0, .ref a0)] → W p l e room_1 s m ([Value.ref a0] : List Value).toArray below meth c H locs 306 3399 Q (F0 m 1172 ls [])) :
    ∀ (d i : Nat), i + d = 40 → ∀ (z : QZ) (ix : Nat → Nat) (X Y : QLs) (f : Nat → Nat × (Nat → Int32)) (c1 : Nat → va_E) (H : Heap) (locs : List Loc) (ls : Array Slot), XZ s.heap.size z0 z → QK z s → Inv i X → GN z ix s.heap c1 (X, Y, X, f) H locs → lv_has ls 32 [(3, .int (nI i)), (2, .ref (za z 55)), (1, .ref (za z 0)), (0, .ref a0)] → W p l e room_1 s m ([Value.ref a0] : List Value).toArray below meth c H locs (106 + 5 * i) (1079 + 58 * i) Q (F0 m 22 ls []) := by
  obtain ⟨hx, hb, hr, hml, hown, hts, hlocks⟩ := id C0
  intro d
  induction d with
  | zero =>
    intro i hi z ix X Y f c1 H locs ls hXz hK hI h hl
    have hE : i = 40 := by omega
    subst hE
    refine lv_iload_n hx hb dL_law_22 rfl (lv_at hl 0 rfl) ?_
    refine lv_bipush (v := 40) hx hb dL_law_23 (by decide) ?_
    refine lv_icmp_ge (tgt := 1172) hx hb dL_law_25 (by decide) (fun _ => ?_) (fun q9 => absurd (nI_le (Nat.le_refl _) (by decide)) q9)
    exact fin z ix X Y f c1 H locs ls hXz hK hI h hl
  | succ d ih =>
    intro i hi z ix X Y f c1 H locs ls hXz hK hI h hl
    refine law_A (z8 := z) C0 hX hbl (fun q => hnA ((hXz.A (Nat.le_refl _) _).mp q)) hL hK (by omega) (by omega) hI (by omega) (fun z3 ix3 b X3 Y3 c3 f3 H locs ls hX3 hK3 hI3 hzn hb56 hf0 hf1 hf2 h hl => ?_) rfl h hl
    have hrm : 106 + 5 * i + 5 ≤ room_1.cells ∧ 1079 + 58 * i + 58 ≤ room_1.slots := ⟨by show _ ≤ 600104; omega, by show _ ≤ 7301314; omega⟩
    refine law_B1 C0 hK3 hrm hI3 (by omega) hb56 (fun f4 g0 H locs ls p0 p1 p2 p3 h hl => ?_) (qp X3) 0 (by omega) f3 (fun _ => 0) H locs ls hf0 (fun j hj => absurd hj (by omega)) hf1 hf2 h hl
    refine law_B2 C0 hK3 hrm hI3 (by omega) hb56 (fun Y5 f5 g1 g2 H locs ls q0 q1 q2 q3 q4 h hl => ?_) (qt X3) 0 (by omega) Y3 f4 (fun _ => 0) (fun _ => 0) H locs ls p0 p2 p3 (fun j hj => absurd hj (by omega)) (fun _ j hj => absurd hj (by omega)) h hl
    refine law_C (g0 := g0) (g1 := g1) (g2 := g2) C0 hK3 hrm hI3 (by omega) hb56 rfl (fun Y6 H locs ls h hl => ?_) h hl
    refine law_D C0 hK3 hrm hI3 (by omega) hb56 rfl q0 q1 q2 p1 q3 q4 (fun Y7 H locs ls h hl => ?_) (qt X3) 0 (by omega) Y6 H locs ls h hl
    refine law_E C0 hK3 hrm hI3 (by omega) hb56 rfl q0 q1 q2 p1 q3 q4 (fun Y8 H locs ls h hl => ?_) (qp X3) 0 (by omega) Y7 H locs ls h hl
    refine law_F C0 hK3 hrm hI3 (by omega) hb56 rfl hzn (fun H locs ls h hl => ?_) h hl
    refine W.widen (k := 106 + 5 * (i + 1)) (n := 1079 + 58 * (i + 1)) (by omega) (by omega) ?_
    exact ih (i + 1) (by omega) z3 ix3 (dayL X3) Y8 f5 c3 H locs ls (hXz.tr hX3 (Nat.le_refl _)) hK3 (hI3.day (by omega)) h hl
