/-! PART 83: the law's words among the tables' -/
def wsL_law : List Cond := wsL_law0 ++ (vx_atS RX1 39 "java/lang/IllegalStateException" ["java/lang/RuntimeException", "java/lang/Exception"]).filter goodWord ++ (vx_atS RX1 119 "java/lang/IllegalArgumentException" ["java/lang/RuntimeException", "java/lang/Exception"]).filter goodWord ++ (vx_atS RX1 114 "java/lang/IndexOutOfBoundsException" ["java/lang/RuntimeException", "java/lang/Exception"]).filter goodWord
theorem in_app {T a b : List Cond} (ha : ∀ w ∈ a, w ∈ T) (hb : ∀ w ∈ b, w ∈ T) : ∀ w ∈ a ++ b, w ∈ T := fun w h => (List.mem_append.mp h).elim (ha w) (hb w)
set_option maxRecDepth 20000 in
theorem lwin_r1 : ∀ w ∈ wsL_law0_r1, w ∈ lw_tbl := by decide +kernel
set_option maxRecDepth 20000 in
theorem lwin_r2 : ∀ w ∈ wsL_law0_r2, w ∈ lw_tbl := by decide +kernel
theorem in_cut {T L : List Cond} (n : Nat) (h1 : ∀ w ∈ L.take n, w ∈ T) (h2 : ∀ w ∈ L.drop n, w ∈ T) : ∀ w ∈ L, w ∈ T := fun w h => by
  rw [← List.take_append_drop n L] at h
  exact (List.mem_append.mp h).elim (h1 w) (h2 w)
set_option maxRecDepth 20000 in
theorem lwin_r3b : ∀ w ∈ (wsL_law0_r3.drop 1).drop 1, w ∈ lw_tbl := by decide +kernel
set_option maxRecDepth 20000 in
theorem lwin_r3a : ∀ w ∈ (wsL_law0_r3.drop 1).take 1, w ∈ lw_tbl := fun w h => by
  rw [List.mem_singleton.mp (show w ∈ [Cond.code yL_act cL_act 21 (some .boolean)] from h)]
  exact List.mem_append_right _ (List.mem_of_getElem? (i := 313) rfl)
set_option maxRecDepth 20000 in
theorem lwin_r3 : ∀ w ∈ wsL_law0_r3, w ∈ lw_tbl := in_cut 1 (by decide +kernel) (in_cut 1 lwin_r3a lwin_r3b)
set_option maxRecDepth 20000 in
theorem lwin_r4 : ∀ w ∈ wsL_law0_r4, w ∈ lw_tbl := by decide +kernel
set_option maxRecDepth 20000 in
theorem lwin_r5 : ∀ w ∈ wsL_law0_r5, w ∈ lw_tbl := by decide +kernel
set_option maxRecDepth 20000 in
theorem lwin_r6 : ∀ w ∈ wsL_law0_r6, w ∈ lw_tbl := by decide +kernel
set_option maxRecDepth 20000 in
theorem lwin_r7 : ∀ w ∈ wsL_law0_r7, w ∈ lw_tbl := by decide +kernel
set_option maxRecDepth 20000 in
theorem lwin_r8 : ∀ w ∈ wsL_law0_r8, w ∈ lw_tbl := by decide +kernel
set_option maxRecDepth 20000 in
theorem lwin_r9 : ∀ w ∈ wsL_law0_r9, w ∈ lw_tbl := by decide +kernel
set_option maxRecDepth 20000 in
theorem lwin_r10 : ∀ w ∈ wsL_law0_r10, w ∈ lw_tbl := by decide +kernel
set_option maxRecDepth 20000 in
theorem lwin_r11 : ∀ w ∈ wsL_law0_r11, w ∈ lw_tbl := by decide +kernel
set_option maxRecDepth 20000 in
theorem lwin_r12 : ∀ w ∈ wsL_law0_r12, w ∈ lw_tbl := by decide +kernel
set_option maxRecDepth 20000 in
theorem lwin_r13 : ∀ w ∈ wsL_law0_r13, w ∈ lw_tbl := by decide +kernel
set_option maxRecDepth 20000 in
theorem lwin_X10 : ∀ w ∈ wsX10, w ∈ lw_tbl := by decide +kernel
set_option maxRecDepth 20000 in
theorem lwin_X00 : ∀ w ∈ wsX00, w ∈ lw_tbl := by decide +kernel
set_option maxRecDepth 20000 in
theorem lwin_X30 : ∀ w ∈ wsX30, w ∈ lw_tbl := by decide +kernel
set_option maxRecDepth 20000 in
theorem lwin_X40 : ∀ w ∈ wsX40, w ∈ lw_tbl := by decide +kernel
set_option maxRecDepth 20000 in
theorem lwin_X20 : ∀ w ∈ wsX20, w ∈ lw_tbl := by decide +kernel
set_option maxRecDepth 20000 in
theorem lwin_x6 : ∀ w ∈ ([] : List Cond), w ∈ lw_tbl := by decide +kernel
set_option maxRecDepth 20000 in
theorem lwin_x7 : ∀ w ∈ (vx_atS RX1 39 "java/lang/IllegalStateException" ["java/lang/RuntimeException", "java/lang/Exception"]).filter goodWord, w ∈ lw_tbl := by decide +kernel
set_option maxRecDepth 20000 in
theorem lwin_x8 : ∀ w ∈ (vx_atS RX1 119 "java/lang/IllegalArgumentException" ["java/lang/RuntimeException", "java/lang/Exception"]).filter goodWord, w ∈ lw_tbl := by decide +kernel
set_option maxRecDepth 20000 in
theorem lwin_x9 : ∀ w ∈ (vx_atS RX1 114 "java/lang/IndexOutOfBoundsException" ["java/lang/RuntimeException", "java/lang/Exception"]).filter goodWord, w ∈ lw_tbl := by decide +kernel
theorem wsL_law_in : ∀ w ∈ wsL_law, w ∈ lw_tbl := (in_app (in_app (in_app (in_app (in_app (in_app (in_app (in_app (in_app (in_app lwin_r1 (in_app lwin_r2 (in_app lwin_r3 (in_app lwin_r4 (in_app lwin_r5 (in_app lwin_r6 (in_app lwin_r7 (in_app lwin_r8 (in_app lwin_r9 (in_app lwin_r10 (in_app lwin_r11 (in_app lwin_r12 lwin_r13)))))))))))) lwin_X10) lwin_X00) lwin_X30) lwin_X40) lwin_X20) lwin_x6) lwin_x7) lwin_x8) lwin_x9)
