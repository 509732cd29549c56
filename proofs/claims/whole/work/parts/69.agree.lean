/-! PART 69: every call agrees -/
section AGO
variable {l : Launch} {z : QZ} {σ : Nat → QLs} {S : QLs} {M : QMs} {f : Nat → Int64} {D : Nat}
theorem i_of {x : Int32} {a b : Nat} (hb : b < 2147483648) (h : nI a ≤ x ∧ x ≤ nI b) (ha : a ≤ b) : ∃ j, a ≤ j ∧ j ≤ b ∧ x = nI j := by
  have h0 : ¬ x < 0 := fun q => by
    have h1 := Int32.lt_iff_toInt_lt.mp q
    have h2 := Int32.le_iff_toInt_le.mp h.1
    rw [nI_toInt (by omega)] at h2; rw [i_0] at h1; omega
  obtain ⟨j, hj, rfl⟩ := nI_of2 (nI_toInt hb) h0 h.2
  exact ⟨j, (nI_leI (by omega) (by omega)).mp h.1, hj, rfl⟩
theorem ag_build (hlt : l.stackTraces = false) (h : RR D S M) (hz : ZZ S) (hD : D + 200 < 1000000) (x y v : Int32) : AG l z σ S M f D yL_build wsL_build [.ref (za z 0), .int x, .int y, .int v, .ref (za z 59)] yX2_build wsX2_build [.ref (za z 55), .int x, .int y, .int v] := by
  have hk := h.1; have hm := h.mok; have et := h.2.1; have ep := h.2.2.1; have k1 := hk.1; have k2 := hk.2.1
  by_cases h9 : (0 ≤ x ∧ x ≤ 99) ∧ (0 ≤ y ∧ y ≤ 20) ∧ (0 ≤ v ∧ v ≤ 20)
  · by_cases ht : qt S < 10
    · exact ag_ok (c_L_build_ok l hlt z σ S M f hk ht x y v h9) (by decide) (c_X2_build_ok l z M hm (by omega) x y v h9) (by decide) (by rw [et]) rfl (((h.uh_ 0).build hz ht h9).1.mono (by omega)) ((h.uh_ 0).build hz ht h9).2
    · exact ag_no (c_L_build_no2 l hlt z σ S M f hk (by omega) x y v h9) (by decide) (c_X2_build_no2 l z M hm (by omega) x y v h9) (by decide) (by decide) h hz
  · exact ag_no (c_L_build_no l hlt z σ S M f x y v h9) (by decide) (c_X2_build_no l z M hm x y v h9) (by decide) (by decide) h hz
theorem ag_lay (hlt : l.stackTraces = false) (h : RR D S M) (hz : ZZ S) (hD : D + 200 < 1000000) (x y v w : Int32) : AG l z σ S M f D yL_lay wsL_lay [.ref (za z 0), .int x, .int y, .int v, .int w, .ref (za z 59)] yX2_lay wsX2_lay [.ref (za z 55), .int x, .int y, .int v, .int w] := by
  have hk := h.1; have hm := h.mok; have et := h.2.1; have ep := h.2.2.1; have k1 := hk.1; have k2 := hk.2.1
  by_cases qx : qin x (qt S)
  · obtain ⟨i, hi, rfl⟩ := qin_of (by omega) qx
    by_cases qy : qin y (qt S)
    · obtain ⟨j, hj, rfl⟩ := qin_of (by omega) qy
      by_cases h9 : i ≠ j ∧ (1 ≤ v ∧ v ≤ 20) ∧ (0 ≤ w ∧ w ≤ 60)
      · by_cases hp : qp S < 14
        · exact ag_ok (c_L_lay_ok l hlt z σ S M f hk i hi j hj hp h9.1 v w h9.2) (by decide) (c_X2_lay_ok l z M hm i (by omega) j (by omega) (by omega) h9.1 v w h9.2) (by decide) (by rw [ep]) rfl (((h.uh_ 0).lay hz hp hi hj h9.1 h9.2).1.mono (by omega)) ((h.uh_ 0).lay hz hp hi hj h9.1 h9.2).2
        · exact ag_no (c_L_lay_no3 l hlt z σ S M f hk i hi j hj (by omega) h9.1 v w h9.2) (by decide) (c_X2_lay_no3 l z M hm i (by omega) j (by omega) (by omega) h9.1 v w h9.2) (by decide) (by decide) h hz
      · exact ag_no (c_L_lay_no2 l hlt z σ S M f hk i hi j hj v w h9) (by decide) (c_X2_lay_no2 l z M hm i (by omega) j (by omega) v w h9) (by decide) (by decide) h hz
    · exact ag_no (c_L_lay_no1 l hlt z σ S M f hk i hi y v w qy) (by decide) (c_X2_lay_no l z M hm (nI i) y v w (fun q => qy (by rw [← et]; exact q.2))) (by decide) (by decide) h hz
  · exact ag_no (c_L_lay_no l hlt z σ S M f hk x y v w qx) (by decide) (c_X2_lay_no l z M hm x y v w (fun q => qx (by rw [← et]; exact q.1))) (by decide) (by decide) h hz
theorem ag_set (hlt : l.stackTraces = false) (h : RR D S M) (hz : ZZ S) (hD : D + 200 < 1000000) (x y v : Int32) : AG l z σ S M f D yL_set wsL_set [.ref (za z 0), .int x, .int y, .int v, .ref (za z 59)] yX2_set wsX2_set [.ref (za z 55), .int x, .int y, .int v] := by
  have hk := h.1; have hm := h.mok; have et := h.2.1; have ep := h.2.2.1; have k1 := hk.1; have k2 := hk.2.1
  by_cases qx : qin x (qt S)
  · obtain ⟨i, hi, rfl⟩ := qin_of (by omega) qx
    by_cases h9 : (0 ≤ y ∧ y ≤ 20) ∧ (0 ≤ v ∧ v ≤ 20)
    · exact ag_ok (c_L_set_ok l hlt z σ S M f hk i hi y v h9) (by decide) (c_X2_set_ok l z M hm i (by omega) y v h9.1 h9.2) (by decide) (by rw [h.at_ hi (by decide), h.at_ hi (by decide)]) rfl (((h.uh_ 0).set hi h9.1 h9.2).mono (by omega)) ((hz.ext (ext_sT hi)).ext (ext_sT hi))
    · exact ag_no (c_L_set_no2 l hlt z σ S M f hk i hi y v h9) (by decide) (c_X2_set_no2 l z M hm i (by omega) y v h9) (by decide) (by decide) h hz
  · exact ag_no (c_L_set_no l hlt z σ S M f hk x y v qx) (by decide) (c_X2_set_no l z M hm x y v (fun q => qx (by rw [← et]; exact q))) (by decide) (by decide) h hz
theorem ag_flush (hlt : l.stackTraces = false) (h : RR D S M) (hz : ZZ S) (hD : D + 200 < 1000000) (x : Int32) : AG l z σ S M f D yL_flush wsL_flush [.ref (za z 0), .int x, .ref (za z 59)] yX2_flush wsX2_flush [.ref (za z 55), .int x] := by
  have hk := h.1; have hm := h.mok; have et := h.2.1; have ep := h.2.2.1; have k1 := hk.1; have k2 := hk.2.1
  by_cases qx : qin x (qt S)
  · obtain ⟨i, hi, rfl⟩ := qin_of (by omega) qx
    exact ag_ok (c_L_flush_ok l hlt z σ S M f hk i hi) (by decide) (c_X2_flush_ok l z M hm i (by omega)) (by decide) (h.at_ hi (by decide)) rfl (((h.uh_ 0).flush hi).mono (by omega)) ((hz.ext (ext_sT hi)).ext (ext_sT hi))
  · exact ag_no (c_L_flush_no l hlt z σ S M f hk x qx) (by decide) (c_X2_flush_no l z M hm x (fun q => qx (by rw [← et]; exact q))) (by decide) (by decide) h hz
theorem ag_scrape (hlt : l.stackTraces = false) (h : RR D S M) (hz : ZZ S) (hD : D + 200 < 1000000) (x : Int32) : AG l z σ S M f D yL_scrape wsL_scrape [.ref (za z 0), .int x, .ref (za z 59)] yX2_scrape wsX2_scrape [.ref (za z 55), .int x] := by
  have hk := h.1; have hm := h.mok; have et := h.2.1; have ep := h.2.2.1; have k1 := hk.1; have k2 := hk.2.1
  by_cases qx : qin x (qp S)
  · obtain ⟨i, hi, rfl⟩ := qin_of (by omega) qx
    exact ag_ok (c_L_scrape_ok l hlt z σ S M f hk i hi) (by decide) (c_X2_scrape_ok l z M hm i (by omega)) (by decide) (h.bt_ hi (by decide)) rfl (((h.uh_ 0).scrape hi).mono (by omega)) (hz.ext (ext_sP hi))
  · exact ag_no (c_L_scrape_no l hlt z σ S M f hk x qx) (by decide) (c_X2_scrape_no l z M hm x (fun q => qx (by rw [← ep]; exact q))) (by decide) (by decide) h hz
theorem ag_steal (hlt : l.stackTraces = false) (h : RR D S M) (hz : ZZ S) (hD : D + 200 < 1000000) (x y : Int32) : AG l z σ S M f D yL_steal wsL_steal [.ref (za z 0), .int x, .int y, .ref (za z 59)] yX2_steal wsX2_steal [.ref (za z 55), .int x, .int y] := by
  have hk := h.1; have hm := h.mok; have et := h.2.1; have ep := h.2.2.1; have k1 := hk.1; have k2 := hk.2.1
  by_cases qx : qin x (qp S)
  · obtain ⟨i, hi, rfl⟩ := qin_of (by omega) qx
    by_cases h9 : 0 ≤ y ∧ y ≤ 9
    · exact ag_ok (c_L_steal_ok l hlt z σ S M f hk i hi y h9) (by decide) (c_X2_steal_ok l z M hm i (by omega) y h9) (by decide) (h.tap hi) rfl (((h.uh_ 0).steal hi h9).mono (by omega)) (hz.ext (ext_sP hi))
    · exact ag_no (c_L_steal_no2 l hlt z σ S M f hk i hi y h9) (by decide) (c_X2_steal_no2 l z M hm i (by omega) y h9) (by decide) (by decide) h hz
  · exact ag_no (c_L_steal_no l hlt z σ S M f hk x y qx) (by decide) (c_X2_steal_no l z M hm x y (fun q => qx (by rw [← ep]; exact q))) (by decide) (by decide) h hz
theorem ag_tank (hlt : l.stackTraces = false) (h : RR D S M) (hz : ZZ S) (hD : D + 200 < 1000000) (x y : Int32) : AG l z σ S M f D yL_tank wsL_tank [.ref (za z 0), .int x, .int y, .ref (za z 59)] yX2_tank wsX2_tank [.ref (za z 55), .int x, .int y] := by
  have hk := h.1; have hm := h.mok; have et := h.2.1; have ep := h.2.2.1; have k1 := hk.1; have k2 := hk.2.1
  by_cases qx : qin x (qt S)
  · obtain ⟨i, hi, rfl⟩ := qin_of (by omega) qx
    by_cases h9 : 0 ≤ y ∧ y ≤ 7
    · obtain ⟨k, -, hk9, rfl⟩ := i_of (a := 0) (b := 7) (by decide) h9 (by decide)
      exact ag_ok (c_L_tank_ok l hlt z σ S M f hk i hi k (by omega)) (by decide) (c_X2_tank_ok l z M hm i (by omega) k (by omega)) (by decide) (h.at_ hi (by omega)) rfl ((h.uh_ 0).mono (by omega)) hz
    · exact ag_no (c_L_tank_no2 l hlt z σ S M f hk i hi y h9) (by decide) (c_X2_tank_no l z M hm (nI i) y (fun q => h9 q.2)) (by decide) (by decide) h hz
  · exact ag_no (c_L_tank_no l hlt z σ S M f hk x y qx) (by decide) (c_X2_tank_no l z M hm x y (fun q => qx (by rw [← et]; exact q.1))) (by decide) (by decide) h hz
theorem ag_pipe (hlt : l.stackTraces = false) (h : RR D S M) (hz : ZZ S) (hD : D + 200 < 1000000) (x y : Int32) : AG l z σ S M f D yL_pipe wsL_pipe [.ref (za z 0), .int x, .int y, .ref (za z 59)] yX2_pipe wsX2_pipe [.ref (za z 55), .int x, .int y] := by
  have hk := h.1; have hm := h.mok; have et := h.2.1; have ep := h.2.2.1; have k1 := hk.1; have k2 := hk.2.1
  by_cases qx : qin x (qp S)
  · obtain ⟨i, hi, rfl⟩ := qin_of (by omega) qx
    by_cases h9 : 0 ≤ y ∧ y ≤ 8
    · obtain ⟨k, -, hk9, rfl⟩ := i_of (a := 0) (b := 8) (by decide) h9 (by decide)
      exact ag_ok (c_L_pipe_ok l hlt z σ S M f hk i hi k (by omega)) (by decide) (c_X2_pipe_ok l z M hm i (by omega) k (by omega)) (by decide) (h.told hi (by omega)) rfl ((h.uh_ 0).mono (by omega)) hz
    · exact ag_no (c_L_pipe_no2 l hlt z σ S M f hk i hi y h9) (by decide) (c_X2_pipe_no l z M hm (nI i) y (fun q => h9 q.2)) (by decide) (by decide) h hz
  · exact ag_no (c_L_pipe_no l hlt z σ S M f hk x y qx) (by decide) (c_X2_pipe_no l z M hm x y (fun q => qx (by rw [← ep]; exact q.1))) (by decide) (by decide) h hz
theorem ag_count (hlt : l.stackTraces = false) (h : RR D S M) (hz : ZZ S) (hD : D + 200 < 1000000) (x : Int32) : AG l z σ S M f D yL_count wsL_count [.ref (za z 0), .int x, .ref (za z 59)] yX2_count wsX2_count [.ref (za z 55), .int x] := by
  have hk := h.1; have hm := h.mok; have et := h.2.1; have ep := h.2.2.1; have k1 := hk.1; have k2 := hk.2.1
  by_cases h9 : 0 ≤ x ∧ x ≤ 8
  · obtain ⟨k, -, hk9, rfl⟩ := i_of (a := 0) (b := 8) (by decide) h9 (by decide)
    exact ag_ok (c_L_count_ok l hlt z σ S M f hk k hk9) (by decide) (c_X2_count_ok l z M hm k hk9) (by decide) (h.count k) rfl ((h.uh_ 0).mono (by omega)) hz
  · exact ag_no (c_L_count_no l hlt z σ S M f hk x h9) (by decide) (c_X2_count_no l z M hm x h9) (by decide) (by decide) h hz
theorem ag_reach (hlt : l.stackTraces = false) (h : RR D S M) (hz : ZZ S) (hD : D + 200 < 1000000) (x : Int32) : AG l z σ S M f D yL_reach wsL_reach [.ref (za z 0), .int x, .ref (za z 59)] yX2_reach wsX2_reach [.ref (za z 55), .int x] := by
  have hk := h.1; have hm := h.mok; have et := h.2.1; have ep := h.2.2.1; have k1 := hk.1; have k2 := hk.2.1
  by_cases qx : qin x (qt S)
  · obtain ⟨i, hi, rfl⟩ := qin_of (by omega) qx
    exact ag_ok (c_L_reach_ok l hlt z σ S M f hk i hi) (by decide) (c_X2_reach_ok l z M hm i (by omega)) (by decide) (h.reach _) rfl ((h.uh_ 0).mono (by omega)) hz
  · exact ag_no (c_L_reach_no l hlt z σ S M f hk x qx) (by decide) (c_X2_reach_no l z M hm x (fun q => qx (by rw [← et]; exact q))) (by decide) (by decide) h hz
theorem ag_pass (hlt : l.stackTraces = false) (h : RR D S M) (hz : ZZ S) (hD : D + 200 < 1000000) (x : Int32) : AG l z σ S M f D yL_pass wsL_pass [.ref (za z 0), .int x, .ref (za z 59)] yX2_pass wsX2_pass [.ref (za z 55), .int x] := by
  have hk := h.1; have hm := h.mok; have et := h.2.1; have ep := h.2.2.1; have k1 := hk.1; have k2 := hk.2.1
  by_cases h9 : 1 ≤ x ∧ x ≤ 100
  · obtain ⟨n, n1, n2, rfl⟩ := i_of (a := 1) (b := 100) (by decide) h9 (by decide)
    have hd := s_days (h.uh_ 0) n (by omega)
    exact ag_ok (c_L_pass_ok l hlt z σ S M f hk n n1 n2) (by decide) (c_X2_pass_ok l z M hm n n1 n2) (by decide) (by rw [hd.all (by decide), h.all (by decide)]) (mshp_days _ n).2.2.2 (hd.mono (by omega)) (hz.ext (ext_days hk n))
  · exact ag_no (c_L_pass_no l hlt z σ S M f hk x h9) (by decide) (c_X2_pass_no l z M hm x h9) (by decide) (by decide) h hz
theorem ag_foresee (hlt : l.stackTraces = false) (h : RR D S M) (hz : ZZ S) (hD : D + 200 < 1000000) (x y : Int32) : AG l z σ S M f D yL_foresee wsL_foresee [.ref (za z 0), .int x, .int y, .ref (za z 59)] yX2_foresee wsX2_foresee [.ref (za z 55), .int x, .int y] := by
  have hk := h.1; have hm := h.mok; have et := h.2.1; have ep := h.2.2.1; have k1 := hk.1; have k2 := hk.2.1
  by_cases h9 : 1 ≤ x ∧ x ≤ 100
  · by_cases h8 : 0 ≤ y ∧ y ≤ 3
    · obtain ⟨n, n1, n2, rfl⟩ := i_of (a := 1) (b := 100) (by decide) h9 (by decide)
      obtain ⟨k, -, hk9, rfl⟩ := i_of (a := 0) (b := 3) (by decide) h8 (by decide)
      exact ag_ex (c_L_foresee_ok l hlt z σ S M f hk n n1 n2 k hk9) (by decide) (c_X2_foresee_ok l z M hm n n1 n2 k hk9) (by decide) ((h.uh_ 0).fore (σ 1) (by omega)) rfl ((h.uh_ 0).mono (by omega)) hz
    · exact ag_no (c_L_foresee_no2 l hlt z σ S M f hk x y h9 h8) (by decide) (c_X2_foresee_no2 l z M hm x y h9 h8) (by decide) (by decide) h hz
  · exact ag_no (c_L_foresee_no l hlt z σ S M f hk x y h9) (by decide) (c_X2_foresee_no l z M hm x y h9) (by decide) (by decide) h hz
theorem ag_advise (hlt : l.stackTraces = false) (h : RR D S M) (hz : ZZ S) (hD : D + 200 < 1000000) (x : Int32) : AG l z σ S M f D yL_advise wsL_advise [.ref (za z 0), .int x, .ref (za z 59)] yX2_advise wsX2_advise [.ref (za z 55), .int x] := by
  have hk := h.1; have hm := h.mok; have et := h.2.1; have ep := h.2.2.1; have k1 := hk.1; have k2 := hk.2.1
  by_cases h9 : 1 ≤ x ∧ x ≤ 60
  · obtain ⟨n, n1, n2, rfl⟩ := i_of (a := 1) (b := 60) (by decide) h9 (by decide)
    exact ag_ex (c_L_advise_ok l hlt z σ S M f hk n n1 n2) (by decide) (c_X2_advise_ok l z M hm n n1 n2) (by decide) (by rw [ep]; exact ((h.uh_ 0).adv (σ 1) (by omega) _ (Nat.le_refl _)).1) rfl ((h.uh_ 0).mono (by omega)) hz
  · exact ag_no (c_L_advise_no l hlt z σ S M f hk x h9) (by decide) (c_X2_advise_no l z M hm x h9) (by decide) (by decide) h hz
theorem ag_sated (hlt : l.stackTraces = false) (h : RR D S M) (hz : ZZ S) (hD : D + 200 < 1000000) (x : Int32) : AG l z σ S M f D yL_sated wsL_sated [.ref (za z 0), .int x, .ref (za z 59)] yX2_sated wsX2_sated [.ref (za z 55), .int x] := by
  have hk := h.1; have hm := h.mok; have et := h.2.1; have ep := h.2.2.1; have k1 := hk.1; have k2 := hk.2.1
  by_cases qx : qin x (qt S)
  · obtain ⟨i, hi, rfl⟩ := qin_of (by omega) qx
    exact ag_ex (c_L_sated_ok l hlt z σ S M f hk i hi) (by decide) (c_X2_sated_ok l z M hm i (by omega)) (by decide) ((((h.uh_ 0).copy (σ 1)).sat (by rw [(cpy_all S (σ 1)).1]; exact hi) 100 0 (by omega))) rfl ((h.uh_ 0).mono (by omega)) hz
  · exact ag_no (c_L_sated_no l hlt z σ S M f hk x qx) (by decide) (c_X2_sated_no l z M hm x (fun q => qx (by rw [← et]; exact q))) (by decide) (by decide) h hz
end AGO
