/-! PART 68: a contract in a larger room, with a weaker end; also for new cells -/
theorem hasRoom_mono {s : State} {pl : Platform} {a b : Room} (h : s.hasRoom pl b = true) (h1 : a.frames ≤ b.frames) (h2 : a.cells ≤ b.cells) (h3 : a.slots ≤ b.slots) (h4 : a.locals ≤ b.locals) : s.hasRoom pl a = true := by
  simp only [State.hasRoom, Bool.and_eq_true, decide_eq_true_eq] at h ⊢
  obtain ⟨⟨⟨⟨hA, q1, q2, q3, q4, q5⟩, hC⟩, hD⟩, hE⟩ := h
  exact ⟨⟨⟨⟨by omega, by omega, by omega, by omega, by omega, q5⟩, by omega⟩, by omega⟩, hE⟩
theorem met_spec {l : Launch} {y : MethodName} {ws : List Cond} {rm rm2 : Room} {Pc : Array Value → State → Prop} {K : Program → Env → List Frame → State → Array Value → Prop} {Q Q2 : Array Value → State → Outcome → State → Prop} (h : MetFree l y (headSpec ws rm) Pc K Q) (h1 : rm.frames ≤ rm2.frames) (h2 : rm.cells ≤ rm2.cells) (h3 : rm.slots ≤ rm2.slots) (h4 : rm.locals ≤ rm2.locals) (hQ : ∀ a s o t, Q a s o t → Q2 a s o t) : MetFree l y (headSpec ws rm2) Pc K Q2 := fun p e ha hb hc s m args below hf hap hp hk => by
  obtain ⟨a1, a2, a3, a4, a5, a6, a7, a8⟩ := (Spec.appliesLoose_iff hf).mp hap
  obtain ⟨n, o, b1, b2, b3, b4⟩ := h p e ha hb hc s m args below hf ((Spec.appliesLoose_iff hf).mpr ⟨a1, a2, a3, a4, a5, a6, hasRoom_mono a7 h1 h2 h3 h4, a8⟩) hp hk
  exact ⟨n, o, b1, b2, b3, hQ _ _ _ _ b4⟩
theorem frameEnd_mono {st t : State} {o : Outcome} {L : List Loc} {mc ms mc2 ms2 : Nat} (h : FrameEnd st o t L mc ms) (h1 : mc ≤ mc2) (h2 : ms ≤ ms2) : FrameEnd st o t L mc2 ms2 := by
  obtain ⟨a, w, b⟩ := h
  exact ⟨a, w, b.mono h1 h2⟩
theorem HC.up {l : Launch} {y : MethodName} {ws : List Cond} {rm rm2 : Room} {z : QZ} {av : List Value} {mc ms : Nat} {a : QWs} {post post2 : Int32 → QWs → Prop} (h : HC l y ws rm z av mc ms a post) (h1 : rm.frames ≤ rm2.frames) (h2 : rm.cells ≤ rm2.cells) (h3 : rm.slots ≤ rm2.slots) (h4 : rm.locals ≤ rm2.locals) (hp : ∀ r u, post r u → post2 r u) : HC l y ws rm2 z av mc ms a post2 := fun ct sz hn hq hat =>
  met_spec (h ct sz hn hq hat) h1 h2 h3 h4 (fun a s o t q => by
    rcases q with ⟨⟨⟨r, u, hv, hpp, hb⟩, hF⟩, hE⟩ | q
    · exact Or.inl ⟨⟨⟨r, u, hv, hp r u hpp, hb⟩, hF⟩, hE⟩
    · exact Or.inr q)
theorem GI.up {l : Launch} {y : MethodName} {ws : List Cond} {rm rm2 : Room} {z : QZ} {av : List Value} {mc ms mc2 ms2 : Nat} {α : Type} {At : α → (Nat → va_E) → Prop} {lo hi : Nat} {a : α} {post post2 : Int32 → α → Prop} (h : GI l y ws rm z av mc ms At lo hi a post) (h1 : rm.frames ≤ rm2.frames) (h2 : rm.cells ≤ rm2.cells) (h3 : rm.slots ≤ rm2.slots) (h4 : rm.locals ≤ rm2.locals) (h5 : mc ≤ mc2) (h6 : ms ≤ ms2) (hp : ∀ r u, post r u → post2 r u) : GI l y ws rm2 z av mc2 ms2 At lo hi a post2 := fun ct sz hn hq hat =>
  met_spec (h ct sz hn hq hat) h1 h2 h3 h4 (fun a s o t q => by
    obtain ⟨⟨⟨r, u, hv, hpp, hb⟩, hF⟩, L, hE, hf⟩ := q
    exact ⟨⟨⟨r, u, hv, hp r u hpp, hb⟩, hF⟩, L, frameEnd_mono hE h5 h6, hf⟩)
abbrev RH9 : Room := { frames := 9, cells := 1, slots := 6, locals := 160 }
abbrev RM9 : Room := { frames := 9, cells := 4, slots := 210, locals := 260 }
/-- class and reference agree on a call: code, answer, the states behind it -/
def AG (l : Launch) (z : QZ) (σ : Nat → QLs) (S : QLs) (M : QMs) (f : Nat → Int64) (D : Nat) (yh : MethodName) (wsh : List Cond) (ah : List Value) (ym : MethodName) (wsm : List Cond) (am : List Value) : Prop :=
  ∃ (k b : Int32) (S2 : QLs) (f2 : Nat → Int64) (M2 : QMs), HC l yh wsh RH9 z ah 1 6 (va_up σ 0 S, M, f) (fun r u => r = k ∧ ∃ σ2, u = (va_up σ2 0 S2, M, f2)) ∧ GI l ym wsm RM9 z am 4 210 (MAt z) 55 59 M (fun r M' => r = b ∧ M' = M2) ∧ mH M2 = k ∧ (k = 0 → f2 0 = b.toInt64) ∧ RR (D + 100) S2 M2 ∧ ZZ S2
section AGS
variable {l : Launch} {z : QZ} {σ : Nat → QLs} {S S2 : QLs} {M M2 : QMs} {f : Nat → Int64} {D : Nat} {yh : MethodName} {wsh : List Cond} {ah : List Value} {ym : MethodName} {wsm : List Cond} {am : List Value} {fr lo fr2 lo2 mc ms : Nat} {b b2 k : Int32}
theorem ag_ok (hh : HC l yh wsh { frames := fr, cells := 1, slots := 6, locals := lo } z ah 1 6 (va_up σ 0 S, M, f) (fun r u => r = 0 ∧ u = (va_up σ 0 S2, M, vp_updL f 0 b.toInt64))) (r1 : fr ≤ 9 ∧ lo ≤ 160) (hm : GI l ym wsm { frames := fr2, cells := mc, slots := ms, locals := lo2 } z am mc ms (MAt z) 55 59 M (fun r M' => r = b2 ∧ M' = M2)) (r2 : fr2 ≤ 9 ∧ mc ≤ 4 ∧ ms ≤ 210 ∧ lo2 ≤ 260) (hb : b2 = b) (hH : mH M2 = 0) (hR : RR (D + 100) S2 M2) (hZ : ZZ S2) : AG l z σ S M f D yh wsh ah ym wsm am :=
  ⟨0, b, S2, vp_updL f 0 b.toInt64, M2, hh.up r1.1 (Nat.le_refl _) (Nat.le_refl _) r1.2 (fun r u h => ⟨h.1, σ, h.2⟩), hm.up r2.1 r2.2.1 r2.2.2.1 r2.2.2.2 r2.2.1 r2.2.2.1 (fun r u h => ⟨h.1.trans hb, h.2⟩), hH, fun _ => if_pos rfl, hR, hZ⟩
theorem ag_ex (hh : HC l yh wsh { frames := fr, cells := 1, slots := 6, locals := lo } z ah 1 6 (va_up σ 0 S, M, f) (fun r u => r = 0 ∧ ∃ S3, u = (va_up (va_up σ 0 S) 1 S3, M, vp_updL f 0 b.toInt64))) (r1 : fr ≤ 9 ∧ lo ≤ 160) (hm : GI l ym wsm { frames := fr2, cells := mc, slots := ms, locals := lo2 } z am mc ms (MAt z) 55 59 M (fun r M' => r = b2 ∧ M' = M2)) (r2 : fr2 ≤ 9 ∧ mc ≤ 4 ∧ ms ≤ 210 ∧ lo2 ≤ 260) (hb : b2 = b) (hH : mH M2 = 0) (hR : RR (D + 100) S M2) (hZ : ZZ S) : AG l z σ S M f D yh wsh ah ym wsm am :=
  ⟨0, b, S, vp_updL f 0 b.toInt64, M2, hh.up r1.1 (Nat.le_refl _) (Nat.le_refl _) r1.2 (fun r u h => ⟨h.1, by obtain ⟨S3, e⟩ := h.2; exact ⟨va_up σ 1 S3, by rw [e, q_c01]⟩⟩), hm.up r2.1 r2.2.1 r2.2.2.1 r2.2.2.2 r2.2.1 r2.2.2.1 (fun r u h => ⟨h.1.trans hb, h.2⟩), hH, fun _ => if_pos rfl, hR, hZ⟩
theorem ag_no (hh : HC l yh wsh { frames := fr, cells := 1, slots := 6, locals := lo } z ah 1 6 (va_up σ 0 S, M, f) (fun r u => r = k ∧ u = (va_up σ 0 S, M, f))) (r1 : fr ≤ 9 ∧ lo ≤ 160) (hm : GI l ym wsm { frames := fr2, cells := mc, slots := ms, locals := lo2 } z am mc ms (MAt z) 55 59 M (fun r M' => r = 0 ∧ M' = uh M k)) (r2 : fr2 ≤ 9 ∧ mc ≤ 4 ∧ ms ≤ 210 ∧ lo2 ≤ 260) (hk : k ≠ 0) (hR : RR D S M) (hZ : ZZ S) : AG l z σ S M f D yh wsh ah ym wsm am :=
  ⟨k, 0, S, f, uh M k, hh.up r1.1 (Nat.le_refl _) (Nat.le_refl _) r1.2 (fun r u h => ⟨h.1, σ, h.2⟩), hm.up r2.1 r2.2.1 r2.2.2.1 r2.2.2.2 r2.2.1 r2.2.2.1 (fun r u h => h), rfl, fun h => absurd h hk, (hR.uh_ k).mono (by omega), hZ⟩
end AGS
