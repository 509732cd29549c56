/-! PART 07: what the class's methods do, as functions -/
theorem q_inc (i k : Nat) : nI i + Int32.ofInt (k : Int) = nI (i + k) := by
  have h : Int32.ofInt (k : Int) = nI k := by
    unfold nI
    rfl
  rw [h]; exact nI_add i k
def itN {α : Type} (f : Nat → α → α) : Nat → α → α
  | 0, a => a
  | n + 1, a => f n (itN f n a)
def qsum (f : Nat → Int32) : Nat → Int32
  | 0 => 0
  | n + 1 => qsum f n + f n
def takeW (r : Nat → Int32) (x : Int32) : Nat → Int32 := upd (upd r 3 (r 3 + x - qmax 0 (r 3 + x - 200))) 7 (upd r 3 (r 3 + x - qmax 0 (r 3 + x - 200)) 7 + qmax 0 (r 3 + x - 200))
def takeM (r : Nat → Int32) (x : Int32) : Nat → Int32 := upd r 4 (qmin 99 (r 4 + x))
def feedR (r : Nat → Int32) : Nat → Int32 := takeM (takeW r (r 1)) (takeW r (r 1) 1 / 4)
def drinkR (r : Nat → Int32) : Nat → Int32 :=
  let k : Int32 := if r 4 < 50 then r 2 else r 2 / 2
  let x : Int32 := qmin k (r 3)
  let r1 := upd r 3 (r 3 - x)
  let r2 := upd r1 5 x
  upd r2 6 (r2 6 + x)
def headR (r : Nat → Int32) : Int32 := 10 * r 0 + r 3
def wander (S : QLs) (f t : Nat) (x : Int32) : QLs :=
  if 0 < qT S f 3 then
    let y : Int32 := qT S f 4 * x / qT S f 3
    let S1 := sT S f (upd (qT S f) 4 (qT S f 4 - y))
    sT S1 t (takeM (qT S1 t) y)
  else S
theorem q_add {x y : Int32} {a b : Nat} (hx : x = nI a) (hy : y = nI b) : x + y = nI (a + b) := by rw [hx, hy]; exact nI_add a b
theorem q_mul {x y : Int32} {a b : Nat} (hx : x = nI a) (hy : y = nI b) : x * y = nI (a * b) := by rw [hx, hy]; exact pk_mul a b
def qf (S : QLs) (k : Nat) : Nat := (qP S k 0).toNatClampNeg
def qo (S : QLs) (k : Nat) : Nat := (qP S k 1).toNatClampNeg
/-- the land is in order: its pipes lead from tank to another tank -/
def LOk (S : QLs) : Prop := qt S ≤ 10 ∧ qp S ≤ 14 ∧ ∀ k, k < qp S → qf S k < qt S ∧ qo S k < qt S ∧ qf S k ≠ qo S k ∧ qP S k 0 = nI (qf S k) ∧ qP S k 1 = nI (qo S k)
def canF (S : QLs) (k : Nat) : Int32 :=
  let d := headR (qT S (qf S k)) - headR (qT S (qo S k))
  if d ≤ 0 then 0 else if qP S k 3 ≤ d then qmin (qmin (qmax 0 (qP S k 2 - qP S k 4)) (d / 10 + 1)) (qT S (qf S k) 3) else 0
def ofPipeL (S : QLs) (k w : Nat) : Int32 := if w = 8 then canF S k else qP S k w
def flowL (S : QLs) (k : Nat) : QLs :=
  let x := canF S k
  let y := qmin (qP S k 9) x
  let S1 := wander S (qf S k) (qo S k) x
  let S2 := sT S1 (qf S k) (upd (qT S1 (qf S k)) 3 (qT S1 (qf S k) 3 - x))
  let S3 := sT S2 (qo S k) (takeW (qT S2 (qo S k)) (x - y))
  let S4 := sP S3 k (upd (qP S3 k) 5 x)
  let S5 := sP S4 k (upd (qP S4 k) 6 y)
  sP S5 k (upd (qP S5 k) 7 (qP S5 k 7 + y))
def crustL (S : QLs) (k : Nat) : QLs := if qP S k 5 ≤ 0 then S else sP S k (upd (qP S k) 4 (qmin 20 (qP S k 4 + 1)))
abbrev feedF : Nat → QLs → QLs := fun i X => sT X i (feedR (qT X i))
abbrev flowF : Nat → QLs → QLs := fun k X => flowL X k
abbrev crustF : Nat → QLs → QLs := fun k X => crustL X k
abbrev drinkF : Nat → QLs → QLs := fun i X => sT X i (drinkR (qT X i))
def crustAll (S : QLs) : QLs := itN crustF (qp S) S
def dayL (S : QLs) : QLs :=
  let S1 := itN feedF (qt S) S
  let S2 := itN flowF (qp S1) S1
  let S3 := if qD S2 - qD S2 / 4 * 4 = 0 then crustAll S2 else S2
  let S4 := itN drinkF (qt S3) S3
  sD S4 (qD S4 + 1)
abbrev dayF : Nat → QLs → QLs := fun _ X => dayL X
def sumT (S : QLs) (k : Nat) : Int32 := qsum (fun j => qT S j k) (qt S)
def sumP (S : QLs) (k : Nat) : Int32 := qsum (fun j => qP S j k) (qp S)
def qthc (S : QLs) : Nat → Int32
  | 0 => 0
  | n + 1 => if qT S n 5 < qT S n 2 then qthc S n + 1 else qthc S n
def ofAllL (S : QLs) : Nat → Int32
  | 0 => qD S
  | 1 => nI (qt S)
  | 2 => nI (qp S)
  | 3 => sumT S 3
  | 4 => sumT S 4
  | 5 => sumT S 6
  | 6 => sumP S 7
  | 7 => sumT S 7
  | _ => qthc S (qt S)
def addT (S : QLs) (x y v : Int32) : QLs := st_ (sT S (qt S) (upd (upd (upd (qT S (qt S)) 0 x) 1 y) 2 v)) (qt S + 1)
def addP (S : QLs) (x y v w : Int32) : QLs := sp_ (sP S (qp S) (upd (upd (upd (upd (qP S (qp S)) 0 x) 1 y) 2 v) 3 w)) (qp S + 1)
def rStep (S : QLs) (x : Int32) (k : Nat) (r : Int32) : Int32 :=
  if qP S k 0 = x then r ||| (1 <<< (qP S k 1 &&& 31)) else if r &&& (1 <<< (qP S k 0 &&& 31)) = 0 then r else r ||| (1 <<< (qP S k 1 &&& 31))
def rRound (S : QLs) (x : Int32) (r : Int32) : Int32 := itN (rStep S x) (qp S) r
def reachL (S : QLs) (x : Int32) : Int32 := itN (fun _ r => rRound S x r) (qt S) 0
/-- the same shape: counts, and where each pipe leads -/
def Shp (S S2 : QLs) : Prop := qt S2 = qt S ∧ qp S2 = qp S ∧ ∀ k, qP S2 k 0 = qP S k 0 ∧ qP S2 k 1 = qP S k 1
theorem Shp.rf {S : QLs} : Shp S S := ⟨rfl, rfl, fun _ => ⟨rfl, rfl⟩⟩
theorem Shp.trans {S S2 S3 : QLs} (h : Shp S S2) (h2 : Shp S2 S3) : Shp S S3 := ⟨h2.1.trans h.1, h2.2.1.trans h.2.1, fun k => ⟨(h2.2.2 k).1.trans (h.2.2 k).1, (h2.2.2 k).2.trans (h.2.2 k).2⟩⟩
theorem Shp.ok {S S2 : QLs} (h : Shp S S2) (hk : LOk S) : LOk S2 := by
  obtain ⟨h1, h2, h3⟩ := h
  obtain ⟨k1, k2, k3⟩ := hk
  have e0 : ∀ k, qf S2 k = qf S k := fun k => by unfold qf; rw [(h3 k).1]
  have e1 : ∀ k, qo S2 k = qo S k := fun k => by unfold qo; rw [(h3 k).2]
  refine ⟨by rw [h1]; exact k1, by rw [h2]; exact k2, fun k hk => ?_⟩
  rw [h2] at hk
  rw [e0, e1, h1, (h3 k).1, (h3 k).2]
  exact k3 k hk
theorem shp_sT {S : QLs} {i : Nat} {r : Nat → Int32} : Shp S (sT S i r) := ⟨rfl, rfl, fun _ => ⟨rfl, rfl⟩⟩
theorem shp_sD {S : QLs} {d : Int32} : Shp S (sD S d) := ⟨rfl, rfl, fun _ => ⟨rfl, rfl⟩⟩
theorem shp_sP {S : QLs} {i j : Nat} {v : Int32} (hj : 2 ≤ j) : Shp S (sP S i (upd (qP S i) j v)) := by
  refine ⟨rfl, rfl, fun k => ?_⟩
  by_cases e : k = i
  · subst e
    rw [qP_sP]
    exact ⟨pk_un (by omega), pk_un (by omega)⟩
  · rw [qP_sPn _ _ e]; exact ⟨rfl, rfl⟩
theorem shp_it {f : Nat → QLs → QLs} (hf : ∀ i S, Shp S (f i S)) (S : QLs) : ∀ n, Shp S (itN f n S)
  | 0 => Shp.rf
  | n + 1 => (shp_it hf S n).trans (hf n _)
theorem shp_wander {S : QLs} {f t : Nat} {x : Int32} : Shp S (wander S f t x) := by
  unfold wander
  split
  · exact shp_sT.trans shp_sT
  · exact Shp.rf
theorem shp_flow {S : QLs} {k : Nat} : Shp S (flowL S k) := ((((shp_wander.trans shp_sT).trans shp_sT).trans (shp_sP (by decide))).trans (shp_sP (by decide))).trans (shp_sP (by decide))
theorem shp_crust {S : QLs} {k : Nat} : Shp S (crustL S k) := by
  unfold crustL
  split
  · exact Shp.rf
  · exact shp_sP (by decide)
theorem shp_crustAll {S : QLs} : Shp S (crustAll S) := shp_it (f := crustF) (fun _ _ => shp_crust) S _
theorem shp_day (S : QLs) : Shp S (dayL S) := by
  unfold dayL
  refine Shp.trans ?_ shp_sD
  refine Shp.trans ?_ (shp_it (f := drinkF) (fun _ _ => shp_sT) _ _)
  refine Shp.trans ((shp_it (f := feedF) (fun _ _ => shp_sT) S (qt S)).trans (shp_it (f := flowF) (fun _ _ => shp_flow) _ (qp (itN feedF (qt S) S)))) ?_
  show Shp _ (if _ then _ else _)
  split
  · exact shp_crustAll
  · exact Shp.rf
theorem shp_days (S : QLs) (n : Nat) : Shp S (itN dayF n S) := shp_it (f := dayF) (fun _ X => shp_day X) S n
theorem rStep_a {S : QLs} {x r : Int32} {k : Nat} (h : qP S k 0 = x) : rStep S x k r = r ||| (1 <<< (qP S k 1 &&& 31)) := if_pos h
theorem rStep_b {S : QLs} {x r : Int32} {k : Nat} (h : ¬ qP S k 0 = x) (h2 : r &&& (1 <<< (qP S k 0 &&& 31)) = 0) : rStep S x k r = r := (if_neg h).trans (if_pos h2)
theorem rStep_c {S : QLs} {x r : Int32} {k : Nat} (h : ¬ qP S k 0 = x) (h2 : ¬ r &&& (1 <<< (qP S k 0 &&& 31)) = 0) : rStep S x k r = r ||| (1 <<< (qP S k 1 &&& 31)) := (if_neg h).trans (if_neg h2)
