/-! PART 64: what the hand-made land does, as functions -/
def comesR (r : Nat → Int32) (x y : Int32) : Nat → Int32 :=
  let r1 := upd r 3 (r 3 + x)
  let r2 := upd r1 4 (if r1 4 + y ≤ 99 then r1 4 + y else 99)
  if 200 < r2 3 then upd (upd r2 7 (r2 7 + (r2 3 - 200))) 3 200 else r2
def simBy (S : QLs) (k : Nat) : Int32 := 10 * (qT S (qf S k) 0 - qT S (qo S k) 0) + qT S (qf S k) 3 - qT S (qo S k) 3
def simIts (S : QLs) (k : Nat) : Int32 := if qP S k 2 - qP S k 4 ≤ 1 + simBy S k / 10 then qP S k 2 - qP S k 4 else 1 + simBy S k / 10
def simF (S : QLs) (k : Nat) : Int32 :=
  if simBy S k < 1 then 0 else if simBy S k < qP S k 3 then 0 else if qP S k 4 < qP S k 2 then (if simIts S k ≤ qT S (qf S k) 3 then simIts S k else qT S (qf S k) 3) else 0
abbrev sfeedF : Nat → QLs → QLs := fun i S => sT S i (comesR (qT S i) (qT S i 1) (qT S i 1 / 4))
def sflow1 (k : Nat) (S : QLs) : QLs :=
  let S1 := sP S k (upd (qP S k) 5 (simF S k))
  let S2 := sP S1 k (upd (qP S1 k) 6 (if qP S1 k 5 ≤ qP S1 k 9 then qP S1 k 5 else qP S1 k 9))
  sP S2 k (upd (qP S2 k) 7 (qP S2 k 7 + qP S2 k 6))
def sflow2 (k f o : Nat) (S : QLs) : QLs :=
  let w : Int32 := qT S f 4 * qP S k 5 / qT S f 3
  let S4 := sT S f (upd (qT S f) 3 (qT S f 3 - qP S k 5))
  let S5 := sT S4 f (upd (qT S4 f) 4 (qT S4 f 4 - w))
  sT S5 o (comesR (qT S5 o) (qP S5 k 5 - qP S5 k 6) w)
def sflow3 (k : Nat) (S : QLs) : QLs := if qD S - qD S / 4 * 4 = 0 then (if 20 ≤ qP S k 4 then S else sP S k (upd (qP S k) 4 (qP S k 4 + 1))) else S
def sflowF (k : Nat) (S : QLs) : QLs := if qP (sflow1 k S) k 5 = 0 then sflow1 k S else sflow3 k (sflow2 k (qf S k) (qo S k) (sflow1 k S))
def sdrinkF (i : Nat) (S : QLs) : QLs :=
  let S1 := sT S i (upd (qT S i) 5 (if qT S i 4 ≤ 49 then qT S i 2 else qT S i 2 / 2))
  let S2 := if qT S1 i 5 ≤ qT S1 i 3 then S1 else sT S1 i (upd (qT S1 i) 5 (qT S1 i 3))
  let S3 := sT S2 i (upd (qT S2 i) 3 (qT S2 i 3 - qT S2 i 5))
  sT S3 i (upd (qT S3 i) 6 (qT S3 i 6 + qT S3 i 5))
def sdr (S : QLs) : Nat → Int32
  | 0 => 0
  | n + 1 => sdr S n + qT (itN sdrinkF (n + 1) S) n 5
def spass (t q : Nat) (S : QLs) : QLs :=
  let S1 := itN sfeedF t S
  let S2 := itN sflowF q S1
  let S3 := itN sdrinkF t S2
  sD S3 (qD S3 + 1)
theorem shp_sflow1 {S : QLs} {k : Nat} : Shp S (sflow1 k S) := ((shp_sP (by decide)).trans (shp_sP (by decide))).trans (shp_sP (by decide))
theorem shp_sflow2 {S : QLs} {k f o : Nat} : Shp S (sflow2 k f o S) := (shp_sT.trans shp_sT).trans shp_sT
theorem shp_sflow3 {S : QLs} {k : Nat} : Shp S (sflow3 k S) := by
  unfold sflow3
  split
  · split
    · exact Shp.rf
    · exact shp_sP (by decide)
  · exact Shp.rf
theorem shp_sflow {S : QLs} {k : Nat} : Shp S (sflowF k S) := by
  unfold sflowF
  split
  · exact shp_sflow1
  · exact (shp_sflow1.trans shp_sflow2).trans shp_sflow3
theorem shp_sdrink {S : QLs} {i : Nat} : Shp S (sdrinkF i S) := by
  unfold sdrinkF
  refine (Shp.trans ?_ shp_sT).trans shp_sT
  generalize (if qT S i 4 ≤ 49 then qT S i 2 else qT S i 2 / 2) = v
  show Shp S (if _ then _ else _)
  split
  · exact shp_sT
  · exact Shp.trans (shp_sT (S := S) (i := i)) shp_sT
