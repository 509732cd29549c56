/-! PART 07: what the class's methods do, as functions -/
theorem q_inc (i k : Nat) : nI i + Int32.ofInt (k : Int) = nI (i + k) := by
  have h : Int32.ofInt (k : Int) = nI k := by
    unfold nI
    rfl
  rw [h]; exact nI_add i k
def itN {α : Type} (f : Nat → α → α) : Nat → α → α
  | 0, a => a
  | n + 1, a => f n (itN f n a)
def qsum (f : Nat → Int32) : Nat → Int32
  | 0 => 0
  | n + 1 => qsum f n + f n
def takeW (r : Nat → Int32) (x : Int32) : Nat → Int32 := upd (upd r 3 (r 3 + x - qmax 0 (r 3 + x - 200))) 7 (upd r 3 (r 3 + x - qmax 0 (r 3 + x - 200)) 7 + qmax 0 (r 3 + x - 200))
def takeM (r : Nat → Int32) (x : Int32) : Nat → Int32 := upd r 4 (qmin 99 (r 4 + x))
def feedR (r : Nat → Int32) : Nat → Int32 := takeM (takeW r (r 1)) (takeW r (r 1) 1 / 4)
def drinkR (r : Nat → Int32) : Nat → Int32 :=
  let k : Int32 := if r 4 < 50 then r 2 else r 2 / 2
  let x : Int32 := qmin k (r 3)
  let r1 := upd r 3 (r 3 - x)
  let r2 := upd r1 5 x
  upd r2 6 (r2 6 + x)
def headR (r : Nat → Int32) : Int32 := 10 * r 0 + r 3
def wander (S : QLs) (f t : Nat) (x : Int32) : QLs :=
  if 0 < qT S f 3 then
    let y : Int32 := qT S f 4 * x / qT S f 3
    let S1 := sT S f (upd (qT S f) 4 (qT S f 4 - y))
    sT S1 t (takeM (qT S1 t) y)
  else S
