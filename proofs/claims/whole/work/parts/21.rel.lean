def arm (u : XS) : Int32 := if xn u = 0 then (if xa u = 0 then 0 else 2) else 1
/-- one kept change: the class's number, the reference's four -/
def Row (c r0 r1 r2 r3 : Int32) : Prop := ∃ p f t b : Nat, p < 2 ∧ f < 8 ∧ t < 8 ∧ b < 2 ∧ r0 = nI p ∧ r1 = nI f ∧ r2 = nI t ∧ r3 = nI b ∧ c = (((nI p ||| (nI f <<< ((1 : Int32) &&& 31))) ||| (nI t <<< ((4 : Int32) &&& 31))) ||| pX0_bit (nI b) 128)
def LG (u : XS) (v : MS) : Prop := xc u = nI (min (mk v).toNatClampNeg 300) ∧ ∀ j : Nat, j < min (mk v).toNatClampNeg 300 → Row (xC u j) (mR v (4 * j)) (mR v (4 * j + 1)) (mR v (4 * j + 2)) (mR v (4 * j + 3))
def md8 (x : Int32) : Prop := ∃ a : Nat, a < 8 ∧ x = nI a
def fl10 (x : Int32) : Prop := ∃ a : Nat, a ≤ 10 ∧ x = nI a
/-- the class's state and the reference's say the same -/
def R0 (u : XS) (v : MS) : Prop := ml v = xA u 0 ∧ mv v = xA u 1 ∧ mf v = xF u 0 ∧ mh v = xF u 1 ∧ mV v = xM u ∧ mb v = (if xS u 0 = 0 then 1 else 0) ∧ md v = (if xS u 1 = 0 then 1 else 0) ∧ mr v = xl u ∧ me v = xe u ∧ mw v = xw u ∧ mg v = xg u ∧ ma v = arm u ∧ md8 (xA u 0) ∧ md8 (xA u 1) ∧ fl10 (xF u 0) ∧ fl10 (xF u 1) ∧ LG u v
/-- what holds of the class's state between calls -/
def JJ (u : XS) : Prop := (xg u ≠ 0 → xa u ≠ 0 ∨ xA u 0 = 4) ∧ (xA u 0 = 4 → xn u = 0 ∧ xa u = 0) ∧ (xn u ≠ 0 → xa u = 0)
def RR (u : XS) (v : MS) : Prop := R0 u v ∧ JJ u ∧ (xA u 1 = 6 → xA u 0 = 4)
def SimT (o : Option (Int32 × XS)) (u : XS) (q : Int32 × MS) : Prop := match o with
  | none => mt q.2 = 1 ∧ RR u q.2
  | some (x, u1) => mt q.2 = 0 ∧ q.1 = x ∧ RR u1 q.2
