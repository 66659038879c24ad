def loopM : Nat → MS → Int32 → Int32 × MS
  | 0, u, c => (c, u)
  | k + 1, u, c => if pX1_rule u ≤ 0 then (c, u) else loopM k (pX1_comes u (pX1_rule u)) (c + 1)
theorem loopM_s (k : Nat) (u : MS) (c : Int32) : loopM (k + 1) u c = if pX1_rule u ≤ 0 then (c, u) else loopM k (pX1_comes u (pX1_rule u)) (c + 1) := rfl
def doneM : Nat → MS → Prop
  | 0, u => pX1_rule u ≤ 0
  | k + 1, u => ¬ pX1_rule u ≤ 0 → doneM k (pX1_comes u (pX1_rule u))
theorem done20 (u : MS) : doneM 20 u := sorry
