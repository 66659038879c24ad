abbrev iaeN : String := "java/lang/IllegalArgumentException"
abbrev iaeU : List String := ["java/lang/RuntimeException", "java/lang/Exception"]
abbrev vxA : List Cond := vx_atS RX0 30 iaeN iaeU
set_option maxRecDepth 100000 in
theorem vxB_nil : vxA.filter (fun w => !goodWord w) = [] := by decide +kernel
set_option maxRecDepth 100000 in
theorem vxA_ot : ∀ w ∈ Cond.classLink RX0 26 iaeN :: Cond.initialized iaeN :: vxA, vx_ot w = true := by decide +kernel
theorem vxA_all {args : Array Value} {s : State} (h : ∀ w ∈ vxA.filter goodWord, w.before args s = true) : ∀ w ∈ vxA, w.before args s = true :=
  vx_hat (B := []) h (fun w hw => by rw [vxB_nil] at hw; exact hw) vx_n
