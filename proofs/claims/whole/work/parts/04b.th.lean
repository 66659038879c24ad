abbrev iaeN : String := "java/lang/IllegalArgumentException"
abbrev iaeU : List String := ["java/lang/RuntimeException", "java/lang/Exception"]
abbrev vxA : List Cond := vx_atS RX0 30 iaeN iaeU
/-- the words of the throw that the lists of words don't carry -/
def vxN : List Cond := [.castable iaeN iaeN, .declares (Bundle.initS "java/lang/RuntimeException"), .declares (Bundle.initS "java/lang/Exception"), .declares (Bundle.initS Bundle.tN)]
set_option maxRecDepth 100000 in
theorem vxB_in : ∀ w ∈ vxA.filter (fun w => !goodWord w), w ∈ vxN := by decide +kernel
set_option maxRecDepth 100000 in
theorem vxA_ot : ∀ w ∈ Cond.classLink RX0 26 iaeN :: Cond.initialized iaeN :: vxA, vx_ot w = true := by decide +kernel
theorem vxN_on : ∀ w ∈ vxN, w.onTables = true := by decide +kernel
theorem vxN_face : ∀ w ∈ vxN, w.keepsFace = true := by decide +kernel
theorem vxN_any {A A' : Array Value} {U : State} (h : ∀ w ∈ vxN, w.before A U = true) : ∀ w ∈ vxN, w.before A' U = true := fun w hw => va_any (vxN_on w hw) (h w hw)
theorem vxN_moved {s U : State} (hW : s.WarmedH U.vm) (h : ∀ w ∈ vxN, w.before #[] s = true) : ∀ w ∈ vxN, w.before #[] U = true := fun w hw => by
  have h1 : w.before #[] (s.setVm U.vm) = true := Cond.before_shiftedFace (State.Shifted.of_warmed hW) w (vxN_face w hw) (h w hw)
  rw [Cond.onTables_vm (A' := #[]) (U' := U) U.vm w (vxN_on w hw), State.setVm_self] at h1
  exact h1
theorem vxA_all {args : Array Value} {s : State} (h : ∀ w ∈ vxA.filter goodWord, w.before args s = true) (h2 : ∀ w ∈ vxN, w.before #[] s = true) : ∀ w ∈ vxA, w.before args s = true :=
  vx_hat (B := vxN) h vxB_in (vxN_any h2)
def loV : Nat → Int32 := fun j => ([-1000, -1000, 0, 0, 0, 0, 0] : List Int32).getD j 0
def hiV : Nat → Int32 := fun j => ([1000, 1000, 50000, 50000, 600, 1, 1] : List Int32).getD j 0
/-- what the class's throwing methods need of the start: Throwable's two statics, the texts, the two tables -/
def TW (A : Nat → Prop) (sa : Nat → Nat) (tL tH : Nat) (U : State) : Prop :=
  vx_Zq Bundle.tN "UNASSIGNED_STACK" Bundle.steD A U U.heap ∧ vx_Zq Bundle.tN "SUPPRESSED_SENTINEL" Bundle.listD A U U.heap ∧
  vk_R RX0 28 "no such button" (sa 28) U ∧ vk_R RX0 51 "no such measure" (sa 51) U ∧ vk_R RX0 59 "out of the measure's range" (sa 59) U ∧ vk_R RX0 61 "no such channel" (sa 61) U ∧ vk_R RX0 86 "at least one step" (sa 86) U ∧ vk_R RX0 88 "no such place" (sa 88) U ∧ vk_R RX0 102 "no such mode to arm" (sa 102) U ∧
  va_Z "ModeDesk" "LOWEST" "[I" (.ref tL) A U U.heap ∧ va_T .int tL 7 (fun j => .int (loV j)) A U U.heap ∧ va_Z "ModeDesk" "HIGHEST" "[I" (.ref tH) A U U.heap ∧ va_T .int tH 7 (fun j => .int (hiV j)) A U U.heap ∧ ∀ w ∈ vxN, w.before #[] U = true
theorem TW.moved {A A' : Nat → Prop} {sa : Nat → Nat} {tL tH : Nat} {s U : State} {H0 : Heap} {locs : List Loc} (h : TW A sa tL tH s) (hW : s.WarmedH U.vm) (hS : va_S A s.heap U.heap locs) (hA : ∀ q, A' q → A q) : TW A' sa tL tH U := by
  obtain ⟨h1, h2, s1, s2, s3, s4, s5, s6, s7, z1, t1, z2, t2, n1⟩ := h
  exact ⟨vx_Zq.narrow (vx_Zq.moved hW.alike (h1.kept hS.2.1)) hA, vx_Zq.narrow (vx_Zq.moved hW.alike (h2.kept hS.2.1)) hA, vk_R.warm hW s1, vk_R.warm hW s2, vk_R.warm hW s3, vk_R.warm hW s4, vk_R.warm hW s5, vk_R.warm hW s6, vk_R.warm hW s7,
    va_Z.narrow (va_Z.moved hW.alike (z1.kept hS.2.1)) hA, va_T.narrow (va_T.moved hW.alike (t1.kept hS.2.1)) hA, va_Z.narrow (va_Z.moved hW.alike (z2.kept hS.2.1)) hA, va_T.narrow (va_T.moved hW.alike (t2.kept hS.2.1)) hA, vxN_moved hW n1⟩
theorem TW.same {A : Nat → Prop} {sa : Nat → Nat} {tL tH : Nat} {u U : State} (h : TW A sa tL tH u) (hv : U.vm = u.vm) (hh : U.heap = u.heap) : TW A sa tL tH U := by
  obtain ⟨h1, h2, s1, s2, s3, s4, s5, s6, s7, z1, t1, z2, t2, n1⟩ := h
  have ha : u.vm.Alike U.vm := by rw [hv]; exact Vm.Alike.refl _
  refine ⟨?_, ?_, s1.same hv, s2.same hv, s3.same hv, s4.same hv, s5.same hv, s6.same hv, s7.same hv, ?_, ?_, ?_, ?_, ?_⟩
  · rw [hh]; exact vx_Zq.moved ha h1
  · rw [hh]; exact vx_Zq.moved ha h2
  · rw [hh]; exact va_Z.moved ha z1
  · rw [hh]; exact va_T.moved ha t1
  · rw [hh]; exact va_Z.moved ha z2
  · rw [hh]; exact va_T.moved ha t2
  · intro w hw
    have h9 := n1 w hw
    rw [← State.setVm_self u, ← hv, Cond.onTables_vm (A' := #[]) (U' := U) U.vm w (vxN_on w hw), State.setVm_self] at h9
    exact h9
def PcT (D : va_G) (tys : List (ClassId × FieldType)) (ws : va_W) (sz : Nat) (sa : Nat → Nat) (tL tH : Nat) : State → Prop := fun U => PcW D tys ws sz U ∧ TW (va_A ws sz) sa tL tH U
abbrev Mt {S : Type} (l : Launch) (y : MethodName) (ws : List Cond) (rm : Room) (D : va_G) (tys : List (ClassId × FieldType)) (wf : S → va_W) (sz : Nat) (u : S) (av : List Value) (sa : Nat → Nat) (tL tH : Nat) (post : Int32 → S → Prop) (px : S → Prop) : Prop :=
  vx_Met l y ws rm (va_Pc av (PcT D tys (wf u) sz sa tL tH)) (va_Qi post (BW D tys (va_A (wf u) sz) wf) (va_A (wf u) sz)) (vx_X px (fun E u9 t => E = iaeN ∧ BW D tys (va_A (wf u) sz) wf u9 t) (va_A (wf u) sz)) 1 6 (va_A (wf u) sz)
theorem bl_T {D : va_G} {tys : List (ClassId × FieldType)} {ws : va_W} {sz : Nat} {av : List Value} {sa : Nat → Nat} {tL tH : Nat} : FrameBlind (va_Pc av (PcT D tys ws sz sa tL tH)) := fun a U g mk q => by
  obtain ⟨q0, qw, qt⟩ := q
  exact ⟨q0, (bl_W (av := av) a U g mk ⟨q0, qw⟩).2, qt.same rfl rfl⟩
theorem th_X {S : Type} {D : va_G} {tys : List (ClassId × FieldType)} {A : Nat → Prop} {wf : S → va_W} {u : S} {s : State} {H : Heap} {locs : List Loc} {px : S → Prop} (hP : va_P D vwCl (wf u) H) (hK : va_K D vwCl tys s) (hD : va_D A (wf u)) (hS : va_S A s.heap H locs) (hp : px u) :
    ∀ t : State, s.vm.Alike t.vm → H.size ≤ t.heap.size → (∀ q : Nat, q < H.size → t.heap[q]? = H[q]?) → vx_X px (fun E u9 t => E = iaeN ∧ BW D tys A wf u9 t) A iaeN s t := fun t hvm hz hk =>
  ⟨u, hp, ⟨rfl, hP.kept (fun k q hq => hk q.1 (hP k q hq).lt), va_K.moved hvm hK, hD⟩, Nat.le_trans hS.1 hz, fun q h1 h2 => by rw [hk q (Nat.lt_of_lt_of_le h1 hS.1)]; exact hS.2.1 q h1 h2⟩
