section CAT
variable {p : Program} {l : Launch} {e : Env} {R : Room} {s : State} {m : MethodId} {args : Array Value} {below : List Frame} {meth : Method} {c : Code} {H : Heap} {locs : List Loc} {cells slots : Nat} {Q : State → Prop}
/-- a thrown cell q over the frame at pc, in a method whose table has the one row x, which takes it: the walk goes on at the handler. (Own proof for a table of one row, over the library's findHandler, ClassLinks, WarmedH.) -/
theorem wx_catch {own name : String} {E : String} {ce : Cell} {q : Addr} {pc : Nat} {ls : Array Slot} {rest : List Value} {x : ExceptionTableEntry} (hown : s.vm.findClass own = some m.cls) (hone : c.exceptionTable.toList = [x]) (hx : covers x pc = true) (h0 : x.catchType ≠ 0)
    (hlink : (Cond.classLink own x.catchType name).before args s = true) (hcast : (Cond.castable E name).before args s = true) (hcell : H[q]? = some ce) (hv : ce.vm = .none) (hcl : s.vm.findClass E = some ce.cls)
    (kk : W p l e R s m args below meth c H locs cells slots Q (F0 m x.handlerPc ls [.ref q])) : vx_W p l e R s m args below meth c H locs cells slots Q (F0 m pc ls rest) q := by
  intro T hT X
  have hpl : e.platform.magicAccessors = ({} : Platform).magicAccessors := by rw [X.admits.platform]
  obtain ⟨c3, c4, hc3, hc4, hasg⟩ := Cond.castable_spec hcast
  cases Option.some.inj (hc3.symm.trans hcl)
  obtain ⟨c5, hc5, hk5⟩ := Cond.classLink_spec hown hlink e.platform hpl
  cases Option.some.inj (hc4.symm.trans hc5)
  obtain ⟨dk, _, _, kt, hd, _, _, _, _, hkt, _, hopen⟩ := hk5.here
  have hWn : s.WarmedH (T.vm.noted m.cls x.catchType (.cls c4)) := X.warmed.noted hd hopen (State.rightAt_cls hk5)
  obtain ⟨t, a1, b1⟩ := kk (T.setVm (T.vm.noted m.cls x.catchType (.cls c4))) hT (X.noted hWn)
  refine ⟨t, ?_, b1⟩
  have hm : (((T.setTop (F0 m pc ls rest)).pushFrame (.throwing q)).vm.method? m) = some meth := X.method'
  have hvmS : ((T.setTop (F0 m pc ls rest)).pushFrame (.throwing q)).vm = T.vm := throwing_vm T _ q
  have hheS : ((T.setTop (F0 m pc ls rest)).pushFrame (.throwing q)).heap = T.heap := throwing_heap T _ q
  obtain ⟨S, hSe⟩ : ∃ z, z = (T.setTop (F0 m pc ls rest)).pushFrame (.throwing q) := ⟨_, rfl⟩
  rw [← hSe] at hm hvmS hheS
  have hlS : S.vm.ClassLinks e.platform m.cls x.catchType c4 := by rw [hvmS]; exact X.warmed.classLinks hk5
  have hceS : S.heap[q]? = some ce := by rw [hheS, hT]; exact hcell
  have hob : ∀ k, ce.vm ≠ .statics k := fun k h9 => by rw [hv] at h9; cases h9
  have hal : S.vm.Alike (S.vm.noted m.cls x.catchType (.cls c4)) := (Vm.Alike.refl S.vm).noted _ _ _
  have hsS : s.vm.Alike S.vm := by rw [hvmS]; exact X.warmed.alike
  obtain ⟨k1, hk1⟩ := Vm.classAt_of_findClass hcl
  obtain ⟨k2, hk2⟩ := Vm.classAt_of_findClass hc4
  obtain ⟨k1', hk1', -⟩ := (hsS.trans hal).2.2 _ _ hk1
  obtain ⟨k2', hk2', -⟩ := (hsS.trans hal).2.2 _ _ hk2
  have hfit' : (S.vm.noted m.cls x.catchType (.cls c4)).assignable ce.cls c4 = true := by rw [(hsS.trans hal).assignable]; exact hasg
  obtain ⟨ha, ht⟩ := (resolveClass_links e.toSetting hlS).op (op := VmOp.resolveClass m.cls x.catchType) rfl
  have hcv : (decide (x.startPc ≤ pc) && decide (pc < x.endPc)) = true ∨ True := Or.inr trivial
  have hfind : ∀ (Q : Handler → Pre) (E : CtlPost) (d : Bool) (acts : List Action), wp (findHandler (F0 m pc ls rest) q) Q E e d acts S ↔ Q (.found x.handlerPc) d acts (S.setVm (S.vm.noted m.cls x.catchType (.cls c4))) := by
    intro Q E d acts
    rw [Jvm.W.findHandler_eq (f := F0 m pc ls rest) hm X.code, hone]
    have hx' := hx
    simp only [covers] at hx'
    simp [findHandler.go, hx', h0, ha, ht, hceS, hob, hk1', hk2', hfit', VmOp.dirties, VmOp.acts]
  have hAt : At T (F0 m pc ls rest).method c below := X.here
  obtain ⟨hgo, hw⟩ := hAt.throwing q
  rw [← hSe] at hgo hw
  rw [← hSe]
  refine Steps.head hgo hw ?_
  have hstep : ∀ r : List Frame, (stepThrowing e S q (.java (F0 m pc ls rest) :: r)).Is ((S.setVm (S.vm.noted m.cls x.catchType (.cls c4))).setFrames (.java { (F0 m pc ls rest) with pc := x.handlerPc, stack := [.ref q] } :: r)) [] := by
    intro r
    simp only [stepThrowing, searchFrame, vmDo]
    generalize hr : Sem.go _ e false [] S = res
    obtain ⟨as, rfl, ha9⟩ := Sem.eq_ok_of hr (a := Handler.found x.handlerPc) (s' := S.setVm (S.vm.noted m.cls x.catchType (.cls c4))) (acts' := []) (by simp [hfind _ _ _ _])
    exact ⟨rfl, ha9⟩
  obtain ⟨g₀, hg⟩ := Option.isSome_iff_exists.mp hAt.top
  obtain ⟨r, hr⟩ := State.topJava?_eq_some.mp hg
  have hfr : S.frames = .throwing q :: .java (F0 m pc ls rest) :: T.frames.tail := by rw [hSe]; exact frames_entered hAt.top _
  rw [stepThread_throwing hfr, (hstep _).1]
  have hr' : (T.setVm (T.vm.noted m.cls x.catchType (.cls c4))).frames = .java g₀ :: r := hr
  rw [State.setTop_of_frames _ hr'] at a1
  have e1 : ∀ (vm' : Vm) (G : List Frame), ((T.setFrames (.throwing q :: .java (F0 m pc ls rest) :: r)).setVm vm').setFrames G = (T.setVm vm').setFrames G := fun vm' G => by
    have h1 : (T.setFrames (.throwing q :: .java (F0 m pc ls rest) :: r)).setVm vm' = (T.setVm vm').setFrames (.throwing q :: .java (F0 m pc ls rest) :: r) := rfl
    rw [h1, State.setFrames_setFrames]
  have hSf : S = T.setFrames (.throwing q :: .java (F0 m pc ls rest) :: r) := by
    rw [hSe, State.pushFrame, State.frames_setTop _ hr, State.setTop_of_frames _ hr, State.setFrames_setFrames]
  rw [hvmS, hSf, e1, hr, List.tail_cons]
  exact a1
end CAT
