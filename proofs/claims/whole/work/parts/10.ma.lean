def pX1_thrown (u : MS) : Int32 := (mt u)
set_option maxHeartbeats 4000000 in
set_option maxRecDepth 100000 in
theorem kX1_thrown (l : Launch) (D : va_G) (cI cZ : ClassId) (h : Nat → Nat) (sz : Nat) (u : MS) (n : Nat) (hI : InvM n u) (hn : n ≤ 2000000) : Mi l yX1_thrown wsX1_thrown { frames := 0, cells := 0, slots := 0, locals := 0 } D (tyl cI cZ) (wM cI cZ h) sz u [.ref (h 0)] (fun r u9 => r = pX1_thrown u ∧ u9 = u) := by
  refine Met.ofW (cc := cX1_thrown) (maxL := 1) (ret := (some .int)) (by decide) rfl ?_
  intro p e s m args below meth c s₁ B hml hv
  obtain ⟨rfl, hsz, hP, hK, hD0⟩ := hv
  have hx := B.exec
  have hb := B.bytes
  have hr := B.returns
  have hts := atoms_spec (ws := wsX1_thrown) B.pre
  have hin : ∀ w ∈ wsX10, w ∈ wsX1_thrown := fun w h9 => List.mem_cons_of_mem _ (List.mem_append_right _ h9)
  have hown : s.vm.findClass RX1 = some m.cls := findClass_of_methodNamed B.named
  have hlocks := B.notSynchronized
  subst hsz
  have hD : va_D (va_A (wM cI cZ h u) s.heap.size) (wM cI cZ h u) := hD0.self (sz := s.heap.size)
  have hA : ∀ q : Nat, s.heap.size ≤ q → va_A (wM cI cZ h u) s.heap.size q := fun q h9 => Or.inr h9
  have hS : va_S (va_A (wM cI cZ h u) s.heap.size) s.heap s.heap [] := va_S.rf
  have hl := lv_entry ([.ref (h 0)]) (n := 1) (Nat.le_of_ble_eq_true rfl)
  rw [lg_entry_eq]
  generalize (lg_sl ([.ref (h 0)]) ++ List.replicate (1 - (lg_sl ([.ref (h 0)])).length) Slot.unset).toArray = ls at hl ⊢
  have hl : lv_has ls 1 [(0, .ref (h 0))] := hl
  generalize va_A (wM cI cZ h u) s.heap.size = A at hD hA hS ⊢
  refine lv_aload_n hx hb dX1_thrown_0 rfl (lv_at hl 0 rfl) ?_
  refine va_get (D := D) (ci := 1) (v := .int (mt u)) (C := RX1) (T := TX1) (N := 15) hx hb hts hin hown hK hP 0 rfl rfl 0 (by decide) (hts (.fieldLink RX1 20 "ModeDeskModel" "thrown" "I") (by decide +kernel)) (fun _ h9 => h9) rfl dX1_thrown_1 ?_
  have hq1 : pX1_thrown u = (mt u) := (by rfl)
  exact W.iret (v := (mt u)) hx hb hr (fun t ht hW => ⟨⟨(mt u), u, rfl, ⟨hq1.symm, rfl⟩, by rw [ht]; exact hP, va_K.moved hW.alike hK, hD⟩, hS.F ht⟩) hS.2.2 dX1_thrown_4
def pX1_good (u : MS) (a1 : Int32) : Int32 × MS := if a1 = 0 then ((a1, mt_ u 1)) else ((a1, mt_ u 0))
set_option maxHeartbeats 4000000 in
set_option maxRecDepth 100000 in
theorem kX1_good (l : Launch) (D : va_G) (cI cZ : ClassId) (h : Nat → Nat) (sz : Nat) (u : MS) (a1 : Int32) (n : Nat) (hI : InvM n u) (hn : n ≤ 2000000) (hb1 : bz a1) : Mi l yX1_good wsX1_good { frames := 0, cells := 0, slots := 0, locals := 0 } D (tyl cI cZ) (wM cI cZ h) sz u [.ref (h 0), .int a1] (fun r u9 => (r, u9) = pX1_good u a1 ∧ InvM n u9 ∧ bz r) := by
  refine Met.ofW (cc := cX1_good) (maxL := 2) (ret := (some .boolean)) (by decide) rfl ?_
  intro p e s m args below meth c s₁ B hml hv
  obtain ⟨rfl, hsz, hP, hK, hD0⟩ := hv
  have hx := B.exec
  have hb := B.bytes
  have hr := B.returns
  have hts := atoms_spec (ws := wsX1_good) B.pre
  have hin : ∀ w ∈ wsX10, w ∈ wsX1_good := fun w h9 => List.mem_cons_of_mem _ (List.mem_append_right _ h9)
  have hown : s.vm.findClass RX1 = some m.cls := findClass_of_methodNamed B.named
  have hlocks := B.notSynchronized
  subst hsz
  have hD : va_D (va_A (wM cI cZ h u) s.heap.size) (wM cI cZ h u) := hD0.self (sz := s.heap.size)
  have hA : ∀ q : Nat, s.heap.size ≤ q → va_A (wM cI cZ h u) s.heap.size q := fun q h9 => Or.inr h9
  have hS : va_S (va_A (wM cI cZ h u) s.heap.size) s.heap s.heap [] := va_S.rf
  have hl := lv_entry ([.ref (h 0), .int a1]) (n := 2) (Nat.le_of_ble_eq_true rfl)
  rw [lg_entry_eq]
  generalize (lg_sl ([.ref (h 0), .int a1]) ++ List.replicate (2 - (lg_sl ([.ref (h 0), .int a1])).length) Slot.unset).toArray = ls at hl ⊢
  have hl : lv_has ls 2 [(0, .ref (h 0)), (1, .int a1)] := hl
  generalize va_A (wM cI cZ h u) s.heap.size = A at hD hA hS ⊢
  refine lv_aload_n hx hb dX1_good_0 rfl (lv_at hl 0 rfl) ?_
  refine lv_iload_n hx hb dX1_good_1 rfl (lv_at hl 1 rfl) ?_
  refine lv_if_eq (tgt := 9) hx hb dX1_good_2 (by decide) (fun c1 => ?_) (fun c1 => ?_)
  · refine lv_iconst (v := 1) hx hb dX1_good_9 (by decide) ?_
    refine va_put (D := D) (ci := 1) (v := .int 1) (ty := .int) (C := RX1) (T := TX1) (N := 15) hx hb hts hin tyX1 tyX1_ok nmX1 hown hK hP hD hS 0 rfl rfl 0 (by decide) (hts (.fieldLink RX1 20 "ModeDeskModel" "thrown" "I") (by decide +kernel)) (fun _ h9 => h9) rfl (by decide +kernel) rfl rfl (Nat.le_of_ble_eq_true rfl) dX1_good_10 (fun H3 locs hP hD hS => ?_)
    obtain ⟨u2, eu2⟩ : ∃ y : MS, y = mt_ u 1 := ⟨_, rfl⟩
    have hP : va_P D vwCl (wM cI cZ h u2) H3 := by rw [eu2]; exact hP
    have hD : va_D A (wM cI cZ h u2) := by rw [eu2]; exact hD
    have hIu2 : InvM n u2 := by rw [eu2]; exact InvM.st hI _
    refine lv_iload_n hx hb dX1_good_13 rfl (lv_at hl 1 rfl) ?_
    have hq1 : pX1_good u a1 = (a1, u2) := (by subst eu2; unfold pX1_good; first | (rw [if_pos c1]; done) | (rw [if_pos c1]; rfl))
    exact W.zret (v := a1) hx hb hr (bz_n hb1) (fun t ht hW => ⟨⟨a1, u2, rfl, ⟨hq1.symm, hIu2, hb1⟩, by rw [ht]; exact hP, va_K.moved hW.alike hK, hD⟩, hS.F ht⟩) hS.2.2 dX1_good_14
  · refine lv_iconst (v := 0) hx hb dX1_good_5 (by decide) ?_
    refine lv_goto (tgt := 10) hx hb dX1_good_6 (by decide) ?_
    refine va_put (D := D) (ci := 1) (v := .int 0) (ty := .int) (C := RX1) (T := TX1) (N := 15) hx hb hts hin tyX1 tyX1_ok nmX1 hown hK hP hD hS 0 rfl rfl 0 (by decide) (hts (.fieldLink RX1 20 "ModeDeskModel" "thrown" "I") (by decide +kernel)) (fun _ h9 => h9) rfl (by decide +kernel) rfl rfl (Nat.le_of_ble_eq_true rfl) dX1_good_10 (fun H5 locs hP hD hS => ?_)
    obtain ⟨u4, eu4⟩ : ∃ y : MS, y = mt_ u 0 := ⟨_, rfl⟩
    have hP : va_P D vwCl (wM cI cZ h u4) H5 := by rw [eu4]; exact hP
    have hD : va_D A (wM cI cZ h u4) := by rw [eu4]; exact hD
    have hIu4 : InvM n u4 := by rw [eu4]; exact InvM.st hI _
    refine lv_iload_n hx hb dX1_good_13 rfl (lv_at hl 1 rfl) ?_
    have hq1 : pX1_good u a1 = (a1, u4) := (by subst eu4; unfold pX1_good; first | (rw [if_neg c1]; done) | (rw [if_neg c1]; rfl))
    exact W.zret (v := a1) hx hb hr (bz_n hb1) (fun t ht hW => ⟨⟨a1, u4, rfl, ⟨hq1.symm, hIu4, hb1⟩, by rw [ht]; exact hP, va_K.moved hW.alike hK, hD⟩, hS.F ht⟩) hS.2.2 dX1_good_14
def pX1_keep (u : MS) (a1 a2 a3 a4 : Int32) : MS := if 300 ≤ (mk u) then (mk_ u ((mk u) + 1)) else (mk_ (mR_ (mR_ (mR_ (mR_ u (upd (mR u) (Int32.toNatClampNeg (4 * (mk u))) a1)) (upd (mR (mR_ u (upd (mR u) (Int32.toNatClampNeg (4 * (mk u))) a1))) (Int32.toNatClampNeg ((4 * (mk (mR_ u (upd (mR u) (Int32.toNatClampNeg (4 * (mk u))) a1)))) + 1)) a2)) (upd (mR (mR_ (mR_ u (upd (mR u) (Int32.toNatClampNeg (4 * (mk u))) a1)) (upd (mR (mR_ u (upd (mR u) (Int32.toNatClampNeg (4 * (mk u))) a1))) (Int32.toNatClampNeg ((4 * (mk (mR_ u (upd (mR u) (Int32.toNatClampNeg (4 * (mk u))) a1)))) + 1)) a2))) (Int32.toNatClampNeg ((4 * (mk (mR_ (mR_ u (upd (mR u) (Int32.toNatClampNeg (4 * (mk u))) a1)) (upd (mR (mR_ u (upd (mR u) (Int32.toNatClampNeg (4 * (mk u))) a1))) (Int32.toNatClampNeg ((4 * (mk (mR_ u (upd (mR u) (Int32.toNatClampNeg (4 * (mk u))) a1)))) + 1)) a2)))) + 2)) a3)) (upd (mR (mR_ (mR_ (mR_ u (upd (mR u) (Int32.toNatClampNeg (4 * (mk u))) a1)) (upd (mR (mR_ u (upd (mR u) (Int32.toNatClampNeg (4 * (mk u))) a1))) (Int32.toNatClampNeg ((4 * (mk (mR_ u (upd (mR u) (Int32.toNatClampNeg (4 * (mk u))) a1)))) + 1)) a2)) (upd (mR (mR_ (mR_ u (upd (mR u) (Int32.toNatClampNeg (4 * (mk u))) a1)) (upd (mR (mR_ u (upd (mR u) (Int32.toNatClampNeg (4 * (mk u))) a1))) (Int32.toNatClampNeg ((4 * (mk (mR_ u (upd (mR u) (Int32.toNatClampNeg (4 * (mk u))) a1)))) + 1)) a2))) (Int32.toNatClampNeg ((4 * (mk (mR_ (mR_ u (upd (mR u) (Int32.toNatClampNeg (4 * (mk u))) a1)) (upd (mR (mR_ u (upd (mR u) (Int32.toNatClampNeg (4 * (mk u))) a1))) (Int32.toNatClampNeg ((4 * (mk (mR_ u (upd (mR u) (Int32.toNatClampNeg (4 * (mk u))) a1)))) + 1)) a2)))) + 2)) a3))) (Int32.toNatClampNeg ((4 * (mk (mR_ (mR_ (mR_ u (upd (mR u) (Int32.toNatClampNeg (4 * (mk u))) a1)) (upd (mR (mR_ u (upd (mR u) (Int32.toNatClampNeg (4 * (mk u))) a1))) (Int32.toNatClampNeg ((4 * (mk (mR_ u (upd (mR u) (Int32.toNatClampNeg (4 * (mk u))) a1)))) + 1)) a2)) (upd (mR (mR_ (mR_ u (upd (mR u) (Int32.toNatClampNeg (4 * (mk u))) a1)) (upd (mR (mR_ u (upd (mR u) (Int32.toNatClampNeg (4 * (mk u))) a1))) (Int32.toNatClampNeg ((4 * (mk (mR_ u (upd (mR u) (Int32.toNatClampNeg (4 * (mk u))) a1)))) + 1)) a2))) (Int32.toNatClampNeg ((4 * (mk (mR_ (mR_ u (upd (mR u) (Int32.toNatClampNeg (4 * (mk u))) a1)) (upd (mR (mR_ u (upd (mR u) (Int32.toNatClampNeg (4 * (mk u))) a1))) (Int32.toNatClampNeg ((4 * (mk (mR_ u (upd (mR u) (Int32.toNatClampNeg (4 * (mk u))) a1)))) + 1)) a2)))) + 2)) a3)))) + 3)) a4)) ((mk (mR_ (mR_ (mR_ (mR_ u (upd (mR u) (Int32.toNatClampNeg (4 * (mk u))) a1)) (upd (mR (mR_ u (upd (mR u) (Int32.toNatClampNeg (4 * (mk u))) a1))) (Int32.toNatClampNeg ((4 * (mk (mR_ u (upd (mR u) (Int32.toNatClampNeg (4 * (mk u))) a1)))) + 1)) a2)) (upd (mR (mR_ (mR_ u (upd (mR u) (Int32.toNatClampNeg (4 * (mk u))) a1)) (upd (mR (mR_ u (upd (mR u) (Int32.toNatClampNeg (4 * (mk u))) a1))) (Int32.toNatClampNeg ((4 * (mk (mR_ u (upd (mR u) (Int32.toNatClampNeg (4 * (mk u))) a1)))) + 1)) a2))) (Int32.toNatClampNeg ((4 * (mk (mR_ (mR_ u (upd (mR u) (Int32.toNatClampNeg (4 * (mk u))) a1)) (upd (mR (mR_ u (upd (mR u) (Int32.toNatClampNeg (4 * (mk u))) a1))) (Int32.toNatClampNeg ((4 * (mk (mR_ u (upd (mR u) (Int32.toNatClampNeg (4 * (mk u))) a1)))) + 1)) a2)))) + 2)) a3)) (upd (mR (mR_ (mR_ (mR_ u (upd (mR u) (Int32.toNatClampNeg (4 * (mk u))) a1)) (upd (mR (mR_ u (upd (mR u) (Int32.toNatClampNeg (4 * (mk u))) a1))) (Int32.toNatClampNeg ((4 * (mk (mR_ u (upd (mR u) (Int32.toNatClampNeg (4 * (mk u))) a1)))) + 1)) a2)) (upd (mR (mR_ (mR_ u (upd (mR u) (Int32.toNatClampNeg (4 * (mk u))) a1)) (upd (mR (mR_ u (upd (mR u) (Int32.toNatClampNeg (4 * (mk u))) a1))) (Int32.toNatClampNeg ((4 * (mk (mR_ u (upd (mR u) (Int32.toNatClampNeg (4 * (mk u))) a1)))) + 1)) a2))) (Int32.toNatClampNeg ((4 * (mk (mR_ (mR_ u (upd (mR u) (Int32.toNatClampNeg (4 * (mk u))) a1)) (upd (mR (mR_ u (upd (mR u) (Int32.toNatClampNeg (4 * (mk u))) a1))) (Int32.toNatClampNeg ((4 * (mk (mR_ u (upd (mR u) (Int32.toNatClampNeg (4 * (mk u))) a1)))) + 1)) a2)))) + 2)) a3))) (Int32.toNatClampNeg ((4 * (mk (mR_ (mR_ (mR_ u (upd (mR u) (Int32.toNatClampNeg (4 * (mk u))) a1)) (upd (mR (mR_ u (upd (mR u) (Int32.toNatClampNeg (4 * (mk u))) a1))) (Int32.toNatClampNeg ((4 * (mk (mR_ u (upd (mR u) (Int32.toNatClampNeg (4 * (mk u))) a1)))) + 1)) a2)) (upd (mR (mR_ (mR_ u (upd (mR u) (Int32.toNatClampNeg (4 * (mk u))) a1)) (upd (mR (mR_ u (upd (mR u) (Int32.toNatClampNeg (4 * (mk u))) a1))) (Int32.toNatClampNeg ((4 * (mk (mR_ u (upd (mR u) (Int32.toNatClampNeg (4 * (mk u))) a1)))) + 1)) a2))) (Int32.toNatClampNeg ((4 * (mk (mR_ (mR_ u (upd (mR u) (Int32.toNatClampNeg (4 * (mk u))) a1)) (upd (mR (mR_ u (upd (mR u) (Int32.toNatClampNeg (4 * (mk u))) a1))) (Int32.toNatClampNeg ((4 * (mk (mR_ u (upd (mR u) (Int32.toNatClampNeg (4 * (mk u))) a1)))) + 1)) a2)))) + 2)) a3)))) + 3)) a4))) + 1))
set_option maxHeartbeats 4000000 in
set_option maxRecDepth 100000 in
theorem kX1_keep (l : Launch) (D : va_G) (cI cZ : ClassId) (h : Nat → Nat) (sz : Nat) (u : MS) (a1 a2 a3 a4 : Int32) (n : Nat) (hI : InvM n u) (hn : n ≤ 2000000) : Mv l yX1_keep wsX1_keep { frames := 0, cells := 0, slots := 0, locals := 0 } D (tyl cI cZ) (wM cI cZ h) sz u [.ref (h 0), .int a1, .int a2, .int a3, .int a4] (fun u9 => u9 = pX1_keep u a1 a2 a3 a4 ∧ InvM (n + 1) u9) := by
  refine Met.ofW (cc := cX1_keep) (maxL := 5) (ret := none) (by decide) rfl ?_
  intro p e s m args below meth c s₁ B hml hv
  obtain ⟨rfl, hsz, hP, hK, hD0⟩ := hv
  have hx := B.exec
  have hb := B.bytes
  have hr := B.returns
  have hts := atoms_spec (ws := wsX1_keep) B.pre
  have hin : ∀ w ∈ wsX10, w ∈ wsX1_keep := fun w h9 => List.mem_cons_of_mem _ (List.mem_append_right _ h9)
  have hown : s.vm.findClass RX1 = some m.cls := findClass_of_methodNamed B.named
  have hlocks := B.notSynchronized
  subst hsz
  have hD : va_D (va_A (wM cI cZ h u) s.heap.size) (wM cI cZ h u) := hD0.self (sz := s.heap.size)
  have hA : ∀ q : Nat, s.heap.size ≤ q → va_A (wM cI cZ h u) s.heap.size q := fun q h9 => Or.inr h9
  have hS : va_S (va_A (wM cI cZ h u) s.heap.size) s.heap s.heap [] := va_S.rf
  have hl := lv_entry ([.ref (h 0), .int a1, .int a2, .int a3, .int a4]) (n := 5) (Nat.le_of_ble_eq_true rfl)
  rw [lg_entry_eq]
  generalize (lg_sl ([.ref (h 0), .int a1, .int a2, .int a3, .int a4]) ++ List.replicate (5 - (lg_sl ([.ref (h 0), .int a1, .int a2, .int a3, .int a4])).length) Slot.unset).toArray = ls at hl ⊢
  have hl : lv_has ls 5 [(0, .ref (h 0)), (1, .int a1), (2, .int a2), (3, .int a3), (4, .int a4)] := hl
  generalize va_A (wM cI cZ h u) s.heap.size = A at hD hA hS ⊢
  refine lv_aload_n hx hb dX1_keep_0 rfl (lv_at hl 0 rfl) ?_
  refine va_get (D := D) (ci := 1) (v := .int (mk u)) (C := RX1) (T := TX1) (N := 15) hx hb hts hin hown hK hP 0 rfl rfl 13 (by decide) (hts (.fieldLink RX1 23 "ModeDeskModel" "kept" "I") (by decide +kernel)) (fun _ h9 => h9) rfl dX1_keep_1 ?_
  refine lv_sipush (v := 300) hx hb dX1_keep_4 (by decide) ?_
  refine lv_icmp_ge (tgt := 65) hx hb dX1_keep_7 (by decide) (fun c1 => ?_) (fun c1 => ?_)
  · refine lv_aload_n hx hb dX1_keep_65 rfl (lv_at hl 0 rfl) ?_
    refine lv_dup hx hb dX1_keep_66 rfl ?_
    refine va_get (D := D) (ci := 1) (v := .int (mk u)) (C := RX1) (T := TX1) (N := 15) hx hb hts hin hown hK hP 0 rfl rfl 13 (by decide) (hts (.fieldLink RX1 23 "ModeDeskModel" "kept" "I") (by decide +kernel)) (fun _ h9 => h9) rfl dX1_keep_67 ?_
    refine lv_iconst (v := 1) hx hb dX1_keep_70 (by decide) ?_
    refine lv_iadd hx hb dX1_keep_71 ?_
    refine va_put (D := D) (ci := 1) (v := .int ((mk u) + 1)) (ty := .int) (C := RX1) (T := TX1) (N := 15) hx hb hts hin tyX1 tyX1_ok nmX1 hown hK hP hD hS 0 rfl rfl 13 (by decide) (hts (.fieldLink RX1 23 "ModeDeskModel" "kept" "I") (by decide +kernel)) (fun _ h9 => h9) rfl (by decide +kernel) rfl rfl (Nat.le_of_ble_eq_true rfl) dX1_keep_72 (fun H3 locs hP hD hS => ?_)
    obtain ⟨u2, eu2⟩ : ∃ y : MS, y = mk_ u ((mk u) + 1) := ⟨_, rfl⟩
    have hP : va_P D vwCl (wM cI cZ h u2) H3 := by rw [eu2]; exact hP
    have hD : va_D A (wM cI cZ h u2) := by rw [eu2]; exact hD
    have hIu2 : InvM (n + 1) u2 := by rw [eu2]; exact InvM.sk hI
    have hq1 : pX1_keep u a1 a2 a3 a4 = u2 := (by subst eu2; unfold pX1_keep; first | (rw [if_pos c1]; done) | (rw [if_pos c1]; rfl))
    exact W.vret hx hb hr (fun t ht hW => ⟨⟨u2, rfl, ⟨hq1.symm, hIu2⟩, by rw [ht]; exact hP, va_K.moved hW.alike hK, hD⟩, hS.F ht⟩) hS.2.2 dX1_keep_75
  · refine lv_aload_n hx hb dX1_keep_10 rfl (lv_at hl 0 rfl) ?_
    refine va_get (D := D) (ci := 1) (v := .ref (h 2)) (C := RX1) (T := TX1) (N := 15) hx hb hts hin hown hK hP 0 rfl rfl 14 (by decide) (hts (.fieldLink RX1 13 "ModeDeskModel" "rows" "[I") (by decide +kernel)) (fun _ h9 => h9) rfl dX1_keep_11 ?_
    refine lv_iconst (v := 4) hx hb dX1_keep_14 (by decide) ?_
    refine lv_aload_n hx hb dX1_keep_15 rfl (lv_at hl 0 rfl) ?_
    refine va_get (D := D) (ci := 1) (v := .int (mk u)) (C := RX1) (T := TX1) (N := 15) hx hb hts hin hown hK hP 0 rfl rfl 13 (by decide) (hts (.fieldLink RX1 23 "ModeDeskModel" "kept" "I") (by decide +kernel)) (fun _ h9 => h9) rfl dX1_keep_16 ?_
    refine lv_imul hx hb dX1_keep_19 ?_
    refine lv_iload_n hx hb dX1_keep_20 rfl (lv_at hl 1 rfl) ?_
    refine va_iast hx hb hK hP hD hS 2 0 rfl rfl (by exact InvM.kIn0 hI hn c1) dX1_keep_21 (fun H5 locs hP hD hS => ?_)
    obtain ⟨u4, eu4⟩ : ∃ y : MS, y = mR_ u (upd (mR u) (Int32.toNatClampNeg (4 * (mk u))) a1) := ⟨_, rfl⟩
    have hP : va_P D vwCl (wM cI cZ h u4) H5 := by rw [eu4]; exact hP
    have hD : va_D A (wM cI cZ h u4) := by rw [eu4]; exact hD
    have hIu4 : InvM n u4 := by rw [eu4]; exact InvM.sR hI _
    refine lv_aload_n hx hb dX1_keep_22 rfl (lv_at hl 0 rfl) ?_
    refine va_get (D := D) (ci := 1) (v := .ref (h 2)) (C := RX1) (T := TX1) (N := 15) hx hb hts hin hown hK hP 0 rfl rfl 14 (by decide) (hts (.fieldLink RX1 13 "ModeDeskModel" "rows" "[I") (by decide +kernel)) (fun _ h9 => h9) rfl dX1_keep_23 ?_
    refine lv_iconst (v := 4) hx hb dX1_keep_26 (by decide) ?_
    refine lv_aload_n hx hb dX1_keep_27 rfl (lv_at hl 0 rfl) ?_
    refine va_get (D := D) (ci := 1) (v := .int (mk u4)) (C := RX1) (T := TX1) (N := 15) hx hb hts hin hown hK hP 0 rfl rfl 13 (by decide) (hts (.fieldLink RX1 23 "ModeDeskModel" "kept" "I") (by decide +kernel)) (fun _ h9 => h9) rfl dX1_keep_28 ?_
    refine lv_imul hx hb dX1_keep_31 ?_
    refine lv_iconst (v := 1) hx hb dX1_keep_32 (by decide) ?_
    refine lv_iadd hx hb dX1_keep_33 ?_
    refine lv_iload_n hx hb dX1_keep_34 rfl (lv_at hl 2 rfl) ?_
    refine va_iast hx hb hK hP hD hS 2 0 rfl rfl (by subst eu4; exact InvM.kIn hIu4 hn c1 1 (by decide)) dX1_keep_35 (fun H7 locs hP hD hS => ?_)
    obtain ⟨u6, eu6⟩ : ∃ y : MS, y = mR_ u4 (upd (mR u4) (Int32.toNatClampNeg ((4 * (mk u4)) + 1)) a2) := ⟨_, rfl⟩
    have hP : va_P D vwCl (wM cI cZ h u6) H7 := by rw [eu6]; exact hP
    have hD : va_D A (wM cI cZ h u6) := by rw [eu6]; exact hD
    have hIu6 : InvM n u6 := by rw [eu6]; exact InvM.sR hIu4 _
    refine lv_aload_n hx hb dX1_keep_36 rfl (lv_at hl 0 rfl) ?_
    refine va_get (D := D) (ci := 1) (v := .ref (h 2)) (C := RX1) (T := TX1) (N := 15) hx hb hts hin hown hK hP 0 rfl rfl 14 (by decide) (hts (.fieldLink RX1 13 "ModeDeskModel" "rows" "[I") (by decide +kernel)) (fun _ h9 => h9) rfl dX1_keep_37 ?_
    refine lv_iconst (v := 4) hx hb dX1_keep_40 (by decide) ?_
    refine lv_aload_n hx hb dX1_keep_41 rfl (lv_at hl 0 rfl) ?_
    refine va_get (D := D) (ci := 1) (v := .int (mk u6)) (C := RX1) (T := TX1) (N := 15) hx hb hts hin hown hK hP 0 rfl rfl 13 (by decide) (hts (.fieldLink RX1 23 "ModeDeskModel" "kept" "I") (by decide +kernel)) (fun _ h9 => h9) rfl dX1_keep_42 ?_
    refine lv_imul hx hb dX1_keep_45 ?_
    refine lv_iconst (v := 2) hx hb dX1_keep_46 (by decide) ?_
    refine lv_iadd hx hb dX1_keep_47 ?_
    refine lv_iload_n hx hb dX1_keep_48 rfl (lv_at hl 3 rfl) ?_
    refine va_iast hx hb hK hP hD hS 2 0 rfl rfl (by subst eu6; subst eu4; exact InvM.kIn hIu6 hn c1 2 (by decide)) dX1_keep_49 (fun H9 locs hP hD hS => ?_)
    obtain ⟨u8, eu8⟩ : ∃ y : MS, y = mR_ u6 (upd (mR u6) (Int32.toNatClampNeg ((4 * (mk u6)) + 2)) a3) := ⟨_, rfl⟩
    have hP : va_P D vwCl (wM cI cZ h u8) H9 := by rw [eu8]; exact hP
    have hD : va_D A (wM cI cZ h u8) := by rw [eu8]; exact hD
    have hIu8 : InvM n u8 := by rw [eu8]; exact InvM.sR hIu6 _
    refine lv_aload_n hx hb dX1_keep_50 rfl (lv_at hl 0 rfl) ?_
    refine va_get (D := D) (ci := 1) (v := .ref (h 2)) (C := RX1) (T := TX1) (N := 15) hx hb hts hin hown hK hP 0 rfl rfl 14 (by decide) (hts (.fieldLink RX1 13 "ModeDeskModel" "rows" "[I") (by decide +kernel)) (fun _ h9 => h9) rfl dX1_keep_51 ?_
    refine lv_iconst (v := 4) hx hb dX1_keep_54 (by decide) ?_
    refine lv_aload_n hx hb dX1_keep_55 rfl (lv_at hl 0 rfl) ?_
    refine va_get (D := D) (ci := 1) (v := .int (mk u8)) (C := RX1) (T := TX1) (N := 15) hx hb hts hin hown hK hP 0 rfl rfl 13 (by decide) (hts (.fieldLink RX1 23 "ModeDeskModel" "kept" "I") (by decide +kernel)) (fun _ h9 => h9) rfl dX1_keep_56 ?_
    refine lv_imul hx hb dX1_keep_59 ?_
    refine lv_iconst (v := 3) hx hb dX1_keep_60 (by decide) ?_
    refine lv_iadd hx hb dX1_keep_61 ?_
    refine lv_iload hx hb dX1_keep_62 (lv_at hl 4 rfl) ?_
    refine va_iast hx hb hK hP hD hS 2 0 rfl rfl (by subst eu8; subst eu6; subst eu4; exact InvM.kIn hIu8 hn c1 3 (by decide)) dX1_keep_64 (fun H11 locs hP hD hS => ?_)
    obtain ⟨u10, eu10⟩ : ∃ y : MS, y = mR_ u8 (upd (mR u8) (Int32.toNatClampNeg ((4 * (mk u8)) + 3)) a4) := ⟨_, rfl⟩
    have hP : va_P D vwCl (wM cI cZ h u10) H11 := by rw [eu10]; exact hP
    have hD : va_D A (wM cI cZ h u10) := by rw [eu10]; exact hD
    have hIu10 : InvM n u10 := by rw [eu10]; exact InvM.sR hIu8 _
    refine lv_aload_n hx hb dX1_keep_65 rfl (lv_at hl 0 rfl) ?_
    refine lv_dup hx hb dX1_keep_66 rfl ?_
    refine va_get (D := D) (ci := 1) (v := .int (mk u10)) (C := RX1) (T := TX1) (N := 15) hx hb hts hin hown hK hP 0 rfl rfl 13 (by decide) (hts (.fieldLink RX1 23 "ModeDeskModel" "kept" "I") (by decide +kernel)) (fun _ h9 => h9) rfl dX1_keep_67 ?_
    refine lv_iconst (v := 1) hx hb dX1_keep_70 (by decide) ?_
    refine lv_iadd hx hb dX1_keep_71 ?_
    refine va_put (D := D) (ci := 1) (v := .int ((mk u10) + 1)) (ty := .int) (C := RX1) (T := TX1) (N := 15) hx hb hts hin tyX1 tyX1_ok nmX1 hown hK hP hD hS 0 rfl rfl 13 (by decide) (hts (.fieldLink RX1 23 "ModeDeskModel" "kept" "I") (by decide +kernel)) (fun _ h9 => h9) rfl (by decide +kernel) rfl rfl (Nat.le_of_ble_eq_true rfl) dX1_keep_72 (fun H13 locs hP hD hS => ?_)
    obtain ⟨u12, eu12⟩ : ∃ y : MS, y = mk_ u10 ((mk u10) + 1) := ⟨_, rfl⟩
    have hP : va_P D vwCl (wM cI cZ h u12) H13 := by rw [eu12]; exact hP
    have hD : va_D A (wM cI cZ h u12) := by rw [eu12]; exact hD
    have hIu12 : InvM (n + 1) u12 := by rw [eu12]; exact InvM.sk hIu10
    have hq1 : pX1_keep u a1 a2 a3 a4 = u12 := (by subst eu12; subst eu10; subst eu8; subst eu6; subst eu4; unfold pX1_keep; first | (rw [if_neg c1]; done) | (rw [if_neg c1]; rfl))
    exact W.vret hx hb hr (fun t ht hW => ⟨⟨u12, rfl, ⟨hq1.symm, hIu12⟩, by rw [ht]; exact hP, va_K.moved hW.alike hK, hD⟩, hS.F ht⟩) hS.2.2 dX1_keep_75
def pX1_lateralTo (u : MS) (a1 a2 : Int32) : MS := if (ml u) = a1 then (u) else (if a2 = 1 then (mf_ (ml_ (pX1_keep u 0 (ml u) a1 a2) a1) 10) else (mf_ (ml_ (pX1_keep u 0 (ml u) a1 a2) a1) (mf (ml_ (pX1_keep u 0 (ml u) a1 a2) a1))))
set_option maxHeartbeats 4000000 in
set_option maxRecDepth 100000 in
theorem kX1_lateralTo (l : Launch) (D : va_G) (cI cZ : ClassId) (h : Nat → Nat) (sz : Nat) (u : MS) (a1 a2 : Int32) (n : Nat) (hI : InvM n u) (hn : n ≤ 2000000) : Mv l yX1_lateralTo wsX1_lateralTo { frames := 1, cells := 0, slots := 0, locals := 24 } D (tyl cI cZ) (wM cI cZ h) sz u [.ref (h 0), .int a1, .int a2] (fun u9 => u9 = pX1_lateralTo u a1 a2 ∧ InvM (n + 1) u9) := by
  refine Met.ofW (cc := cX1_lateralTo) (maxL := 3) (ret := none) (by decide) rfl ?_
  intro p e s m args below meth c s₁ B hml hv
  obtain ⟨rfl, hsz, hP, hK, hD0⟩ := hv
  have hx := B.exec
  have hb := B.bytes
  have hr := B.returns
  have hts := atoms_spec (ws := wsX1_lateralTo) B.pre
  have hin : ∀ w ∈ wsX10, w ∈ wsX1_lateralTo := fun w h9 => List.mem_cons_of_mem _ (List.mem_append_right _ h9)
  have hown : s.vm.findClass RX1 = some m.cls := findClass_of_methodNamed B.named
  have hlocks := B.notSynchronized
  subst hsz
  have hD : va_D (va_A (wM cI cZ h u) s.heap.size) (wM cI cZ h u) := hD0.self (sz := s.heap.size)
  have hA : ∀ q : Nat, s.heap.size ≤ q → va_A (wM cI cZ h u) s.heap.size q := fun q h9 => Or.inr h9
  have hS : va_S (va_A (wM cI cZ h u) s.heap.size) s.heap s.heap [] := va_S.rf
  have hl := lv_entry ([.ref (h 0), .int a1, .int a2]) (n := 3) (Nat.le_of_ble_eq_true rfl)
  rw [lg_entry_eq]
  generalize (lg_sl ([.ref (h 0), .int a1, .int a2]) ++ List.replicate (3 - (lg_sl ([.ref (h 0), .int a1, .int a2])).length) Slot.unset).toArray = ls at hl ⊢
  have hl : lv_has ls 3 [(0, .ref (h 0)), (1, .int a1), (2, .int a2)] := hl
  generalize va_A (wM cI cZ h u) s.heap.size = A at hD hA hS ⊢
  refine lv_aload_n hx hb dX1_lateralTo_0 rfl (lv_at hl 0 rfl) ?_
  refine va_get (D := D) (ci := 1) (v := .int (ml u)) (C := RX1) (T := TX1) (N := 15) hx hb hts hin hown hK hP 0 rfl rfl 1 (by decide) (hts (.fieldLink RX1 26 "ModeDeskModel" "lateral" "I") (by decide +kernel)) (fun _ h9 => h9) rfl dX1_lateralTo_1 ?_
  refine lv_iload_n hx hb dX1_lateralTo_4 rfl (lv_at hl 1 rfl) ?_
  refine lv_icmp_eq (tgt := 42) hx hb dX1_lateralTo_5 (by decide) (fun c1 => ?_) (fun c1 => ?_)
  · have hq1 : pX1_lateralTo u a1 a2 = u := (by unfold pX1_lateralTo; first | (rw [if_pos c1]; done) | (rw [if_pos c1]; rfl))
    exact W.vret hx hb hr (fun t ht hW => ⟨⟨u, rfl, ⟨hq1.symm, (hI.mono (by omega))⟩, by rw [ht]; exact hP, va_K.moved hW.alike hK, hD⟩, hS.F ht⟩) hS.2.2 dX1_lateralTo_42
  · refine lv_aload_n hx hb dX1_lateralTo_8 rfl (lv_at hl 0 rfl) ?_
    refine lv_iconst (v := 0) hx hb dX1_lateralTo_9 (by decide) ?_
    refine lv_aload_n hx hb dX1_lateralTo_10 rfl (lv_at hl 0 rfl) ?_
    refine va_get (D := D) (ci := 1) (v := .int (ml u)) (C := RX1) (T := TX1) (N := 15) hx hb hts hin hown hK hP 0 rfl rfl 1 (by decide) (hts (.fieldLink RX1 26 "ModeDeskModel" "lateral" "I") (by decide +kernel)) (fun _ h9 => h9) rfl dX1_lateralTo_11 ?_
    refine lv_iload_n hx hb dX1_lateralTo_14 rfl (lv_at hl 1 rfl) ?_
    refine lv_iload_n hx hb dX1_lateralTo_15 rfl (lv_at hl 2 rfl) ?_
    have hFc := va_free (wc := wM cI cZ h u) hD hS hA [0, 1, 2] rfl
    refine va_callv (va_runV (As := [.int 0, .int (ml u), .int a1, .int a2]) (rest := []) ⟨hx, hb, hml, hown, hts⟩ (kX1_keep l D cI cZ h s.heap.size u 0 (ml u) a1 a2 n hI (by omega)) (cwV 4 hts gX1_lateralTo_X1_keep rfl rfl rfl (by decide +kernel) ⟨Nat.le_of_ble_eq_true rfl, Nat.le_of_ble_eq_true rfl⟩) ⟨bl_W, va_recv hK hP (ci := 1) (q0 := 0) rfl rfl, pr_W hP hK hD⟩ rfl rfl hl.1 rfl (lv_room (Nat.le_of_ble_eq_true rfl)) dX1_lateralTo_16 ⟨Nat.zero_le _, Nat.zero_le _⟩) hS (fun q _ h9 => hFc q h9) hFc (fun u4 t H3 locs ht hvm hw hB hz1 hk1 hS => ?_)
    obtain ⟨hP, hK, hD⟩ := af_W hB ht hvm hFc
    clear hFc hB
    obtain ⟨eu4, hIu4⟩ := hw
    refine lv_aload_n hx hb dX1_lateralTo_19 rfl (lv_at hl 0 rfl) ?_
    refine lv_iload_n hx hb dX1_lateralTo_20 rfl (lv_at hl 1 rfl) ?_
    refine va_put (D := D) (ci := 1) (v := .int a1) (ty := .int) (C := RX1) (T := TX1) (N := 15) hx hb hts hin tyX1 tyX1_ok nmX1 hown hK hP hD hS 0 rfl rfl 1 (by decide) (hts (.fieldLink RX1 26 "ModeDeskModel" "lateral" "I") (by decide +kernel)) (fun _ h9 => h9) rfl (by decide +kernel) rfl rfl (Nat.le_of_ble_eq_true rfl) dX1_lateralTo_21 (fun H6 locs hP hD hS => ?_)
    obtain ⟨u5, eu5⟩ : ∃ y : MS, y = ml_ u4 a1 := ⟨_, rfl⟩
    have hP : va_P D vwCl (wM cI cZ h u5) H6 := by rw [eu5]; exact hP
    have hD : va_D A (wM cI cZ h u5) := by rw [eu5]; exact hD
    have hIu5 : InvM (n + 1) u5 := by rw [eu5]; exact InvM.sl hIu4 _
    refine lv_aload_n hx hb dX1_lateralTo_24 rfl (lv_at hl 0 rfl) ?_
    refine lv_iload_n hx hb dX1_lateralTo_25 rfl (lv_at hl 2 rfl) ?_
    refine lv_iconst (v := 1) hx hb dX1_lateralTo_26 (by decide) ?_
    refine lv_icmp_ne (tgt := 35) hx hb dX1_lateralTo_27 (by decide) (fun c7 => ?_) (fun c7 => ?_)
    · refine lv_aload_n hx hb dX1_lateralTo_35 rfl (lv_at hl 0 rfl) ?_
      refine va_get (D := D) (ci := 1) (v := .int (mf u5)) (C := RX1) (T := TX1) (N := 15) hx hb hts hin hown hK hP 0 rfl rfl 11 (by decide) (hts (.fieldLink RX1 33 "ModeDeskModel" "flash0" "I") (by decide +kernel)) (fun _ h9 => h9) rfl dX1_lateralTo_36 ?_
      refine va_put (D := D) (ci := 1) (v := .int (mf u5)) (ty := .int) (C := RX1) (T := TX1) (N := 15) hx hb hts hin tyX1 tyX1_ok nmX1 hown hK hP hD hS 0 rfl rfl 11 (by decide) (hts (.fieldLink RX1 33 "ModeDeskModel" "flash0" "I") (by decide +kernel)) (fun _ h9 => h9) rfl (by decide +kernel) rfl rfl (Nat.le_of_ble_eq_true rfl) dX1_lateralTo_39 (fun H9 locs hP hD hS => ?_)
      obtain ⟨u8, eu8⟩ : ∃ y : MS, y = mf_ u5 (mf u5) := ⟨_, rfl⟩
      have hP : va_P D vwCl (wM cI cZ h u8) H9 := by rw [eu8]; exact hP
      have hD : va_D A (wM cI cZ h u8) := by rw [eu8]; exact hD
      have hIu8 : InvM (n + 1) u8 := by rw [eu8]; exact InvM.sf hIu5 _
      have hq1 : pX1_lateralTo u a1 a2 = u8 := (by subst eu8; subst eu5; subst eu4; unfold pX1_lateralTo; first | (rw [if_neg c1, if_neg c7]; done) | (rw [if_neg c1, if_neg c7]; rfl))
      exact W.vret hx hb hr (fun t ht hW => ⟨⟨u8, rfl, ⟨hq1.symm, hIu8⟩, by rw [ht]; exact hP, va_K.moved hW.alike hK, hD⟩, hS.F ht⟩) hS.2.2 dX1_lateralTo_42
    · refine lv_bipush (v := 10) hx hb dX1_lateralTo_30 (by decide) ?_
      refine lv_goto (tgt := 39) hx hb dX1_lateralTo_32 (by decide) ?_
      refine va_put (D := D) (ci := 1) (v := .int 10) (ty := .int) (C := RX1) (T := TX1) (N := 15) hx hb hts hin tyX1 tyX1_ok nmX1 hown hK hP hD hS 0 rfl rfl 11 (by decide) (hts (.fieldLink RX1 33 "ModeDeskModel" "flash0" "I") (by decide +kernel)) (fun _ h9 => h9) rfl (by decide +kernel) rfl rfl (Nat.le_of_ble_eq_true rfl) dX1_lateralTo_39 (fun H11 locs hP hD hS => ?_)
      obtain ⟨u10, eu10⟩ : ∃ y : MS, y = mf_ u5 10 := ⟨_, rfl⟩
      have hP : va_P D vwCl (wM cI cZ h u10) H11 := by rw [eu10]; exact hP
      have hD : va_D A (wM cI cZ h u10) := by rw [eu10]; exact hD
      have hIu10 : InvM (n + 1) u10 := by rw [eu10]; exact InvM.sf hIu5 _
      have hq1 : pX1_lateralTo u a1 a2 = u10 := (by subst eu10; subst eu5; subst eu4; unfold pX1_lateralTo; first | (rw [if_neg c1, if_pos c7]; done) | (rw [if_neg c1, if_pos c7]; rfl))
      exact W.vret hx hb hr (fun t ht hW => ⟨⟨u10, rfl, ⟨hq1.symm, hIu10⟩, by rw [ht]; exact hP, va_K.moved hW.alike hK, hD⟩, hS.F ht⟩) hS.2.2 dX1_lateralTo_42
def pX1_verticalTo (u : MS) (a1 a2 : Int32) : MS := if (mv u) = a1 then (u) else (if a2 = 1 then (mh_ (mv_ (pX1_keep u 1 (mv u) a1 a2) a1) 10) else (mh_ (mv_ (pX1_keep u 1 (mv u) a1 a2) a1) (mh (mv_ (pX1_keep u 1 (mv u) a1 a2) a1))))
set_option maxHeartbeats 4000000 in
set_option maxRecDepth 100000 in
theorem kX1_verticalTo (l : Launch) (D : va_G) (cI cZ : ClassId) (h : Nat → Nat) (sz : Nat) (u : MS) (a1 a2 : Int32) (n : Nat) (hI : InvM n u) (hn : n ≤ 2000000) : Mv l yX1_verticalTo wsX1_verticalTo { frames := 1, cells := 0, slots := 0, locals := 24 } D (tyl cI cZ) (wM cI cZ h) sz u [.ref (h 0), .int a1, .int a2] (fun u9 => u9 = pX1_verticalTo u a1 a2 ∧ InvM (n + 1) u9) := by
  refine Met.ofW (cc := cX1_verticalTo) (maxL := 3) (ret := none) (by decide) rfl ?_
  intro p e s m args below meth c s₁ B hml hv
  obtain ⟨rfl, hsz, hP, hK, hD0⟩ := hv
  have hx := B.exec
  have hb := B.bytes
  have hr := B.returns
  have hts := atoms_spec (ws := wsX1_verticalTo) B.pre
  have hin : ∀ w ∈ wsX10, w ∈ wsX1_verticalTo := fun w h9 => List.mem_cons_of_mem _ (List.mem_append_right _ h9)
  have hown : s.vm.findClass RX1 = some m.cls := findClass_of_methodNamed B.named
  have hlocks := B.notSynchronized
  subst hsz
  have hD : va_D (va_A (wM cI cZ h u) s.heap.size) (wM cI cZ h u) := hD0.self (sz := s.heap.size)
  have hA : ∀ q : Nat, s.heap.size ≤ q → va_A (wM cI cZ h u) s.heap.size q := fun q h9 => Or.inr h9
  have hS : va_S (va_A (wM cI cZ h u) s.heap.size) s.heap s.heap [] := va_S.rf
  have hl := lv_entry ([.ref (h 0), .int a1, .int a2]) (n := 3) (Nat.le_of_ble_eq_true rfl)
  rw [lg_entry_eq]
  generalize (lg_sl ([.ref (h 0), .int a1, .int a2]) ++ List.replicate (3 - (lg_sl ([.ref (h 0), .int a1, .int a2])).length) Slot.unset).toArray = ls at hl ⊢
  have hl : lv_has ls 3 [(0, .ref (h 0)), (1, .int a1), (2, .int a2)] := hl
  generalize va_A (wM cI cZ h u) s.heap.size = A at hD hA hS ⊢
  refine lv_aload_n hx hb dX1_verticalTo_0 rfl (lv_at hl 0 rfl) ?_
  refine va_get (D := D) (ci := 1) (v := .int (mv u)) (C := RX1) (T := TX1) (N := 15) hx hb hts hin hown hK hP 0 rfl rfl 2 (by decide) (hts (.fieldLink RX1 36 "ModeDeskModel" "vertical" "I") (by decide +kernel)) (fun _ h9 => h9) rfl dX1_verticalTo_1 ?_
  refine lv_iload_n hx hb dX1_verticalTo_4 rfl (lv_at hl 1 rfl) ?_
  refine lv_icmp_eq (tgt := 42) hx hb dX1_verticalTo_5 (by decide) (fun c1 => ?_) (fun c1 => ?_)
  · have hq1 : pX1_verticalTo u a1 a2 = u := (by unfold pX1_verticalTo; first | (rw [if_pos c1]; done) | (rw [if_pos c1]; rfl))
    exact W.vret hx hb hr (fun t ht hW => ⟨⟨u, rfl, ⟨hq1.symm, (hI.mono (by omega))⟩, by rw [ht]; exact hP, va_K.moved hW.alike hK, hD⟩, hS.F ht⟩) hS.2.2 dX1_verticalTo_42
  · refine lv_aload_n hx hb dX1_verticalTo_8 rfl (lv_at hl 0 rfl) ?_
    refine lv_iconst (v := 1) hx hb dX1_verticalTo_9 (by decide) ?_
    refine lv_aload_n hx hb dX1_verticalTo_10 rfl (lv_at hl 0 rfl) ?_
    refine va_get (D := D) (ci := 1) (v := .int (mv u)) (C := RX1) (T := TX1) (N := 15) hx hb hts hin hown hK hP 0 rfl rfl 2 (by decide) (hts (.fieldLink RX1 36 "ModeDeskModel" "vertical" "I") (by decide +kernel)) (fun _ h9 => h9) rfl dX1_verticalTo_11 ?_
    refine lv_iload_n hx hb dX1_verticalTo_14 rfl (lv_at hl 1 rfl) ?_
    refine lv_iload_n hx hb dX1_verticalTo_15 rfl (lv_at hl 2 rfl) ?_
    have hFc := va_free (wc := wM cI cZ h u) hD hS hA [0, 1, 2] rfl
    refine va_callv (va_runV (As := [.int 1, .int (mv u), .int a1, .int a2]) (rest := []) ⟨hx, hb, hml, hown, hts⟩ (kX1_keep l D cI cZ h s.heap.size u 1 (mv u) a1 a2 n hI (by omega)) (cwV 4 hts gX1_verticalTo_X1_keep rfl rfl rfl (by decide +kernel) ⟨Nat.le_of_ble_eq_true rfl, Nat.le_of_ble_eq_true rfl⟩) ⟨bl_W, va_recv hK hP (ci := 1) (q0 := 0) rfl rfl, pr_W hP hK hD⟩ rfl rfl hl.1 rfl (lv_room (Nat.le_of_ble_eq_true rfl)) dX1_verticalTo_16 ⟨Nat.zero_le _, Nat.zero_le _⟩) hS (fun q _ h9 => hFc q h9) hFc (fun u4 t H3 locs ht hvm hw hB hz1 hk1 hS => ?_)
    obtain ⟨hP, hK, hD⟩ := af_W hB ht hvm hFc
    clear hFc hB
    obtain ⟨eu4, hIu4⟩ := hw
    refine lv_aload_n hx hb dX1_verticalTo_19 rfl (lv_at hl 0 rfl) ?_
    refine lv_iload_n hx hb dX1_verticalTo_20 rfl (lv_at hl 1 rfl) ?_
    refine va_put (D := D) (ci := 1) (v := .int a1) (ty := .int) (C := RX1) (T := TX1) (N := 15) hx hb hts hin tyX1 tyX1_ok nmX1 hown hK hP hD hS 0 rfl rfl 2 (by decide) (hts (.fieldLink RX1 36 "ModeDeskModel" "vertical" "I") (by decide +kernel)) (fun _ h9 => h9) rfl (by decide +kernel) rfl rfl (Nat.le_of_ble_eq_true rfl) dX1_verticalTo_21 (fun H6 locs hP hD hS => ?_)
    obtain ⟨u5, eu5⟩ : ∃ y : MS, y = mv_ u4 a1 := ⟨_, rfl⟩
    have hP : va_P D vwCl (wM cI cZ h u5) H6 := by rw [eu5]; exact hP
    have hD : va_D A (wM cI cZ h u5) := by rw [eu5]; exact hD
    have hIu5 : InvM (n + 1) u5 := by rw [eu5]; exact InvM.sv hIu4 _
    refine lv_aload_n hx hb dX1_verticalTo_24 rfl (lv_at hl 0 rfl) ?_
    refine lv_iload_n hx hb dX1_verticalTo_25 rfl (lv_at hl 2 rfl) ?_
    refine lv_iconst (v := 1) hx hb dX1_verticalTo_26 (by decide) ?_
    refine lv_icmp_ne (tgt := 35) hx hb dX1_verticalTo_27 (by decide) (fun c7 => ?_) (fun c7 => ?_)
    · refine lv_aload_n hx hb dX1_verticalTo_35 rfl (lv_at hl 0 rfl) ?_
      refine va_get (D := D) (ci := 1) (v := .int (mh u5)) (C := RX1) (T := TX1) (N := 15) hx hb hts hin hown hK hP 0 rfl rfl 12 (by decide) (hts (.fieldLink RX1 39 "ModeDeskModel" "flash1" "I") (by decide +kernel)) (fun _ h9 => h9) rfl dX1_verticalTo_36 ?_
      refine va_put (D := D) (ci := 1) (v := .int (mh u5)) (ty := .int) (C := RX1) (T := TX1) (N := 15) hx hb hts hin tyX1 tyX1_ok nmX1 hown hK hP hD hS 0 rfl rfl 12 (by decide) (hts (.fieldLink RX1 39 "ModeDeskModel" "flash1" "I") (by decide +kernel)) (fun _ h9 => h9) rfl (by decide +kernel) rfl rfl (Nat.le_of_ble_eq_true rfl) dX1_verticalTo_39 (fun H9 locs hP hD hS => ?_)
      obtain ⟨u8, eu8⟩ : ∃ y : MS, y = mh_ u5 (mh u5) := ⟨_, rfl⟩
      have hP : va_P D vwCl (wM cI cZ h u8) H9 := by rw [eu8]; exact hP
      have hD : va_D A (wM cI cZ h u8) := by rw [eu8]; exact hD
      have hIu8 : InvM (n + 1) u8 := by rw [eu8]; exact InvM.sh hIu5 _
      have hq1 : pX1_verticalTo u a1 a2 = u8 := (by subst eu8; subst eu5; subst eu4; unfold pX1_verticalTo; first | (rw [if_neg c1, if_neg c7]; done) | (rw [if_neg c1, if_neg c7]; rfl))
      exact W.vret hx hb hr (fun t ht hW => ⟨⟨u8, rfl, ⟨hq1.symm, hIu8⟩, by rw [ht]; exact hP, va_K.moved hW.alike hK, hD⟩, hS.F ht⟩) hS.2.2 dX1_verticalTo_42
    · refine lv_bipush (v := 10) hx hb dX1_verticalTo_30 (by decide) ?_
      refine lv_goto (tgt := 39) hx hb dX1_verticalTo_32 (by decide) ?_
      refine va_put (D := D) (ci := 1) (v := .int 10) (ty := .int) (C := RX1) (T := TX1) (N := 15) hx hb hts hin tyX1 tyX1_ok nmX1 hown hK hP hD hS 0 rfl rfl 12 (by decide) (hts (.fieldLink RX1 39 "ModeDeskModel" "flash1" "I") (by decide +kernel)) (fun _ h9 => h9) rfl (by decide +kernel) rfl rfl (Nat.le_of_ble_eq_true rfl) dX1_verticalTo_39 (fun H11 locs hP hD hS => ?_)
      obtain ⟨u10, eu10⟩ : ∃ y : MS, y = mh_ u5 10 := ⟨_, rfl⟩
      have hP : va_P D vwCl (wM cI cZ h u10) H11 := by rw [eu10]; exact hP
      have hD : va_D A (wM cI cZ h u10) := by rw [eu10]; exact hD
      have hIu10 : InvM (n + 1) u10 := by rw [eu10]; exact InvM.sh hIu5 _
      have hq1 : pX1_verticalTo u a1 a2 = u10 := (by subst eu10; subst eu5; subst eu4; unfold pX1_verticalTo; first | (rw [if_neg c1, if_pos c7]; done) | (rw [if_neg c1, if_pos c7]; rfl))
      exact W.vret hx hb hr (fun t ht hW => ⟨⟨u10, rfl, ⟨hq1.symm, hIu10⟩, by rw [ht]; exact hP, va_K.moved hW.alike hK, hD⟩, hS.F ht⟩) hS.2.2 dX1_verticalTo_42
def pX1_noneArmed (u : MS) : MS := mg_ (ma_ u 0) 0
set_option maxHeartbeats 4000000 in
set_option maxRecDepth 100000 in
theorem kX1_noneArmed (l : Launch) (D : va_G) (cI cZ : ClassId) (h : Nat → Nat) (sz : Nat) (u : MS) (n : Nat) (hI : InvM n u) (hn : n ≤ 2000000) : Mv l yX1_noneArmed wsX1_noneArmed { frames := 0, cells := 0, slots := 0, locals := 0 } D (tyl cI cZ) (wM cI cZ h) sz u [.ref (h 0)] (fun u9 => u9 = pX1_noneArmed u ∧ InvM n u9) := by
  refine Met.ofW (cc := cX1_noneArmed) (maxL := 1) (ret := none) (by decide) rfl ?_
  intro p e s m args below meth c s₁ B hml hv
  obtain ⟨rfl, hsz, hP, hK, hD0⟩ := hv
  have hx := B.exec
  have hb := B.bytes
  have hr := B.returns
  have hts := atoms_spec (ws := wsX1_noneArmed) B.pre
  have hin : ∀ w ∈ wsX10, w ∈ wsX1_noneArmed := fun w h9 => List.mem_cons_of_mem _ (List.mem_append_right _ h9)
  have hown : s.vm.findClass RX1 = some m.cls := findClass_of_methodNamed B.named
  have hlocks := B.notSynchronized
  subst hsz
  have hD : va_D (va_A (wM cI cZ h u) s.heap.size) (wM cI cZ h u) := hD0.self (sz := s.heap.size)
  have hA : ∀ q : Nat, s.heap.size ≤ q → va_A (wM cI cZ h u) s.heap.size q := fun q h9 => Or.inr h9
  have hS : va_S (va_A (wM cI cZ h u) s.heap.size) s.heap s.heap [] := va_S.rf
  have hl := lv_entry ([.ref (h 0)]) (n := 1) (Nat.le_of_ble_eq_true rfl)
  rw [lg_entry_eq]
  generalize (lg_sl ([.ref (h 0)]) ++ List.replicate (1 - (lg_sl ([.ref (h 0)])).length) Slot.unset).toArray = ls at hl ⊢
  have hl : lv_has ls 1 [(0, .ref (h 0))] := hl
  generalize va_A (wM cI cZ h u) s.heap.size = A at hD hA hS ⊢
  refine lv_aload_n hx hb dX1_noneArmed_0 rfl (lv_at hl 0 rfl) ?_
  refine lv_iconst (v := 0) hx hb dX1_noneArmed_1 (by decide) ?_
  refine va_put (D := D) (ci := 1) (v := .int 0) (ty := .int) (C := RX1) (T := TX1) (N := 15) hx hb hts hin tyX1 tyX1_ok nmX1 hown hK hP hD hS 0 rfl rfl 3 (by decide) (hts (.fieldLink RX1 42 "ModeDeskModel" "armedLateral" "I") (by decide +kernel)) (fun _ h9 => h9) rfl (by decide +kernel) rfl rfl (Nat.le_of_ble_eq_true rfl) dX1_noneArmed_2 (fun H2 locs hP hD hS => ?_)
  obtain ⟨u1, eu1⟩ : ∃ y : MS, y = ma_ u 0 := ⟨_, rfl⟩
  have hP : va_P D vwCl (wM cI cZ h u1) H2 := by rw [eu1]; exact hP
  have hD : va_D A (wM cI cZ h u1) := by rw [eu1]; exact hD
  have hIu1 : InvM n u1 := by rw [eu1]; exact InvM.sa hI _
  refine lv_aload_n hx hb dX1_noneArmed_5 rfl (lv_at hl 0 rfl) ?_
  refine lv_iconst (v := 0) hx hb dX1_noneArmed_6 (by decide) ?_
  refine va_put (D := D) (ci := 1) (v := .int 0) (ty := .boolean) (C := RX1) (T := TX1) (N := 15) hx hb hts hin tyX1 tyX1_ok nmX1 hown hK hP hD hS 0 rfl rfl 4 (by decide) (hts (.fieldLink RX1 45 "ModeDeskModel" "armedGlide" "Z") (by decide +kernel)) (fun _ h9 => h9) rfl (by decide +kernel) (bz_n bz0) (bz_f bz0) (Nat.le_of_ble_eq_true rfl) dX1_noneArmed_7 (fun H4 locs hP hD hS => ?_)
  obtain ⟨u3, eu3⟩ : ∃ y : MS, y = mg_ u1 0 := ⟨_, rfl⟩
  have hP : va_P D vwCl (wM cI cZ h u3) H4 := by rw [eu3]; exact hP
  have hD : va_D A (wM cI cZ h u3) := by rw [eu3]; exact hD
  have hIu3 : InvM n u3 := by rw [eu3]; exact InvM.sg hIu1 bz0
  have hq1 : pX1_noneArmed u = u3 := (by subst eu3; subst eu1; rfl)
  exact W.vret hx hb hr (fun t ht hW => ⟨⟨u3, rfl, ⟨hq1.symm, hIu3⟩, by rw [ht]; exact hP, va_K.moved hW.alike hK, hD⟩, hS.F ht⟩) hS.2.2 dX1_noneArmed_10
def pX1_base (u : MS) (a1 : Int32) : MS := pX1_verticalTo (pX1_lateralTo (pX1_noneArmed u) 1 a1) 1 a1
set_option maxHeartbeats 4000000 in
set_option maxRecDepth 100000 in
theorem kX1_base (l : Launch) (D : va_G) (cI cZ : ClassId) (h : Nat → Nat) (sz : Nat) (u : MS) (a1 : Int32) (n : Nat) (hI : InvM n u) (hn : n ≤ 1999990) : Mv l yX1_base wsX1_base { frames := 2, cells := 0, slots := 0, locals := 46 } D (tyl cI cZ) (wM cI cZ h) sz u [.ref (h 0), .int a1] (fun u9 => u9 = pX1_base u a1 ∧ InvM (n + 2) u9) := by
  refine Met.ofW (cc := cX1_base) (maxL := 2) (ret := none) (by decide) rfl ?_
  intro p e s m args below meth c s₁ B hml hv
  obtain ⟨rfl, hsz, hP, hK, hD0⟩ := hv
  have hx := B.exec
  have hb := B.bytes
  have hr := B.returns
  have hts := atoms_spec (ws := wsX1_base) B.pre
  have hin : ∀ w ∈ wsX10, w ∈ wsX1_base := fun w h9 => List.mem_cons_of_mem _ (List.mem_append_right _ h9)
  have hown : s.vm.findClass RX1 = some m.cls := findClass_of_methodNamed B.named
  have hlocks := B.notSynchronized
  subst hsz
  have hD : va_D (va_A (wM cI cZ h u) s.heap.size) (wM cI cZ h u) := hD0.self (sz := s.heap.size)
  have hA : ∀ q : Nat, s.heap.size ≤ q → va_A (wM cI cZ h u) s.heap.size q := fun q h9 => Or.inr h9
  have hS : va_S (va_A (wM cI cZ h u) s.heap.size) s.heap s.heap [] := va_S.rf
  have hl := lv_entry ([.ref (h 0), .int a1]) (n := 2) (Nat.le_of_ble_eq_true rfl)
  rw [lg_entry_eq]
  generalize (lg_sl ([.ref (h 0), .int a1]) ++ List.replicate (2 - (lg_sl ([.ref (h 0), .int a1])).length) Slot.unset).toArray = ls at hl ⊢
  have hl : lv_has ls 2 [(0, .ref (h 0)), (1, .int a1)] := hl
  generalize va_A (wM cI cZ h u) s.heap.size = A at hD hA hS ⊢
  refine lv_aload_n hx hb dX1_base_0 rfl (lv_at hl 0 rfl) ?_
  have hFc := va_free (wc := wM cI cZ h u) hD hS hA [0, 1, 2] rfl
  refine va_callv (va_runV (As := []) (rest := []) ⟨hx, hb, hml, hown, hts⟩ (kX1_noneArmed l D cI cZ h s.heap.size u  n hI (by omega)) (cwV 0 hts gX1_base_X1_noneArmed rfl rfl rfl (by decide +kernel) ⟨Nat.le_of_ble_eq_true rfl, Nat.le_of_ble_eq_true rfl⟩) ⟨bl_W, va_recv hK hP (ci := 1) (q0 := 0) rfl rfl, pr_W hP hK hD⟩ rfl rfl hl.1 rfl (lv_room (Nat.le_of_ble_eq_true rfl)) dX1_base_1 ⟨Nat.zero_le _, Nat.zero_le _⟩) hS (fun q _ h9 => hFc q h9) hFc (fun u3 t H2 locs ht hvm hw hB hz1 hk1 hS => ?_)
  obtain ⟨hP, hK, hD⟩ := af_W hB ht hvm hFc
  clear hFc hB
  obtain ⟨eu3, hIu3⟩ := hw
  refine lv_aload_n hx hb dX1_base_4 rfl (lv_at hl 0 rfl) ?_
  refine lv_iconst (v := 1) hx hb dX1_base_5 (by decide) ?_
  refine lv_iload_n hx hb dX1_base_6 rfl (lv_at hl 1 rfl) ?_
  have hFc := va_free (wc := wM cI cZ h u3) hD hS hA [0, 1, 2] rfl
  refine va_callv (va_runV (As := [.int 1, .int a1]) (rest := []) ⟨hx, hb, hml, hown, hts⟩ (kX1_lateralTo l D cI cZ h H2.size u3 1 a1 n hIu3 (by omega)) (cwV 2 hts gX1_base_X1_lateralTo rfl rfl rfl (by decide +kernel) ⟨Nat.le_of_ble_eq_true rfl, Nat.le_of_ble_eq_true rfl⟩) ⟨bl_W, va_recv hK hP (ci := 1) (q0 := 0) rfl rfl, pr_W hP hK hD⟩ rfl rfl hl.1 rfl (lv_room (Nat.le_of_ble_eq_true rfl)) dX1_base_7 ⟨Nat.zero_le _, Nat.zero_le _⟩) hS (fun q _ h9 => hFc q h9) hFc (fun u6 t H5 locs ht hvm hw hB hz1 hk1 hS => ?_)
  obtain ⟨hP, hK, hD⟩ := af_W hB ht hvm hFc
  clear hFc hB
  obtain ⟨eu6, hIu6⟩ := hw
  refine lv_aload_n hx hb dX1_base_10 rfl (lv_at hl 0 rfl) ?_
  refine lv_iconst (v := 1) hx hb dX1_base_11 (by decide) ?_
  refine lv_iload_n hx hb dX1_base_12 rfl (lv_at hl 1 rfl) ?_
  have hFc := va_free (wc := wM cI cZ h u6) hD hS hA [0, 1, 2] rfl
  refine va_callv (va_runV (As := [.int 1, .int a1]) (rest := []) ⟨hx, hb, hml, hown, hts⟩ (kX1_verticalTo l D cI cZ h H5.size u6 1 a1 (n + 1) hIu6 (by omega)) (cwV 2 hts gX1_base_X1_verticalTo rfl rfl rfl (by decide +kernel) ⟨Nat.le_of_ble_eq_true rfl, Nat.le_of_ble_eq_true rfl⟩) ⟨bl_W, va_recv hK hP (ci := 1) (q0 := 0) rfl rfl, pr_W hP hK hD⟩ rfl rfl hl.1 rfl (lv_room (Nat.le_of_ble_eq_true rfl)) dX1_base_13 ⟨Nat.zero_le _, Nat.zero_le _⟩) hS (fun q _ h9 => hFc q h9) hFc (fun u9 t H8 locs ht hvm hw hB hz1 hk1 hS => ?_)
  obtain ⟨hP, hK, hD⟩ := af_W hB ht hvm hFc
  clear hFc hB
  obtain ⟨eu9, hIu9⟩ := hw
  have hIu9 : InvM (n + 2) u9 := hIu9.mono (by omega)
  have hq1 : pX1_base u a1 = u9 := (by subst eu9; subst eu6; subst eu3; rfl)
  exact W.vret hx hb hr (fun t ht hW => ⟨⟨u9, rfl, ⟨hq1.symm, hIu9⟩, by rw [ht]; exact hP, va_K.moved hW.alike hK, hD⟩, hS.F ht⟩) hS.2.2 dX1_base_16
def pX1_goOff (u : MS) (a1 : Int32) : MS := if (mw (pX1_noneArmed u)) = 0 then (if (me (pX1_noneArmed u)) = 0 then (mh_ (mf_ (pX1_verticalTo (pX1_lateralTo (me_ (mw_ (pX1_noneArmed u) 0) 0) 0 a1) 0 a1) 0) 0) else (mh_ (mf_ (pX1_verticalTo (pX1_lateralTo (me_ (mw_ (pX1_noneArmed u) 1) 0) 0 a1) 0 a1) 0) 0)) else (mh_ (mf_ (pX1_verticalTo (pX1_lateralTo (me_ (mw_ (pX1_noneArmed u) 1) 0) 0 a1) 0 a1) 0) 0)
set_option maxHeartbeats 4000000 in
set_option maxRecDepth 100000 in
theorem kX1_goOff (l : Launch) (D : va_G) (cI cZ : ClassId) (h : Nat → Nat) (sz : Nat) (u : MS) (a1 : Int32) (n : Nat) (hI : InvM n u) (hn : n ≤ 1999990) : Mv l yX1_goOff wsX1_goOff { frames := 2, cells := 0, slots := 0, locals := 46 } D (tyl cI cZ) (wM cI cZ h) sz u [.ref (h 0), .int a1] (fun u9 => u9 = pX1_goOff u a1 ∧ InvM (n + 2) u9) := by
  refine Met.ofW (cc := cX1_goOff) (maxL := 2) (ret := none) (by decide) rfl ?_
  intro p e s m args below meth c s₁ B hml hv
  obtain ⟨rfl, hsz, hP, hK, hD0⟩ := hv
  have hx := B.exec
  have hb := B.bytes
  have hr := B.returns
  have hts := atoms_spec (ws := wsX1_goOff) B.pre
  have hin : ∀ w ∈ wsX10, w ∈ wsX1_goOff := fun w h9 => List.mem_cons_of_mem _ (List.mem_append_right _ h9)
  have hown : s.vm.findClass RX1 = some m.cls := findClass_of_methodNamed B.named
  have hlocks := B.notSynchronized
  subst hsz
  have hD : va_D (va_A (wM cI cZ h u) s.heap.size) (wM cI cZ h u) := hD0.self (sz := s.heap.size)
  have hA : ∀ q : Nat, s.heap.size ≤ q → va_A (wM cI cZ h u) s.heap.size q := fun q h9 => Or.inr h9
  have hS : va_S (va_A (wM cI cZ h u) s.heap.size) s.heap s.heap [] := va_S.rf
  have hl := lv_entry ([.ref (h 0), .int a1]) (n := 2) (Nat.le_of_ble_eq_true rfl)
  rw [lg_entry_eq]
  generalize (lg_sl ([.ref (h 0), .int a1]) ++ List.replicate (2 - (lg_sl ([.ref (h 0), .int a1])).length) Slot.unset).toArray = ls at hl ⊢
  have hl : lv_has ls 2 [(0, .ref (h 0)), (1, .int a1)] := hl
  generalize va_A (wM cI cZ h u) s.heap.size = A at hD hA hS ⊢
  refine lv_aload_n hx hb dX1_goOff_0 rfl (lv_at hl 0 rfl) ?_
  have hFc := va_free (wc := wM cI cZ h u) hD hS hA [0, 1, 2] rfl
  refine va_callv (va_runV (As := []) (rest := []) ⟨hx, hb, hml, hown, hts⟩ (kX1_noneArmed l D cI cZ h s.heap.size u  n hI (by omega)) (cwV 0 hts gX1_goOff_X1_noneArmed rfl rfl rfl (by decide +kernel) ⟨Nat.le_of_ble_eq_true rfl, Nat.le_of_ble_eq_true rfl⟩) ⟨bl_W, va_recv hK hP (ci := 1) (q0 := 0) rfl rfl, pr_W hP hK hD⟩ rfl rfl hl.1 rfl (lv_room (Nat.le_of_ble_eq_true rfl)) dX1_goOff_1 ⟨Nat.zero_le _, Nat.zero_le _⟩) hS (fun q _ h9 => hFc q h9) hFc (fun u3 t H2 locs ht hvm hw hB hz1 hk1 hS => ?_)
  obtain ⟨hP, hK, hD⟩ := af_W hB ht hvm hFc
  clear hFc hB
  obtain ⟨eu3, hIu3⟩ := hw
  refine lv_aload_n hx hb dX1_goOff_4 rfl (lv_at hl 0 rfl) ?_
  refine lv_aload_n hx hb dX1_goOff_5 rfl (lv_at hl 0 rfl) ?_
  refine va_get (D := D) (ci := 1) (v := .int (mw u3)) (C := RX1) (T := TX1) (N := 15) hx hb hts hin hown hK hP 0 rfl rfl 6 (by decide) (hts (.fieldLink RX1 59 "ModeDeskModel" "warning" "Z") (by decide +kernel)) (fun _ h9 => h9) rfl dX1_goOff_6 ?_
  refine lv_if_ne (tgt := 19) hx hb dX1_goOff_9 (by decide) (fun c4 => ?_) (fun c4 => ?_)
  · refine lv_iconst (v := 1) hx hb dX1_goOff_19 (by decide) ?_
    refine lv_goto (tgt := 24) hx hb dX1_goOff_20 (by decide) ?_
    refine va_put (D := D) (ci := 1) (v := .int 1) (ty := .boolean) (C := RX1) (T := TX1) (N := 15) hx hb hts hin tyX1 tyX1_ok nmX1 hown hK hP hD hS 0 rfl rfl 6 (by decide) (hts (.fieldLink RX1 59 "ModeDeskModel" "warning" "Z") (by decide +kernel)) (fun _ h9 => h9) rfl (by decide +kernel) (bz_n bz1) (bz_f bz1) (Nat.le_of_ble_eq_true rfl) dX1_goOff_24 (fun H6 locs hP hD hS => ?_)
    obtain ⟨u5, eu5⟩ : ∃ y : MS, y = mw_ u3 1 := ⟨_, rfl⟩
    have hP : va_P D vwCl (wM cI cZ h u5) H6 := by rw [eu5]; exact hP
    have hD : va_D A (wM cI cZ h u5) := by rw [eu5]; exact hD
    have hIu5 : InvM n u5 := by rw [eu5]; exact InvM.sw hIu3 bz1
    refine lv_aload_n hx hb dX1_goOff_27 rfl (lv_at hl 0 rfl) ?_
    refine lv_iconst (v := 0) hx hb dX1_goOff_28 (by decide) ?_
    refine va_put (D := D) (ci := 1) (v := .int 0) (ty := .boolean) (C := RX1) (T := TX1) (N := 15) hx hb hts hin tyX1 tyX1_ok nmX1 hown hK hP hD hS 0 rfl rfl 5 (by decide) (hts (.fieldLink RX1 62 "ModeDeskModel" "engaged" "Z") (by decide +kernel)) (fun _ h9 => h9) rfl (by decide +kernel) (bz_n bz0) (bz_f bz0) (Nat.le_of_ble_eq_true rfl) dX1_goOff_29 (fun H8 locs hP hD hS => ?_)
    obtain ⟨u7, eu7⟩ : ∃ y : MS, y = me_ u5 0 := ⟨_, rfl⟩
    have hP : va_P D vwCl (wM cI cZ h u7) H8 := by rw [eu7]; exact hP
    have hD : va_D A (wM cI cZ h u7) := by rw [eu7]; exact hD
    have hIu7 : InvM n u7 := by rw [eu7]; exact InvM.se hIu5 bz0
    refine lv_aload_n hx hb dX1_goOff_32 rfl (lv_at hl 0 rfl) ?_
    refine lv_iconst (v := 0) hx hb dX1_goOff_33 (by decide) ?_
    refine lv_iload_n hx hb dX1_goOff_34 rfl (lv_at hl 1 rfl) ?_
    have hFc := va_free (wc := wM cI cZ h u7) hD hS hA [0, 1, 2] rfl
    refine va_callv (va_runV (As := [.int 0, .int a1]) (rest := []) ⟨hx, hb, hml, hown, hts⟩ (kX1_lateralTo l D cI cZ h H8.size u7 0 a1 n hIu7 (by omega)) (cwV 2 hts gX1_goOff_X1_lateralTo rfl rfl rfl (by decide +kernel) ⟨Nat.le_of_ble_eq_true rfl, Nat.le_of_ble_eq_true rfl⟩) ⟨bl_W, va_recv hK hP (ci := 1) (q0 := 0) rfl rfl, pr_W hP hK hD⟩ rfl rfl hl.1 rfl (lv_room (Nat.le_of_ble_eq_true rfl)) dX1_goOff_35 ⟨Nat.zero_le _, Nat.zero_le _⟩) hS (fun q _ h9 => hFc q h9) hFc (fun u11 t H10 locs ht hvm hw hB hz1 hk1 hS => ?_)
    obtain ⟨hP, hK, hD⟩ := af_W hB ht hvm hFc
    clear hFc hB
    obtain ⟨eu11, hIu11⟩ := hw
    refine lv_aload_n hx hb dX1_goOff_38 rfl (lv_at hl 0 rfl) ?_
    refine lv_iconst (v := 0) hx hb dX1_goOff_39 (by decide) ?_
    refine lv_iload_n hx hb dX1_goOff_40 rfl (lv_at hl 1 rfl) ?_
    have hFc := va_free (wc := wM cI cZ h u11) hD hS hA [0, 1, 2] rfl
    refine va_callv (va_runV (As := [.int 0, .int a1]) (rest := []) ⟨hx, hb, hml, hown, hts⟩ (kX1_verticalTo l D cI cZ h H10.size u11 0 a1 (n + 1) hIu11 (by omega)) (cwV 2 hts gX1_goOff_X1_verticalTo rfl rfl rfl (by decide +kernel) ⟨Nat.le_of_ble_eq_true rfl, Nat.le_of_ble_eq_true rfl⟩) ⟨bl_W, va_recv hK hP (ci := 1) (q0 := 0) rfl rfl, pr_W hP hK hD⟩ rfl rfl hl.1 rfl (lv_room (Nat.le_of_ble_eq_true rfl)) dX1_goOff_41 ⟨Nat.zero_le _, Nat.zero_le _⟩) hS (fun q _ h9 => hFc q h9) hFc (fun u14 t H13 locs ht hvm hw hB hz1 hk1 hS => ?_)
    obtain ⟨hP, hK, hD⟩ := af_W hB ht hvm hFc
    clear hFc hB
    obtain ⟨eu14, hIu14⟩ := hw
    have hIu14 : InvM (n + 2) u14 := hIu14.mono (by omega)
    refine lv_aload_n hx hb dX1_goOff_44 rfl (lv_at hl 0 rfl) ?_
    refine lv_iconst (v := 0) hx hb dX1_goOff_45 (by decide) ?_
    refine va_put (D := D) (ci := 1) (v := .int 0) (ty := .int) (C := RX1) (T := TX1) (N := 15) hx hb hts hin tyX1 tyX1_ok nmX1 hown hK hP hD hS 0 rfl rfl 11 (by decide) (hts (.fieldLink RX1 33 "ModeDeskModel" "flash0" "I") (by decide +kernel)) (fun _ h9 => h9) rfl (by decide +kernel) rfl rfl (Nat.le_of_ble_eq_true rfl) dX1_goOff_46 (fun H16 locs hP hD hS => ?_)
    obtain ⟨u15, eu15⟩ : ∃ y : MS, y = mf_ u14 0 := ⟨_, rfl⟩
    have hP : va_P D vwCl (wM cI cZ h u15) H16 := by rw [eu15]; exact hP
    have hD : va_D A (wM cI cZ h u15) := by rw [eu15]; exact hD
    have hIu15 : InvM (n + 2) u15 := by rw [eu15]; exact InvM.sf hIu14 _
    refine lv_aload_n hx hb dX1_goOff_49 rfl (lv_at hl 0 rfl) ?_
    refine lv_iconst (v := 0) hx hb dX1_goOff_50 (by decide) ?_
    refine va_put (D := D) (ci := 1) (v := .int 0) (ty := .int) (C := RX1) (T := TX1) (N := 15) hx hb hts hin tyX1 tyX1_ok nmX1 hown hK hP hD hS 0 rfl rfl 12 (by decide) (hts (.fieldLink RX1 39 "ModeDeskModel" "flash1" "I") (by decide +kernel)) (fun _ h9 => h9) rfl (by decide +kernel) rfl rfl (Nat.le_of_ble_eq_true rfl) dX1_goOff_51 (fun H18 locs hP hD hS => ?_)
    obtain ⟨u17, eu17⟩ : ∃ y : MS, y = mh_ u15 0 := ⟨_, rfl⟩
    have hP : va_P D vwCl (wM cI cZ h u17) H18 := by rw [eu17]; exact hP
    have hD : va_D A (wM cI cZ h u17) := by rw [eu17]; exact hD
    have hIu17 : InvM (n + 2) u17 := by rw [eu17]; exact InvM.sh hIu15 _
    have hq1 : pX1_goOff u a1 = u17 := (by subst eu17; subst eu15; subst eu14; subst eu11; subst eu7; subst eu5; subst eu3; unfold pX1_goOff; first | (rw [if_neg c4]; done) | (rw [if_neg c4]; rfl))
    exact W.vret hx hb hr (fun t ht hW => ⟨⟨u17, rfl, ⟨hq1.symm, hIu17⟩, by rw [ht]; exact hP, va_K.moved hW.alike hK, hD⟩, hS.F ht⟩) hS.2.2 dX1_goOff_54
  · refine lv_aload_n hx hb dX1_goOff_12 rfl (lv_at hl 0 rfl) ?_
    refine va_get (D := D) (ci := 1) (v := .int (me u3)) (C := RX1) (T := TX1) (N := 15) hx hb hts hin hown hK hP 0 rfl rfl 5 (by decide) (hts (.fieldLink RX1 62 "ModeDeskModel" "engaged" "Z") (by decide +kernel)) (fun _ h9 => h9) rfl dX1_goOff_13 ?_
    refine lv_if_eq (tgt := 23) hx hb dX1_goOff_16 (by decide) (fun c19 => ?_) (fun c19 => ?_)
    · refine lv_iconst (v := 0) hx hb dX1_goOff_23 (by decide) ?_
      refine va_put (D := D) (ci := 1) (v := .int 0) (ty := .boolean) (C := RX1) (T := TX1) (N := 15) hx hb hts hin tyX1 tyX1_ok nmX1 hown hK hP hD hS 0 rfl rfl 6 (by decide) (hts (.fieldLink RX1 59 "ModeDeskModel" "warning" "Z") (by decide +kernel)) (fun _ h9 => h9) rfl (by decide +kernel) (bz_n bz0) (bz_f bz0) (Nat.le_of_ble_eq_true rfl) dX1_goOff_24 (fun H21 locs hP hD hS => ?_)
      obtain ⟨u20, eu20⟩ : ∃ y : MS, y = mw_ u3 0 := ⟨_, rfl⟩
      have hP : va_P D vwCl (wM cI cZ h u20) H21 := by rw [eu20]; exact hP
      have hD : va_D A (wM cI cZ h u20) := by rw [eu20]; exact hD
      have hIu20 : InvM n u20 := by rw [eu20]; exact InvM.sw hIu3 bz0
      refine lv_aload_n hx hb dX1_goOff_27 rfl (lv_at hl 0 rfl) ?_
      refine lv_iconst (v := 0) hx hb dX1_goOff_28 (by decide) ?_
      refine va_put (D := D) (ci := 1) (v := .int 0) (ty := .boolean) (C := RX1) (T := TX1) (N := 15) hx hb hts hin tyX1 tyX1_ok nmX1 hown hK hP hD hS 0 rfl rfl 5 (by decide) (hts (.fieldLink RX1 62 "ModeDeskModel" "engaged" "Z") (by decide +kernel)) (fun _ h9 => h9) rfl (by decide +kernel) (bz_n bz0) (bz_f bz0) (Nat.le_of_ble_eq_true rfl) dX1_goOff_29 (fun H23 locs hP hD hS => ?_)
      obtain ⟨u22, eu22⟩ : ∃ y : MS, y = me_ u20 0 := ⟨_, rfl⟩
      have hP : va_P D vwCl (wM cI cZ h u22) H23 := by rw [eu22]; exact hP
      have hD : va_D A (wM cI cZ h u22) := by rw [eu22]; exact hD
      have hIu22 : InvM n u22 := by rw [eu22]; exact InvM.se hIu20 bz0
      refine lv_aload_n hx hb dX1_goOff_32 rfl (lv_at hl 0 rfl) ?_
      refine lv_iconst (v := 0) hx hb dX1_goOff_33 (by decide) ?_
      refine lv_iload_n hx hb dX1_goOff_34 rfl (lv_at hl 1 rfl) ?_
      have hFc := va_free (wc := wM cI cZ h u22) hD hS hA [0, 1, 2] rfl
      refine va_callv (va_runV (As := [.int 0, .int a1]) (rest := []) ⟨hx, hb, hml, hown, hts⟩ (kX1_lateralTo l D cI cZ h H23.size u22 0 a1 n hIu22 (by omega)) (cwV 2 hts gX1_goOff_X1_lateralTo rfl rfl rfl (by decide +kernel) ⟨Nat.le_of_ble_eq_true rfl, Nat.le_of_ble_eq_true rfl⟩) ⟨bl_W, va_recv hK hP (ci := 1) (q0 := 0) rfl rfl, pr_W hP hK hD⟩ rfl rfl hl.1 rfl (lv_room (Nat.le_of_ble_eq_true rfl)) dX1_goOff_35 ⟨Nat.zero_le _, Nat.zero_le _⟩) hS (fun q _ h9 => hFc q h9) hFc (fun u26 t H25 locs ht hvm hw hB hz1 hk1 hS => ?_)
      obtain ⟨hP, hK, hD⟩ := af_W hB ht hvm hFc
      clear hFc hB
      obtain ⟨eu26, hIu26⟩ := hw
      refine lv_aload_n hx hb dX1_goOff_38 rfl (lv_at hl 0 rfl) ?_
      refine lv_iconst (v := 0) hx hb dX1_goOff_39 (by decide) ?_
      refine lv_iload_n hx hb dX1_goOff_40 rfl (lv_at hl 1 rfl) ?_
      have hFc := va_free (wc := wM cI cZ h u26) hD hS hA [0, 1, 2] rfl
      refine va_callv (va_runV (As := [.int 0, .int a1]) (rest := []) ⟨hx, hb, hml, hown, hts⟩ (kX1_verticalTo l D cI cZ h H25.size u26 0 a1 (n + 1) hIu26 (by omega)) (cwV 2 hts gX1_goOff_X1_verticalTo rfl rfl rfl (by decide +kernel) ⟨Nat.le_of_ble_eq_true rfl, Nat.le_of_ble_eq_true rfl⟩) ⟨bl_W, va_recv hK hP (ci := 1) (q0 := 0) rfl rfl, pr_W hP hK hD⟩ rfl rfl hl.1 rfl (lv_room (Nat.le_of_ble_eq_true rfl)) dX1_goOff_41 ⟨Nat.zero_le _, Nat.zero_le _⟩) hS (fun q _ h9 => hFc q h9) hFc (fun u29 t H28 locs ht hvm hw hB hz1 hk1 hS => ?_)
      obtain ⟨hP, hK, hD⟩ := af_W hB ht hvm hFc
      clear hFc hB
      obtain ⟨eu29, hIu29⟩ := hw
      have hIu29 : InvM (n + 2) u29 := hIu29.mono (by omega)
      refine lv_aload_n hx hb dX1_goOff_44 rfl (lv_at hl 0 rfl) ?_
      refine lv_iconst (v := 0) hx hb dX1_goOff_45 (by decide) ?_
      refine va_put (D := D) (ci := 1) (v := .int 0) (ty := .int) (C := RX1) (T := TX1) (N := 15) hx hb hts hin tyX1 tyX1_ok nmX1 hown hK hP hD hS 0 rfl rfl 11 (by decide) (hts (.fieldLink RX1 33 "ModeDeskModel" "flash0" "I") (by decide +kernel)) (fun _ h9 => h9) rfl (by decide +kernel) rfl rfl (Nat.le_of_ble_eq_true rfl) dX1_goOff_46 (fun H31 locs hP hD hS => ?_)
      obtain ⟨u30, eu30⟩ : ∃ y : MS, y = mf_ u29 0 := ⟨_, rfl⟩
      have hP : va_P D vwCl (wM cI cZ h u30) H31 := by rw [eu30]; exact hP
      have hD : va_D A (wM cI cZ h u30) := by rw [eu30]; exact hD
      have hIu30 : InvM (n + 2) u30 := by rw [eu30]; exact InvM.sf hIu29 _
      refine lv_aload_n hx hb dX1_goOff_49 rfl (lv_at hl 0 rfl) ?_
      refine lv_iconst (v := 0) hx hb dX1_goOff_50 (by decide) ?_
      refine va_put (D := D) (ci := 1) (v := .int 0) (ty := .int) (C := RX1) (T := TX1) (N := 15) hx hb hts hin tyX1 tyX1_ok nmX1 hown hK hP hD hS 0 rfl rfl 12 (by decide) (hts (.fieldLink RX1 39 "ModeDeskModel" "flash1" "I") (by decide +kernel)) (fun _ h9 => h9) rfl (by decide +kernel) rfl rfl (Nat.le_of_ble_eq_true rfl) dX1_goOff_51 (fun H33 locs hP hD hS => ?_)
      obtain ⟨u32, eu32⟩ : ∃ y : MS, y = mh_ u30 0 := ⟨_, rfl⟩
      have hP : va_P D vwCl (wM cI cZ h u32) H33 := by rw [eu32]; exact hP
      have hD : va_D A (wM cI cZ h u32) := by rw [eu32]; exact hD
      have hIu32 : InvM (n + 2) u32 := by rw [eu32]; exact InvM.sh hIu30 _
      have hq1 : pX1_goOff u a1 = u32 := (by subst eu32; subst eu30; subst eu29; subst eu26; subst eu22; subst eu20; subst eu3; unfold pX1_goOff; first | (rw [if_pos c4, if_pos c19]; done) | (rw [if_pos c4, if_pos c19]; rfl))
      exact W.vret hx hb hr (fun t ht hW => ⟨⟨u32, rfl, ⟨hq1.symm, hIu32⟩, by rw [ht]; exact hP, va_K.moved hW.alike hK, hD⟩, hS.F ht⟩) hS.2.2 dX1_goOff_54
    · refine lv_iconst (v := 1) hx hb dX1_goOff_19 (by decide) ?_
      refine lv_goto (tgt := 24) hx hb dX1_goOff_20 (by decide) ?_
      refine va_put (D := D) (ci := 1) (v := .int 1) (ty := .boolean) (C := RX1) (T := TX1) (N := 15) hx hb hts hin tyX1 tyX1_ok nmX1 hown hK hP hD hS 0 rfl rfl 6 (by decide) (hts (.fieldLink RX1 59 "ModeDeskModel" "warning" "Z") (by decide +kernel)) (fun _ h9 => h9) rfl (by decide +kernel) (bz_n bz1) (bz_f bz1) (Nat.le_of_ble_eq_true rfl) dX1_goOff_24 (fun H35 locs hP hD hS => ?_)
      obtain ⟨u34, eu34⟩ : ∃ y : MS, y = mw_ u3 1 := ⟨_, rfl⟩
      have hP : va_P D vwCl (wM cI cZ h u34) H35 := by rw [eu34]; exact hP
      have hD : va_D A (wM cI cZ h u34) := by rw [eu34]; exact hD
      have hIu34 : InvM n u34 := by rw [eu34]; exact InvM.sw hIu3 bz1
      refine lv_aload_n hx hb dX1_goOff_27 rfl (lv_at hl 0 rfl) ?_
      refine lv_iconst (v := 0) hx hb dX1_goOff_28 (by decide) ?_
      refine va_put (D := D) (ci := 1) (v := .int 0) (ty := .boolean) (C := RX1) (T := TX1) (N := 15) hx hb hts hin tyX1 tyX1_ok nmX1 hown hK hP hD hS 0 rfl rfl 5 (by decide) (hts (.fieldLink RX1 62 "ModeDeskModel" "engaged" "Z") (by decide +kernel)) (fun _ h9 => h9) rfl (by decide +kernel) (bz_n bz0) (bz_f bz0) (Nat.le_of_ble_eq_true rfl) dX1_goOff_29 (fun H37 locs hP hD hS => ?_)
      obtain ⟨u36, eu36⟩ : ∃ y : MS, y = me_ u34 0 := ⟨_, rfl⟩
      have hP : va_P D vwCl (wM cI cZ h u36) H37 := by rw [eu36]; exact hP
      have hD : va_D A (wM cI cZ h u36) := by rw [eu36]; exact hD
      have hIu36 : InvM n u36 := by rw [eu36]; exact InvM.se hIu34 bz0
      refine lv_aload_n hx hb dX1_goOff_32 rfl (lv_at hl 0 rfl) ?_
      refine lv_iconst (v := 0) hx hb dX1_goOff_33 (by decide) ?_
      refine lv_iload_n hx hb dX1_goOff_34 rfl (lv_at hl 1 rfl) ?_
      have hFc := va_free (wc := wM cI cZ h u36) hD hS hA [0, 1, 2] rfl
      refine va_callv (va_runV (As := [.int 0, .int a1]) (rest := []) ⟨hx, hb, hml, hown, hts⟩ (kX1_lateralTo l D cI cZ h H37.size u36 0 a1 n hIu36 (by omega)) (cwV 2 hts gX1_goOff_X1_lateralTo rfl rfl rfl (by decide +kernel) ⟨Nat.le_of_ble_eq_true rfl, Nat.le_of_ble_eq_true rfl⟩) ⟨bl_W, va_recv hK hP (ci := 1) (q0 := 0) rfl rfl, pr_W hP hK hD⟩ rfl rfl hl.1 rfl (lv_room (Nat.le_of_ble_eq_true rfl)) dX1_goOff_35 ⟨Nat.zero_le _, Nat.zero_le _⟩) hS (fun q _ h9 => hFc q h9) hFc (fun u40 t H39 locs ht hvm hw hB hz1 hk1 hS => ?_)
      obtain ⟨hP, hK, hD⟩ := af_W hB ht hvm hFc
      clear hFc hB
      obtain ⟨eu40, hIu40⟩ := hw
      refine lv_aload_n hx hb dX1_goOff_38 rfl (lv_at hl 0 rfl) ?_
      refine lv_iconst (v := 0) hx hb dX1_goOff_39 (by decide) ?_
      refine lv_iload_n hx hb dX1_goOff_40 rfl (lv_at hl 1 rfl) ?_
      have hFc := va_free (wc := wM cI cZ h u40) hD hS hA [0, 1, 2] rfl
      refine va_callv (va_runV (As := [.int 0, .int a1]) (rest := []) ⟨hx, hb, hml, hown, hts⟩ (kX1_verticalTo l D cI cZ h H39.size u40 0 a1 (n + 1) hIu40 (by omega)) (cwV 2 hts gX1_goOff_X1_verticalTo rfl rfl rfl (by decide +kernel) ⟨Nat.le_of_ble_eq_true rfl, Nat.le_of_ble_eq_true rfl⟩) ⟨bl_W, va_recv hK hP (ci := 1) (q0 := 0) rfl rfl, pr_W hP hK hD⟩ rfl rfl hl.1 rfl (lv_room (Nat.le_of_ble_eq_true rfl)) dX1_goOff_41 ⟨Nat.zero_le _, Nat.zero_le _⟩) hS (fun q _ h9 => hFc q h9) hFc (fun u43 t H42 locs ht hvm hw hB hz1 hk1 hS => ?_)
      obtain ⟨hP, hK, hD⟩ := af_W hB ht hvm hFc
      clear hFc hB
      obtain ⟨eu43, hIu43⟩ := hw
      have hIu43 : InvM (n + 2) u43 := hIu43.mono (by omega)
      refine lv_aload_n hx hb dX1_goOff_44 rfl (lv_at hl 0 rfl) ?_
      refine lv_iconst (v := 0) hx hb dX1_goOff_45 (by decide) ?_
      refine va_put (D := D) (ci := 1) (v := .int 0) (ty := .int) (C := RX1) (T := TX1) (N := 15) hx hb hts hin tyX1 tyX1_ok nmX1 hown hK hP hD hS 0 rfl rfl 11 (by decide) (hts (.fieldLink RX1 33 "ModeDeskModel" "flash0" "I") (by decide +kernel)) (fun _ h9 => h9) rfl (by decide +kernel) rfl rfl (Nat.le_of_ble_eq_true rfl) dX1_goOff_46 (fun H45 locs hP hD hS => ?_)
      obtain ⟨u44, eu44⟩ : ∃ y : MS, y = mf_ u43 0 := ⟨_, rfl⟩
      have hP : va_P D vwCl (wM cI cZ h u44) H45 := by rw [eu44]; exact hP
      have hD : va_D A (wM cI cZ h u44) := by rw [eu44]; exact hD
      have hIu44 : InvM (n + 2) u44 := by rw [eu44]; exact InvM.sf hIu43 _
      refine lv_aload_n hx hb dX1_goOff_49 rfl (lv_at hl 0 rfl) ?_
      refine lv_iconst (v := 0) hx hb dX1_goOff_50 (by decide) ?_
      refine va_put (D := D) (ci := 1) (v := .int 0) (ty := .int) (C := RX1) (T := TX1) (N := 15) hx hb hts hin tyX1 tyX1_ok nmX1 hown hK hP hD hS 0 rfl rfl 12 (by decide) (hts (.fieldLink RX1 39 "ModeDeskModel" "flash1" "I") (by decide +kernel)) (fun _ h9 => h9) rfl (by decide +kernel) rfl rfl (Nat.le_of_ble_eq_true rfl) dX1_goOff_51 (fun H47 locs hP hD hS => ?_)
      obtain ⟨u46, eu46⟩ : ∃ y : MS, y = mh_ u44 0 := ⟨_, rfl⟩
      have hP : va_P D vwCl (wM cI cZ h u46) H47 := by rw [eu46]; exact hP
      have hD : va_D A (wM cI cZ h u46) := by rw [eu46]; exact hD
      have hIu46 : InvM (n + 2) u46 := by rw [eu46]; exact InvM.sh hIu44 _
      have hq1 : pX1_goOff u a1 = u46 := (by subst eu46; subst eu44; subst eu43; subst eu40; subst eu36; subst eu34; subst eu3; unfold pX1_goOff; first | (rw [if_pos c4, if_neg c19]; done) | (rw [if_pos c4, if_neg c19]; rfl))
      exact W.vret hx hb hr (fun t ht hW => ⟨⟨u46, rfl, ⟨hq1.symm, hIu46⟩, by rw [ht]; exact hP, va_K.moved hW.alike hK, hD⟩, hS.F ht⟩) hS.2.2 dX1_goOff_54
def pX1_isBad (u : MS) (a1 : Int32) : Int32 := if a1 = 0 then ((mb u)) else ((md u))
set_option maxHeartbeats 4000000 in
set_option maxRecDepth 100000 in
theorem kX1_isBad (l : Launch) (D : va_G) (cI cZ : ClassId) (h : Nat → Nat) (sz : Nat) (u : MS) (a1 : Int32) (n : Nat) (hI : InvM n u) (hn : n ≤ 2000000) : Mi l yX1_isBad wsX1_isBad { frames := 0, cells := 0, slots := 0, locals := 0 } D (tyl cI cZ) (wM cI cZ h) sz u [.ref (h 0), .int a1] (fun r u9 => r = pX1_isBad u a1 ∧ u9 = u ∧ bz r) := by
  refine Met.ofW (cc := cX1_isBad) (maxL := 2) (ret := (some .boolean)) (by decide) rfl ?_
  intro p e s m args below meth c s₁ B hml hv
  obtain ⟨rfl, hsz, hP, hK, hD0⟩ := hv
  have hx := B.exec
  have hb := B.bytes
  have hr := B.returns
  have hts := atoms_spec (ws := wsX1_isBad) B.pre
  have hin : ∀ w ∈ wsX10, w ∈ wsX1_isBad := fun w h9 => List.mem_cons_of_mem _ (List.mem_append_right _ h9)
  have hown : s.vm.findClass RX1 = some m.cls := findClass_of_methodNamed B.named
  have hlocks := B.notSynchronized
  subst hsz
  have hD : va_D (va_A (wM cI cZ h u) s.heap.size) (wM cI cZ h u) := hD0.self (sz := s.heap.size)
  have hA : ∀ q : Nat, s.heap.size ≤ q → va_A (wM cI cZ h u) s.heap.size q := fun q h9 => Or.inr h9
  have hS : va_S (va_A (wM cI cZ h u) s.heap.size) s.heap s.heap [] := va_S.rf
  have hl := lv_entry ([.ref (h 0), .int a1]) (n := 2) (Nat.le_of_ble_eq_true rfl)
  rw [lg_entry_eq]
  generalize (lg_sl ([.ref (h 0), .int a1]) ++ List.replicate (2 - (lg_sl ([.ref (h 0), .int a1])).length) Slot.unset).toArray = ls at hl ⊢
  have hl : lv_has ls 2 [(0, .ref (h 0)), (1, .int a1)] := hl
  generalize va_A (wM cI cZ h u) s.heap.size = A at hD hA hS ⊢
  refine lv_iload_n hx hb dX1_isBad_0 rfl (lv_at hl 1 rfl) ?_
  refine lv_if_ne (tgt := 11) hx hb dX1_isBad_1 (by decide) (fun c1 => ?_) (fun c1 => ?_)
  · refine lv_aload_n hx hb dX1_isBad_11 rfl (lv_at hl 0 rfl) ?_
    refine va_get (D := D) (ci := 1) (v := .int (md u)) (C := RX1) (T := TX1) (N := 15) hx hb hts hin hown hK hP 0 rfl rfl 8 (by decide) (hts (.fieldLink RX1 68 "ModeDeskModel" "bad1" "Z") (by decide +kernel)) (fun _ h9 => h9) rfl dX1_isBad_12 ?_
    have hq1 : pX1_isBad u a1 = (md u) := (by unfold pX1_isBad; first | (rw [if_neg c1]; done) | (rw [if_neg c1]; rfl))
    exact W.zret (v := (md u)) hx hb hr (bz_n hI.2.2.2.2.1) (fun t ht hW => ⟨⟨(md u), u, rfl, ⟨hq1.symm, rfl, hI.2.2.2.2.1⟩, by rw [ht]; exact hP, va_K.moved hW.alike hK, hD⟩, hS.F ht⟩) hS.2.2 dX1_isBad_15
  · refine lv_aload_n hx hb dX1_isBad_4 rfl (lv_at hl 0 rfl) ?_
    refine va_get (D := D) (ci := 1) (v := .int (mb u)) (C := RX1) (T := TX1) (N := 15) hx hb hts hin hown hK hP 0 rfl rfl 7 (by decide) (hts (.fieldLink RX1 65 "ModeDeskModel" "bad0" "Z") (by decide +kernel)) (fun _ h9 => h9) rfl dX1_isBad_5 ?_
    refine lv_goto (tgt := 15) hx hb dX1_isBad_8 (by decide) ?_
    have hq1 : pX1_isBad u a1 = (mb u) := (by unfold pX1_isBad; first | (rw [if_pos c1]; done) | (rw [if_pos c1]; rfl))
    exact W.zret (v := (mb u)) hx hb hr (bz_n hI.2.2.2.1) (fun t ht hW => ⟨⟨(mb u), u, rfl, ⟨hq1.symm, rfl, hI.2.2.2.1⟩, by rw [ht]; exact hP, va_K.moved hW.alike hK, hD⟩, hS.F ht⟩) hS.2.2 dX1_isBad_15
def pX1_size (a1 : Int32) : Int32 := if 0 ≤ a1 then (a1) else ((-a1))
set_option maxHeartbeats 4000000 in
set_option maxRecDepth 100000 in
theorem kX1_size (l : Launch) (D : va_G) (tys : List (ClassId × FieldType)) (sz : Nat) (a1 : Int32) : Mi l yX1_size wsX1_size { frames := 0, cells := 0, slots := 0, locals := 0 } D tys wE sz () [.int a1] (fun r _ => r = pX1_size a1) := by
  refine Met.ofW (cc := cX1_size) (maxL := 1) (ret := (some .int)) (by decide) rfl ?_
  intro p e s m args below meth c s₁ B hml hv
  obtain ⟨rfl, hsz, hP, hK, hD0⟩ := hv
  have hx := B.exec
  have hb := B.bytes
  have hr := B.returns
  have hts := atoms_spec (ws := wsX1_size) B.pre
  have hown : s.vm.findClass RX1 = some m.cls := findClass_of_methodNamed B.named
  have hlocks := B.notSynchronized
  subst hsz
  have hD : va_D (va_A (wE ()) s.heap.size) (wE ()) := hD0.self (sz := s.heap.size)
  have hA : ∀ q : Nat, s.heap.size ≤ q → va_A (wE ()) s.heap.size q := fun q h9 => Or.inr h9
  have hS : va_S (va_A (wE ()) s.heap.size) s.heap s.heap [] := va_S.rf
  have hl := lv_entry ([.int a1]) (n := 1) (Nat.le_of_ble_eq_true rfl)
  rw [lg_entry_eq]
  generalize (lg_sl ([.int a1]) ++ List.replicate (1 - (lg_sl ([.int a1])).length) Slot.unset).toArray = ls at hl ⊢
  have hl : lv_has ls 1 [(0, .int a1)] := hl
  generalize va_A (wE ()) s.heap.size = A at hD hA hS ⊢
  refine lv_iload_n hx hb dX1_size_0 rfl (lv_at hl 0 rfl) ?_
  refine lv_if_ge (tgt := 9) hx hb dX1_size_1 (by decide) (fun c1 => ?_) (fun c1 => ?_)
  · refine lv_iload_n hx hb dX1_size_9 rfl (lv_at hl 0 rfl) ?_
    have hq1 : pX1_size a1 = a1 := (by unfold pX1_size; first | (rw [if_pos c1]; done) | (rw [if_pos c1]; rfl))
    exact W.iret (v := a1) hx hb hr (fun t ht hW => ⟨⟨a1, (), rfl, hq1.symm, by rw [ht]; exact hP, va_K.moved hW.alike hK, hD⟩, hS.F ht⟩) hS.2.2 dX1_size_10
  · refine lv_iload_n hx hb dX1_size_4 rfl (lv_at hl 0 rfl) ?_
    refine lv_ineg hx hb dX1_size_5 ?_
    refine lv_goto (tgt := 10) hx hb dX1_size_6 (by decide) ?_
    have hq1 : pX1_size a1 = (-a1) := (by unfold pX1_size; first | (rw [if_neg c1]; done) | (rw [if_neg c1]; rfl))
    exact W.iret (v := (-a1)) hx hb hr (fun t ht hW => ⟨⟨(-a1), (), rfl, hq1.symm, by rw [ht]; exact hP, va_K.moved hW.alike hK, hD⟩, hS.F ht⟩) hS.2.2 dX1_size_10
def pX1_apart (u : MS) : Int32 := (pX1_size ((mV u (Int32.toNatClampNeg 2)) - (mV u (Int32.toNatClampNeg 3))))
set_option maxHeartbeats 4000000 in
set_option maxRecDepth 100000 in
theorem kX1_apart (l : Launch) (D : va_G) (cI cZ : ClassId) (h : Nat → Nat) (sz : Nat) (u : MS) (n : Nat) (hI : InvM n u) (hn : n ≤ 2000000) : Mi l yX1_apart wsX1_apart { frames := 1, cells := 0, slots := 0, locals := 20 } D (tyl cI cZ) (wM cI cZ h) sz u [.ref (h 0)] (fun r u9 => r = pX1_apart u ∧ u9 = u) := by
  refine Met.ofW (cc := cX1_apart) (maxL := 1) (ret := (some .int)) (by decide) rfl ?_
  intro p e s m args below meth c s₁ B hml hv
  obtain ⟨rfl, hsz, hP, hK, hD0⟩ := hv
  have hx := B.exec
  have hb := B.bytes
  have hr := B.returns
  have hts := atoms_spec (ws := wsX1_apart) B.pre
  have hin : ∀ w ∈ wsX10, w ∈ wsX1_apart := fun w h9 => List.mem_cons_of_mem _ (List.mem_append_right _ h9)
  have hown : s.vm.findClass RX1 = some m.cls := findClass_of_methodNamed B.named
  have hlocks := B.notSynchronized
  subst hsz
  have hD : va_D (va_A (wM cI cZ h u) s.heap.size) (wM cI cZ h u) := hD0.self (sz := s.heap.size)
  have hA : ∀ q : Nat, s.heap.size ≤ q → va_A (wM cI cZ h u) s.heap.size q := fun q h9 => Or.inr h9
  have hS : va_S (va_A (wM cI cZ h u) s.heap.size) s.heap s.heap [] := va_S.rf
  have hl := lv_entry ([.ref (h 0)]) (n := 1) (Nat.le_of_ble_eq_true rfl)
  rw [lg_entry_eq]
  generalize (lg_sl ([.ref (h 0)]) ++ List.replicate (1 - (lg_sl ([.ref (h 0)])).length) Slot.unset).toArray = ls at hl ⊢
  have hl : lv_has ls 1 [(0, .ref (h 0))] := hl
  generalize va_A (wM cI cZ h u) s.heap.size = A at hD hA hS ⊢
  refine lv_aload_n hx hb dX1_apart_0 rfl (lv_at hl 0 rfl) ?_
  refine va_get (D := D) (ci := 1) (v := .ref (h 1)) (C := RX1) (T := TX1) (N := 15) hx hb hts hin hown hK hP 0 rfl rfl 10 (by decide) (hts (.fieldLink RX1 7 "ModeDeskModel" "values" "[I") (by decide +kernel)) (fun _ h9 => h9) rfl dX1_apart_1 ?_
  refine lv_iconst (v := 2) hx hb dX1_apart_4 (by decide) ?_
  refine va_iald hx hb hK hP 1 0 rfl rfl (vi_c (by decide)) dX1_apart_5 ?_
  refine lv_aload_n hx hb dX1_apart_6 rfl (lv_at hl 0 rfl) ?_
  refine va_get (D := D) (ci := 1) (v := .ref (h 1)) (C := RX1) (T := TX1) (N := 15) hx hb hts hin hown hK hP 0 rfl rfl 10 (by decide) (hts (.fieldLink RX1 7 "ModeDeskModel" "values" "[I") (by decide +kernel)) (fun _ h9 => h9) rfl dX1_apart_7 ?_
  refine lv_iconst (v := 3) hx hb dX1_apart_10 (by decide) ?_
  refine va_iald hx hb hK hP 1 0 rfl rfl (vi_c (by decide)) dX1_apart_11 ?_
  refine lv_isub hx hb dX1_apart_12 ?_
  refine va_calli (va_runS (As := [.int ((mV u (Int32.toNatClampNeg 2)) - (mV u (Int32.toNatClampNeg 3)))]) (rest := []) ⟨hx, hb, hml, hown, hts⟩ (kX1_size l D (tyl cI cZ) s.heap.size ((mV u (Int32.toNatClampNeg 2)) - (mV u (Int32.toNatClampNeg 3)))) (va_cwS 1 hts gX1_apart_X1_size rfl rfl rfl (by decide +kernel) ⟨Nat.le_of_ble_eq_true rfl, Nat.le_of_ble_eq_true rfl⟩) ⟨bl_W, pr_W (ws := wE ()) pE hK (dE (A := A))⟩ rfl rfl hl.1 rfl (lv_room (Nat.le_of_ble_eq_true rfl)) dX1_apart_13 ⟨Nat.zero_le _, Nat.zero_le _⟩) hS (fun q _ h9 => fr_E hS hA q h9) (fr_E hS hA) (fun r1 u9 t H2 locs ht hvm hw hB hz1 hk1 hS => ?_)
  have hP := af_E hP hk1
  have er1 := hw
  have hq1 : pX1_apart u = r1 := (by subst er1; rfl)
  exact W.iret (v := r1) hx hb hr (fun t ht hW => ⟨⟨r1, u, rfl, ⟨hq1.symm, rfl⟩, by rw [ht]; exact hP, va_K.moved hW.alike hK, hD⟩, hS.F ht⟩) hS.2.2 dX1_apart_16
